/-! a field written, seen late -/
theorem pq_0_0 {s : zS} {q : Nat} {x : Int32} {F : zH → Nat → Nat → Prop} {kc ks : Nat} (h : gD s q = 4) (h16 : 16 ≤ q) : (zob ((hOf s).1 q) 0 fun fs => 0 < fs.length ∧ zfit (zty 0 0) (.int x) = true ∧ F (zup (hOf s) q (.inr (1, fs.set 0 (.int x)))) kc ks) = F (hOf (sI s q 0 x)) kc ks := by
  rw [← pp_0_0 (F := F) (x := x) (kc := kc) (ks := ks) h h16]
  congr 1
  funext fs
  exact propext ⟨fun z => ⟨h16, z⟩, fun z => z.2⟩
theorem pw_0_0 {s : zS} {q : Nat} {x : Int32} {F : zH → Prop} (h : gD s q = 4) (h16 : 16 ≤ q) : (zob ((hOf s).1 q) 0 fun fs => 0 < fs.length ∧ zfit (zty 0 0) (.int x) = true ∧ F (zup (hOf s) q (.inr (1, fs.set 0 (.int x))))) = F (hOf (sI s q 0 x)) := pq_0_0 (F := fun h _ _ => F h) (kc := 0) (ks := 0) h h16
theorem pq_0_1 {s : zS} {q : Nat} {x : Nat} {F : zH → Nat → Nat → Prop} {kc ks : Nat} (h : gD s q = 4) (h16 : 16 ≤ q) : (zob ((hOf s).1 q) 0 fun fs => 1 < fs.length ∧ zfit (zty 0 1) (.ref x) = true ∧ F (zup (hOf s) q (.inr (1, fs.set 1 (.ref x)))) kc ks) = F (hOf (sR s q 1 x)) kc ks := by
  rw [← pp_0_1 (F := F) (x := x) (kc := kc) (ks := ks) h h16]
  congr 1
  funext fs
  exact propext ⟨fun z => ⟨h16, z⟩, fun z => z.2⟩
theorem pw_0_1 {s : zS} {q : Nat} {x : Nat} {F : zH → Prop} (h : gD s q = 4) (h16 : 16 ≤ q) : (zob ((hOf s).1 q) 0 fun fs => 1 < fs.length ∧ zfit (zty 0 1) (.ref x) = true ∧ F (zup (hOf s) q (.inr (1, fs.set 1 (.ref x))))) = F (hOf (sR s q 1 x)) := pq_0_1 (F := fun h _ _ => F h) (kc := 0) (ks := 0) h h16
theorem pq_0_2 {s : zS} {q : Nat} {x : Nat} {F : zH → Nat → Nat → Prop} {kc ks : Nat} (h : gD s q = 4) (h16 : 16 ≤ q) : (zob ((hOf s).1 q) 0 fun fs => 2 < fs.length ∧ zfit (zty 0 2) (.ref x) = true ∧ F (zup (hOf s) q (.inr (1, fs.set 2 (.ref x)))) kc ks) = F (hOf (sR s q 2 x)) kc ks := by
  rw [← pp_0_2 (F := F) (x := x) (kc := kc) (ks := ks) h h16]
  congr 1
  funext fs
  exact propext ⟨fun z => ⟨h16, z⟩, fun z => z.2⟩
theorem pw_0_2 {s : zS} {q : Nat} {x : Nat} {F : zH → Prop} (h : gD s q = 4) (h16 : 16 ≤ q) : (zob ((hOf s).1 q) 0 fun fs => 2 < fs.length ∧ zfit (zty 0 2) (.ref x) = true ∧ F (zup (hOf s) q (.inr (1, fs.set 2 (.ref x))))) = F (hOf (sR s q 2 x)) := pq_0_2 (F := fun h _ _ => F h) (kc := 0) (ks := 0) h h16
theorem pq_0_3 {s : zS} {q : Nat} {x : Nat} {F : zH → Nat → Nat → Prop} {kc ks : Nat} (h : gD s q = 4) (h16 : 16 ≤ q) : (zob ((hOf s).1 q) 0 fun fs => 3 < fs.length ∧ zfit (zty 0 3) (.ref x) = true ∧ F (zup (hOf s) q (.inr (1, fs.set 3 (.ref x)))) kc ks) = F (hOf (sR s q 3 x)) kc ks := by
  rw [← pp_0_3 (F := F) (x := x) (kc := kc) (ks := ks) h h16]
  congr 1
  funext fs
  exact propext ⟨fun z => ⟨h16, z⟩, fun z => z.2⟩
theorem pw_0_3 {s : zS} {q : Nat} {x : Nat} {F : zH → Prop} (h : gD s q = 4) (h16 : 16 ≤ q) : (zob ((hOf s).1 q) 0 fun fs => 3 < fs.length ∧ zfit (zty 0 3) (.ref x) = true ∧ F (zup (hOf s) q (.inr (1, fs.set 3 (.ref x))))) = F (hOf (sR s q 3 x)) := pq_0_3 (F := fun h _ _ => F h) (kc := 0) (ks := 0) h h16
theorem pq_1_0 {s : zS} {q : Nat} {x : Int32} {F : zH → Nat → Nat → Prop} {kc ks : Nat} (h : gD s q = 5) (h16 : 16 ≤ q) : (zob ((hOf s).1 q) 1 fun fs => 0 < fs.length ∧ zfit (zty 1 0) (.int x) = true ∧ F (zup (hOf s) q (.inr (2, fs.set 0 (.int x)))) kc ks) = F (hOf (sI s q 0 x)) kc ks := by
  rw [← pp_1_0 (F := F) (x := x) (kc := kc) (ks := ks) h h16]
  congr 1
  funext fs
  exact propext ⟨fun z => ⟨h16, z⟩, fun z => z.2⟩
theorem pw_1_0 {s : zS} {q : Nat} {x : Int32} {F : zH → Prop} (h : gD s q = 5) (h16 : 16 ≤ q) : (zob ((hOf s).1 q) 1 fun fs => 0 < fs.length ∧ zfit (zty 1 0) (.int x) = true ∧ F (zup (hOf s) q (.inr (2, fs.set 0 (.int x))))) = F (hOf (sI s q 0 x)) := pq_1_0 (F := fun h _ _ => F h) (kc := 0) (ks := 0) h h16
theorem pq_1_1 {s : zS} {q : Nat} {x : Int32} {F : zH → Nat → Nat → Prop} {kc ks : Nat} (h : gD s q = 5) (h16 : 16 ≤ q) : (zob ((hOf s).1 q) 1 fun fs => 1 < fs.length ∧ zfit (zty 1 1) (.int x) = true ∧ F (zup (hOf s) q (.inr (2, fs.set 1 (.int x)))) kc ks) = F (hOf (sI s q 1 x)) kc ks := by
  rw [← pp_1_1 (F := F) (x := x) (kc := kc) (ks := ks) h h16]
  congr 1
  funext fs
  exact propext ⟨fun z => ⟨h16, z⟩, fun z => z.2⟩
theorem pw_1_1 {s : zS} {q : Nat} {x : Int32} {F : zH → Prop} (h : gD s q = 5) (h16 : 16 ≤ q) : (zob ((hOf s).1 q) 1 fun fs => 1 < fs.length ∧ zfit (zty 1 1) (.int x) = true ∧ F (zup (hOf s) q (.inr (2, fs.set 1 (.int x))))) = F (hOf (sI s q 1 x)) := pq_1_1 (F := fun h _ _ => F h) (kc := 0) (ks := 0) h h16
theorem pq_1_2 {s : zS} {q : Nat} {x : Int32} {F : zH → Nat → Nat → Prop} {kc ks : Nat} (h : gD s q = 5) (h16 : 16 ≤ q) : (zob ((hOf s).1 q) 1 fun fs => 2 < fs.length ∧ zfit (zty 1 2) (.int x) = true ∧ F (zup (hOf s) q (.inr (2, fs.set 2 (.int x)))) kc ks) = F (hOf (sI s q 2 x)) kc ks := by
  rw [← pp_1_2 (F := F) (x := x) (kc := kc) (ks := ks) h h16]
  congr 1
  funext fs
  exact propext ⟨fun z => ⟨h16, z⟩, fun z => z.2⟩
theorem pw_1_2 {s : zS} {q : Nat} {x : Int32} {F : zH → Prop} (h : gD s q = 5) (h16 : 16 ≤ q) : (zob ((hOf s).1 q) 1 fun fs => 2 < fs.length ∧ zfit (zty 1 2) (.int x) = true ∧ F (zup (hOf s) q (.inr (2, fs.set 2 (.int x))))) = F (hOf (sI s q 2 x)) := pq_1_2 (F := fun h _ _ => F h) (kc := 0) (ks := 0) h h16
theorem pq_1_3 {s : zS} {q : Nat} {x : Nat} {F : zH → Nat → Nat → Prop} {kc ks : Nat} (h : gD s q = 5) (h16 : 16 ≤ q) : (zob ((hOf s).1 q) 1 fun fs => 3 < fs.length ∧ zfit (zty 1 3) (.ref x) = true ∧ F (zup (hOf s) q (.inr (2, fs.set 3 (.ref x)))) kc ks) = F (hOf (sR s q 3 x)) kc ks := by
  rw [← pp_1_3 (F := F) (x := x) (kc := kc) (ks := ks) h h16]
  congr 1
  funext fs
  exact propext ⟨fun z => ⟨h16, z⟩, fun z => z.2⟩
theorem pw_1_3 {s : zS} {q : Nat} {x : Nat} {F : zH → Prop} (h : gD s q = 5) (h16 : 16 ≤ q) : (zob ((hOf s).1 q) 1 fun fs => 3 < fs.length ∧ zfit (zty 1 3) (.ref x) = true ∧ F (zup (hOf s) q (.inr (2, fs.set 3 (.ref x))))) = F (hOf (sR s q 3 x)) := pq_1_3 (F := fun h _ _ => F h) (kc := 0) (ks := 0) h h16
theorem pq_1_4 {s : zS} {q : Nat} {x : Nat} {F : zH → Nat → Nat → Prop} {kc ks : Nat} (h : gD s q = 5) (h16 : 16 ≤ q) : (zob ((hOf s).1 q) 1 fun fs => 4 < fs.length ∧ zfit (zty 1 4) (.ref x) = true ∧ F (zup (hOf s) q (.inr (2, fs.set 4 (.ref x)))) kc ks) = F (hOf (sR s q 4 x)) kc ks := by
  rw [← pp_1_4 (F := F) (x := x) (kc := kc) (ks := ks) h h16]
  congr 1
  funext fs
  exact propext ⟨fun z => ⟨h16, z⟩, fun z => z.2⟩
theorem pw_1_4 {s : zS} {q : Nat} {x : Nat} {F : zH → Prop} (h : gD s q = 5) (h16 : 16 ≤ q) : (zob ((hOf s).1 q) 1 fun fs => 4 < fs.length ∧ zfit (zty 1 4) (.ref x) = true ∧ F (zup (hOf s) q (.inr (2, fs.set 4 (.ref x))))) = F (hOf (sR s q 4 x)) := pq_1_4 (F := fun h _ _ => F h) (kc := 0) (ks := 0) h h16
theorem pq_1_5 {s : zS} {q : Nat} {x : Nat} {F : zH → Nat → Nat → Prop} {kc ks : Nat} (h : gD s q = 5) (h16 : 16 ≤ q) : (zob ((hOf s).1 q) 1 fun fs => 5 < fs.length ∧ zfit (zty 1 5) (.ref x) = true ∧ F (zup (hOf s) q (.inr (2, fs.set 5 (.ref x)))) kc ks) = F (hOf (sR s q 5 x)) kc ks := by
  rw [← pp_1_5 (F := F) (x := x) (kc := kc) (ks := ks) h h16]
  congr 1
  funext fs
  exact propext ⟨fun z => ⟨h16, z⟩, fun z => z.2⟩
theorem pw_1_5 {s : zS} {q : Nat} {x : Nat} {F : zH → Prop} (h : gD s q = 5) (h16 : 16 ≤ q) : (zob ((hOf s).1 q) 1 fun fs => 5 < fs.length ∧ zfit (zty 1 5) (.ref x) = true ∧ F (zup (hOf s) q (.inr (2, fs.set 5 (.ref x))))) = F (hOf (sR s q 5 x)) := pq_1_5 (F := fun h _ _ => F h) (kc := 0) (ks := 0) h h16
theorem pq_1_6 {s : zS} {q : Nat} {x : Int32} {F : zH → Nat → Nat → Prop} {kc ks : Nat} (h : gD s q = 5) (h16 : 16 ≤ q) : (zob ((hOf s).1 q) 1 fun fs => 6 < fs.length ∧ zfit (zty 1 6) (.int x) = true ∧ F (zup (hOf s) q (.inr (2, fs.set 6 (.int x)))) kc ks) = F (hOf (sI s q 6 x)) kc ks := by
  rw [← pp_1_6 (F := F) (x := x) (kc := kc) (ks := ks) h h16]
  congr 1
  funext fs
  exact propext ⟨fun z => ⟨h16, z⟩, fun z => z.2⟩
theorem pw_1_6 {s : zS} {q : Nat} {x : Int32} {F : zH → Prop} (h : gD s q = 5) (h16 : 16 ≤ q) : (zob ((hOf s).1 q) 1 fun fs => 6 < fs.length ∧ zfit (zty 1 6) (.int x) = true ∧ F (zup (hOf s) q (.inr (2, fs.set 6 (.int x))))) = F (hOf (sI s q 6 x)) := pq_1_6 (F := fun h _ _ => F h) (kc := 0) (ks := 0) h h16
theorem pq_2_0 {s : zS} {q : Nat} {x : Int32} {F : zH → Nat → Nat → Prop} {kc ks : Nat} (h : gD s q = 6) (h16 : 16 ≤ q) : (zob ((hOf s).1 q) 2 fun fs => 0 < fs.length ∧ zfit (zty 2 0) (.int x) = true ∧ F (zup (hOf s) q (.inr (3, fs.set 0 (.int x)))) kc ks) = F (hOf (sI s q 0 x)) kc ks := by
  rw [← pp_2_0 (F := F) (x := x) (kc := kc) (ks := ks) h h16]
  congr 1
  funext fs
  exact propext ⟨fun z => ⟨h16, z⟩, fun z => z.2⟩
theorem pw_2_0 {s : zS} {q : Nat} {x : Int32} {F : zH → Prop} (h : gD s q = 6) (h16 : 16 ≤ q) : (zob ((hOf s).1 q) 2 fun fs => 0 < fs.length ∧ zfit (zty 2 0) (.int x) = true ∧ F (zup (hOf s) q (.inr (3, fs.set 0 (.int x))))) = F (hOf (sI s q 0 x)) := pq_2_0 (F := fun h _ _ => F h) (kc := 0) (ks := 0) h h16
theorem pq_2_1 {s : zS} {q : Nat} {x : Nat} {F : zH → Nat → Nat → Prop} {kc ks : Nat} (h : gD s q = 6) (h16 : 16 ≤ q) : (zob ((hOf s).1 q) 2 fun fs => 1 < fs.length ∧ zfit (zty 2 1) (.ref x) = true ∧ F (zup (hOf s) q (.inr (3, fs.set 1 (.ref x)))) kc ks) = F (hOf (sR s q 1 x)) kc ks := by
  rw [← pp_2_1 (F := F) (x := x) (kc := kc) (ks := ks) h h16]
  congr 1
  funext fs
  exact propext ⟨fun z => ⟨h16, z⟩, fun z => z.2⟩
theorem pw_2_1 {s : zS} {q : Nat} {x : Nat} {F : zH → Prop} (h : gD s q = 6) (h16 : 16 ≤ q) : (zob ((hOf s).1 q) 2 fun fs => 1 < fs.length ∧ zfit (zty 2 1) (.ref x) = true ∧ F (zup (hOf s) q (.inr (3, fs.set 1 (.ref x))))) = F (hOf (sR s q 1 x)) := pq_2_1 (F := fun h _ _ => F h) (kc := 0) (ks := 0) h h16
theorem pq_2_2 {s : zS} {q : Nat} {x : Nat} {F : zH → Nat → Nat → Prop} {kc ks : Nat} (h : gD s q = 6) (h16 : 16 ≤ q) : (zob ((hOf s).1 q) 2 fun fs => 2 < fs.length ∧ zfit (zty 2 2) (.ref x) = true ∧ F (zup (hOf s) q (.inr (3, fs.set 2 (.ref x)))) kc ks) = F (hOf (sR s q 2 x)) kc ks := by
  rw [← pp_2_2 (F := F) (x := x) (kc := kc) (ks := ks) h h16]
  congr 1
  funext fs
  exact propext ⟨fun z => ⟨h16, z⟩, fun z => z.2⟩
theorem pw_2_2 {s : zS} {q : Nat} {x : Nat} {F : zH → Prop} (h : gD s q = 6) (h16 : 16 ≤ q) : (zob ((hOf s).1 q) 2 fun fs => 2 < fs.length ∧ zfit (zty 2 2) (.ref x) = true ∧ F (zup (hOf s) q (.inr (3, fs.set 2 (.ref x))))) = F (hOf (sR s q 2 x)) := pq_2_2 (F := fun h _ _ => F h) (kc := 0) (ks := 0) h h16
theorem pq_2_3 {s : zS} {q : Nat} {x : Nat} {F : zH → Nat → Nat → Prop} {kc ks : Nat} (h : gD s q = 6) (h16 : 16 ≤ q) : (zob ((hOf s).1 q) 2 fun fs => 3 < fs.length ∧ zfit (zty 2 3) (.ref x) = true ∧ F (zup (hOf s) q (.inr (3, fs.set 3 (.ref x)))) kc ks) = F (hOf (sR s q 3 x)) kc ks := by
  rw [← pp_2_3 (F := F) (x := x) (kc := kc) (ks := ks) h h16]
  congr 1
  funext fs
  exact propext ⟨fun z => ⟨h16, z⟩, fun z => z.2⟩
theorem pw_2_3 {s : zS} {q : Nat} {x : Nat} {F : zH → Prop} (h : gD s q = 6) (h16 : 16 ≤ q) : (zob ((hOf s).1 q) 2 fun fs => 3 < fs.length ∧ zfit (zty 2 3) (.ref x) = true ∧ F (zup (hOf s) q (.inr (3, fs.set 3 (.ref x))))) = F (hOf (sR s q 3 x)) := pq_2_3 (F := fun h _ _ => F h) (kc := 0) (ks := 0) h h16
theorem pq_3_0 {s : zS} {q : Nat} {x : Nat} {F : zH → Nat → Nat → Prop} {kc ks : Nat} (h : gD s q = 7) (h16 : 16 ≤ q) : (zob ((hOf s).1 q) 3 fun fs => 0 < fs.length ∧ zfit (zty 3 0) (.ref x) = true ∧ F (zup (hOf s) q (.inr (4, fs.set 0 (.ref x)))) kc ks) = F (hOf (sR s q 0 x)) kc ks := by
  rw [← pp_3_0 (F := F) (x := x) (kc := kc) (ks := ks) h h16]
  congr 1
  funext fs
  exact propext ⟨fun z => ⟨h16, z⟩, fun z => z.2⟩
theorem pw_3_0 {s : zS} {q : Nat} {x : Nat} {F : zH → Prop} (h : gD s q = 7) (h16 : 16 ≤ q) : (zob ((hOf s).1 q) 3 fun fs => 0 < fs.length ∧ zfit (zty 3 0) (.ref x) = true ∧ F (zup (hOf s) q (.inr (4, fs.set 0 (.ref x))))) = F (hOf (sR s q 0 x)) := pq_3_0 (F := fun h _ _ => F h) (kc := 0) (ks := 0) h h16
theorem pq_3_1 {s : zS} {q : Nat} {x : Nat} {F : zH → Nat → Nat → Prop} {kc ks : Nat} (h : gD s q = 7) (h16 : 16 ≤ q) : (zob ((hOf s).1 q) 3 fun fs => 1 < fs.length ∧ zfit (zty 3 1) (.ref x) = true ∧ F (zup (hOf s) q (.inr (4, fs.set 1 (.ref x)))) kc ks) = F (hOf (sR s q 1 x)) kc ks := by
  rw [← pp_3_1 (F := F) (x := x) (kc := kc) (ks := ks) h h16]
  congr 1
  funext fs
  exact propext ⟨fun z => ⟨h16, z⟩, fun z => z.2⟩
theorem pw_3_1 {s : zS} {q : Nat} {x : Nat} {F : zH → Prop} (h : gD s q = 7) (h16 : 16 ≤ q) : (zob ((hOf s).1 q) 3 fun fs => 1 < fs.length ∧ zfit (zty 3 1) (.ref x) = true ∧ F (zup (hOf s) q (.inr (4, fs.set 1 (.ref x))))) = F (hOf (sR s q 1 x)) := pq_3_1 (F := fun h _ _ => F h) (kc := 0) (ks := 0) h h16
theorem pq_3_2 {s : zS} {q : Nat} {x : Nat} {F : zH → Nat → Nat → Prop} {kc ks : Nat} (h : gD s q = 7) (h16 : 16 ≤ q) : (zob ((hOf s).1 q) 3 fun fs => 2 < fs.length ∧ zfit (zty 3 2) (.ref x) = true ∧ F (zup (hOf s) q (.inr (4, fs.set 2 (.ref x)))) kc ks) = F (hOf (sR s q 2 x)) kc ks := by
  rw [← pp_3_2 (F := F) (x := x) (kc := kc) (ks := ks) h h16]
  congr 1
  funext fs
  exact propext ⟨fun z => ⟨h16, z⟩, fun z => z.2⟩
theorem pw_3_2 {s : zS} {q : Nat} {x : Nat} {F : zH → Prop} (h : gD s q = 7) (h16 : 16 ≤ q) : (zob ((hOf s).1 q) 3 fun fs => 2 < fs.length ∧ zfit (zty 3 2) (.ref x) = true ∧ F (zup (hOf s) q (.inr (4, fs.set 2 (.ref x))))) = F (hOf (sR s q 2 x)) := pq_3_2 (F := fun h _ _ => F h) (kc := 0) (ks := 0) h h16
theorem pq_3_3 {s : zS} {q : Nat} {x : Int32} {F : zH → Nat → Nat → Prop} {kc ks : Nat} (h : gD s q = 7) (h16 : 16 ≤ q) : (zob ((hOf s).1 q) 3 fun fs => 3 < fs.length ∧ zfit (zty 3 3) (.int x) = true ∧ F (zup (hOf s) q (.inr (4, fs.set 3 (.int x)))) kc ks) = F (hOf (sI s q 3 x)) kc ks := by
  rw [← pp_3_3 (F := F) (x := x) (kc := kc) (ks := ks) h h16]
  congr 1
  funext fs
  exact propext ⟨fun z => ⟨h16, z⟩, fun z => z.2⟩
theorem pw_3_3 {s : zS} {q : Nat} {x : Int32} {F : zH → Prop} (h : gD s q = 7) (h16 : 16 ≤ q) : (zob ((hOf s).1 q) 3 fun fs => 3 < fs.length ∧ zfit (zty 3 3) (.int x) = true ∧ F (zup (hOf s) q (.inr (4, fs.set 3 (.int x))))) = F (hOf (sI s q 3 x)) := pq_3_3 (F := fun h _ _ => F h) (kc := 0) (ks := 0) h h16
theorem pq_3_4 {s : zS} {q : Nat} {x : Nat} {F : zH → Nat → Nat → Prop} {kc ks : Nat} (h : gD s q = 7) (h16 : 16 ≤ q) : (zob ((hOf s).1 q) 3 fun fs => 4 < fs.length ∧ zfit (zty 3 4) (.ref x) = true ∧ F (zup (hOf s) q (.inr (4, fs.set 4 (.ref x)))) kc ks) = F (hOf (sR s q 4 x)) kc ks := by
  rw [← pp_3_4 (F := F) (x := x) (kc := kc) (ks := ks) h h16]
  congr 1
  funext fs
  exact propext ⟨fun z => ⟨h16, z⟩, fun z => z.2⟩
theorem pw_3_4 {s : zS} {q : Nat} {x : Nat} {F : zH → Prop} (h : gD s q = 7) (h16 : 16 ≤ q) : (zob ((hOf s).1 q) 3 fun fs => 4 < fs.length ∧ zfit (zty 3 4) (.ref x) = true ∧ F (zup (hOf s) q (.inr (4, fs.set 4 (.ref x))))) = F (hOf (sR s q 4 x)) := pq_3_4 (F := fun h _ _ => F h) (kc := 0) (ks := 0) h h16
theorem pq_3_5 {s : zS} {q : Nat} {x : Nat} {F : zH → Nat → Nat → Prop} {kc ks : Nat} (h : gD s q = 7) (h16 : 16 ≤ q) : (zob ((hOf s).1 q) 3 fun fs => 5 < fs.length ∧ zfit (zty 3 5) (.ref x) = true ∧ F (zup (hOf s) q (.inr (4, fs.set 5 (.ref x)))) kc ks) = F (hOf (sR s q 5 x)) kc ks := by
  rw [← pp_3_5 (F := F) (x := x) (kc := kc) (ks := ks) h h16]
  congr 1
  funext fs
  exact propext ⟨fun z => ⟨h16, z⟩, fun z => z.2⟩
theorem pw_3_5 {s : zS} {q : Nat} {x : Nat} {F : zH → Prop} (h : gD s q = 7) (h16 : 16 ≤ q) : (zob ((hOf s).1 q) 3 fun fs => 5 < fs.length ∧ zfit (zty 3 5) (.ref x) = true ∧ F (zup (hOf s) q (.inr (4, fs.set 5 (.ref x))))) = F (hOf (sR s q 5 x)) := pq_3_5 (F := fun h _ _ => F h) (kc := 0) (ks := 0) h h16
theorem pq_3_6 {s : zS} {q : Nat} {x : Int32} {F : zH → Nat → Nat → Prop} {kc ks : Nat} (h : gD s q = 7) (h16 : 16 ≤ q) : (zob ((hOf s).1 q) 3 fun fs => 6 < fs.length ∧ zfit (zty 3 6) (.int x) = true ∧ F (zup (hOf s) q (.inr (4, fs.set 6 (.int x)))) kc ks) = F (hOf (sI s q 6 x)) kc ks := by
  rw [← pp_3_6 (F := F) (x := x) (kc := kc) (ks := ks) h h16]
  congr 1
  funext fs
  exact propext ⟨fun z => ⟨h16, z⟩, fun z => z.2⟩
theorem pw_3_6 {s : zS} {q : Nat} {x : Int32} {F : zH → Prop} (h : gD s q = 7) (h16 : 16 ≤ q) : (zob ((hOf s).1 q) 3 fun fs => 6 < fs.length ∧ zfit (zty 3 6) (.int x) = true ∧ F (zup (hOf s) q (.inr (4, fs.set 6 (.int x))))) = F (hOf (sI s q 6 x)) := pq_3_6 (F := fun h _ _ => F h) (kc := 0) (ks := 0) h h16
theorem pq_4_0 {s : zS} {q : Nat} {x : Int32} {F : zH → Nat → Nat → Prop} {kc ks : Nat} (h : gD s q = 8) (h16 : 16 ≤ q) : (zob ((hOf s).1 q) 4 fun fs => 0 < fs.length ∧ zfit (zty 4 0) (.int x) = true ∧ F (zup (hOf s) q (.inr (5, fs.set 0 (.int x)))) kc ks) = F (hOf (sI s q 0 x)) kc ks := by
  rw [← pp_4_0 (F := F) (x := x) (kc := kc) (ks := ks) h h16]
  congr 1
  funext fs
  exact propext ⟨fun z => ⟨h16, z⟩, fun z => z.2⟩
theorem pw_4_0 {s : zS} {q : Nat} {x : Int32} {F : zH → Prop} (h : gD s q = 8) (h16 : 16 ≤ q) : (zob ((hOf s).1 q) 4 fun fs => 0 < fs.length ∧ zfit (zty 4 0) (.int x) = true ∧ F (zup (hOf s) q (.inr (5, fs.set 0 (.int x))))) = F (hOf (sI s q 0 x)) := pq_4_0 (F := fun h _ _ => F h) (kc := 0) (ks := 0) h h16
theorem pq_4_1 {s : zS} {q : Nat} {x : Int32} {F : zH → Nat → Nat → Prop} {kc ks : Nat} (h : gD s q = 8) (h16 : 16 ≤ q) : (zob ((hOf s).1 q) 4 fun fs => 1 < fs.length ∧ zfit (zty 4 1) (.int x) = true ∧ F (zup (hOf s) q (.inr (5, fs.set 1 (.int x)))) kc ks) = F (hOf (sI s q 1 x)) kc ks := by
  rw [← pp_4_1 (F := F) (x := x) (kc := kc) (ks := ks) h h16]
  congr 1
  funext fs
  exact propext ⟨fun z => ⟨h16, z⟩, fun z => z.2⟩
theorem pw_4_1 {s : zS} {q : Nat} {x : Int32} {F : zH → Prop} (h : gD s q = 8) (h16 : 16 ≤ q) : (zob ((hOf s).1 q) 4 fun fs => 1 < fs.length ∧ zfit (zty 4 1) (.int x) = true ∧ F (zup (hOf s) q (.inr (5, fs.set 1 (.int x))))) = F (hOf (sI s q 1 x)) := pq_4_1 (F := fun h _ _ => F h) (kc := 0) (ks := 0) h h16
theorem pq_4_2 {s : zS} {q : Nat} {x : Nat} {F : zH → Nat → Nat → Prop} {kc ks : Nat} (h : gD s q = 8) (h16 : 16 ≤ q) : (zob ((hOf s).1 q) 4 fun fs => 2 < fs.length ∧ zfit (zty 4 2) (.ref x) = true ∧ F (zup (hOf s) q (.inr (5, fs.set 2 (.ref x)))) kc ks) = F (hOf (sR s q 2 x)) kc ks := by
  rw [← pp_4_2 (F := F) (x := x) (kc := kc) (ks := ks) h h16]
  congr 1
  funext fs
  exact propext ⟨fun z => ⟨h16, z⟩, fun z => z.2⟩
theorem pw_4_2 {s : zS} {q : Nat} {x : Nat} {F : zH → Prop} (h : gD s q = 8) (h16 : 16 ≤ q) : (zob ((hOf s).1 q) 4 fun fs => 2 < fs.length ∧ zfit (zty 4 2) (.ref x) = true ∧ F (zup (hOf s) q (.inr (5, fs.set 2 (.ref x))))) = F (hOf (sR s q 2 x)) := pq_4_2 (F := fun h _ _ => F h) (kc := 0) (ks := 0) h h16
theorem pq_4_3 {s : zS} {q : Nat} {x : Int32} {F : zH → Nat → Nat → Prop} {kc ks : Nat} (h : gD s q = 8) (h16 : 16 ≤ q) : (zob ((hOf s).1 q) 4 fun fs => 3 < fs.length ∧ zfit (zty 4 3) (.int x) = true ∧ F (zup (hOf s) q (.inr (5, fs.set 3 (.int x)))) kc ks) = F (hOf (sI s q 3 x)) kc ks := by
  rw [← pp_4_3 (F := F) (x := x) (kc := kc) (ks := ks) h h16]
  congr 1
  funext fs
  exact propext ⟨fun z => ⟨h16, z⟩, fun z => z.2⟩
theorem pw_4_3 {s : zS} {q : Nat} {x : Int32} {F : zH → Prop} (h : gD s q = 8) (h16 : 16 ≤ q) : (zob ((hOf s).1 q) 4 fun fs => 3 < fs.length ∧ zfit (zty 4 3) (.int x) = true ∧ F (zup (hOf s) q (.inr (5, fs.set 3 (.int x))))) = F (hOf (sI s q 3 x)) := pq_4_3 (F := fun h _ _ => F h) (kc := 0) (ks := 0) h h16
theorem pq_4_4 {s : zS} {q : Nat} {x : Int32} {F : zH → Nat → Nat → Prop} {kc ks : Nat} (h : gD s q = 8) (h16 : 16 ≤ q) : (zob ((hOf s).1 q) 4 fun fs => 4 < fs.length ∧ zfit (zty 4 4) (.int x) = true ∧ F (zup (hOf s) q (.inr (5, fs.set 4 (.int x)))) kc ks) = F (hOf (sI s q 4 x)) kc ks := by
  rw [← pp_4_4 (F := F) (x := x) (kc := kc) (ks := ks) h h16]
  congr 1
  funext fs
  exact propext ⟨fun z => ⟨h16, z⟩, fun z => z.2⟩
theorem pw_4_4 {s : zS} {q : Nat} {x : Int32} {F : zH → Prop} (h : gD s q = 8) (h16 : 16 ≤ q) : (zob ((hOf s).1 q) 4 fun fs => 4 < fs.length ∧ zfit (zty 4 4) (.int x) = true ∧ F (zup (hOf s) q (.inr (5, fs.set 4 (.int x))))) = F (hOf (sI s q 4 x)) := pq_4_4 (F := fun h _ _ => F h) (kc := 0) (ks := 0) h h16
theorem pq_4_5 {s : zS} {q : Nat} {x : Int32} {F : zH → Nat → Nat → Prop} {kc ks : Nat} (h : gD s q = 8) (h16 : 16 ≤ q) : (zob ((hOf s).1 q) 4 fun fs => 5 < fs.length ∧ zfit (zty 4 5) (.int x) = true ∧ F (zup (hOf s) q (.inr (5, fs.set 5 (.int x)))) kc ks) = F (hOf (sI s q 5 x)) kc ks := by
  rw [← pp_4_5 (F := F) (x := x) (kc := kc) (ks := ks) h h16]
  congr 1
  funext fs
  exact propext ⟨fun z => ⟨h16, z⟩, fun z => z.2⟩
theorem pw_4_5 {s : zS} {q : Nat} {x : Int32} {F : zH → Prop} (h : gD s q = 8) (h16 : 16 ≤ q) : (zob ((hOf s).1 q) 4 fun fs => 5 < fs.length ∧ zfit (zty 4 5) (.int x) = true ∧ F (zup (hOf s) q (.inr (5, fs.set 5 (.int x))))) = F (hOf (sI s q 5 x)) := pq_4_5 (F := fun h _ _ => F h) (kc := 0) (ks := 0) h h16
theorem pq_5_0 {s : zS} {q : Nat} {x : Nat} {F : zH → Nat → Nat → Prop} {kc ks : Nat} (h : gD s q = 9) (h16 : 16 ≤ q) : (zob ((hOf s).1 q) 5 fun fs => 0 < fs.length ∧ zfit (zty 5 0) (.ref x) = true ∧ F (zup (hOf s) q (.inr (6, fs.set 0 (.ref x)))) kc ks) = F (hOf (sR s q 0 x)) kc ks := by
  rw [← pp_5_0 (F := F) (x := x) (kc := kc) (ks := ks) h h16]
  congr 1
  funext fs
  exact propext ⟨fun z => ⟨h16, z⟩, fun z => z.2⟩
theorem pw_5_0 {s : zS} {q : Nat} {x : Nat} {F : zH → Prop} (h : gD s q = 9) (h16 : 16 ≤ q) : (zob ((hOf s).1 q) 5 fun fs => 0 < fs.length ∧ zfit (zty 5 0) (.ref x) = true ∧ F (zup (hOf s) q (.inr (6, fs.set 0 (.ref x))))) = F (hOf (sR s q 0 x)) := pq_5_0 (F := fun h _ _ => F h) (kc := 0) (ks := 0) h h16
theorem pq_5_1 {s : zS} {q : Nat} {x : Nat} {F : zH → Nat → Nat → Prop} {kc ks : Nat} (h : gD s q = 9) (h16 : 16 ≤ q) : (zob ((hOf s).1 q) 5 fun fs => 1 < fs.length ∧ zfit (zty 5 1) (.ref x) = true ∧ F (zup (hOf s) q (.inr (6, fs.set 1 (.ref x)))) kc ks) = F (hOf (sR s q 1 x)) kc ks := by
  rw [← pp_5_1 (F := F) (x := x) (kc := kc) (ks := ks) h h16]
  congr 1
  funext fs
  exact propext ⟨fun z => ⟨h16, z⟩, fun z => z.2⟩
theorem pw_5_1 {s : zS} {q : Nat} {x : Nat} {F : zH → Prop} (h : gD s q = 9) (h16 : 16 ≤ q) : (zob ((hOf s).1 q) 5 fun fs => 1 < fs.length ∧ zfit (zty 5 1) (.ref x) = true ∧ F (zup (hOf s) q (.inr (6, fs.set 1 (.ref x))))) = F (hOf (sR s q 1 x)) := pq_5_1 (F := fun h _ _ => F h) (kc := 0) (ks := 0) h h16
theorem pq_5_2 {s : zS} {q : Nat} {x : Int32} {F : zH → Nat → Nat → Prop} {kc ks : Nat} (h : gD s q = 9) (h16 : 16 ≤ q) : (zob ((hOf s).1 q) 5 fun fs => 2 < fs.length ∧ zfit (zty 5 2) (.int x) = true ∧ F (zup (hOf s) q (.inr (6, fs.set 2 (.int x)))) kc ks) = F (hOf (sI s q 2 x)) kc ks := by
  rw [← pp_5_2 (F := F) (x := x) (kc := kc) (ks := ks) h h16]
  congr 1
  funext fs
  exact propext ⟨fun z => ⟨h16, z⟩, fun z => z.2⟩
theorem pw_5_2 {s : zS} {q : Nat} {x : Int32} {F : zH → Prop} (h : gD s q = 9) (h16 : 16 ≤ q) : (zob ((hOf s).1 q) 5 fun fs => 2 < fs.length ∧ zfit (zty 5 2) (.int x) = true ∧ F (zup (hOf s) q (.inr (6, fs.set 2 (.int x))))) = F (hOf (sI s q 2 x)) := pq_5_2 (F := fun h _ _ => F h) (kc := 0) (ks := 0) h h16
theorem pq_6_0 {s : zS} {q : Nat} {x : Nat} {F : zH → Nat → Nat → Prop} {kc ks : Nat} (h : gD s q = 10) (h16 : 16 ≤ q) : (zob ((hOf s).1 q) 6 fun fs => 0 < fs.length ∧ zfit (zty 6 0) (.ref x) = true ∧ F (zup (hOf s) q (.inr (7, fs.set 0 (.ref x)))) kc ks) = F (hOf (sR s q 0 x)) kc ks := by
  rw [← pp_6_0 (F := F) (x := x) (kc := kc) (ks := ks) h h16]
  congr 1
  funext fs
  exact propext ⟨fun z => ⟨h16, z⟩, fun z => z.2⟩
theorem pw_6_0 {s : zS} {q : Nat} {x : Nat} {F : zH → Prop} (h : gD s q = 10) (h16 : 16 ≤ q) : (zob ((hOf s).1 q) 6 fun fs => 0 < fs.length ∧ zfit (zty 6 0) (.ref x) = true ∧ F (zup (hOf s) q (.inr (7, fs.set 0 (.ref x))))) = F (hOf (sR s q 0 x)) := pq_6_0 (F := fun h _ _ => F h) (kc := 0) (ks := 0) h h16
theorem pq_6_1 {s : zS} {q : Nat} {x : Nat} {F : zH → Nat → Nat → Prop} {kc ks : Nat} (h : gD s q = 10) (h16 : 16 ≤ q) : (zob ((hOf s).1 q) 6 fun fs => 1 < fs.length ∧ zfit (zty 6 1) (.ref x) = true ∧ F (zup (hOf s) q (.inr (7, fs.set 1 (.ref x)))) kc ks) = F (hOf (sR s q 1 x)) kc ks := by
  rw [← pp_6_1 (F := F) (x := x) (kc := kc) (ks := ks) h h16]
  congr 1
  funext fs
  exact propext ⟨fun z => ⟨h16, z⟩, fun z => z.2⟩
theorem pw_6_1 {s : zS} {q : Nat} {x : Nat} {F : zH → Prop} (h : gD s q = 10) (h16 : 16 ≤ q) : (zob ((hOf s).1 q) 6 fun fs => 1 < fs.length ∧ zfit (zty 6 1) (.ref x) = true ∧ F (zup (hOf s) q (.inr (7, fs.set 1 (.ref x))))) = F (hOf (sR s q 1 x)) := pq_6_1 (F := fun h _ _ => F h) (kc := 0) (ks := 0) h h16
theorem pq_6_2 {s : zS} {q : Nat} {x : Nat} {F : zH → Nat → Nat → Prop} {kc ks : Nat} (h : gD s q = 10) (h16 : 16 ≤ q) : (zob ((hOf s).1 q) 6 fun fs => 2 < fs.length ∧ zfit (zty 6 2) (.ref x) = true ∧ F (zup (hOf s) q (.inr (7, fs.set 2 (.ref x)))) kc ks) = F (hOf (sR s q 2 x)) kc ks := by
  rw [← pp_6_2 (F := F) (x := x) (kc := kc) (ks := ks) h h16]
  congr 1
  funext fs
  exact propext ⟨fun z => ⟨h16, z⟩, fun z => z.2⟩
theorem pw_6_2 {s : zS} {q : Nat} {x : Nat} {F : zH → Prop} (h : gD s q = 10) (h16 : 16 ≤ q) : (zob ((hOf s).1 q) 6 fun fs => 2 < fs.length ∧ zfit (zty 6 2) (.ref x) = true ∧ F (zup (hOf s) q (.inr (7, fs.set 2 (.ref x))))) = F (hOf (sR s q 2 x)) := pq_6_2 (F := fun h _ _ => F h) (kc := 0) (ks := 0) h h16
theorem pq_7_0 {s : zS} {q : Nat} {x : Int32} {F : zH → Nat → Nat → Prop} {kc ks : Nat} (h : gD s q = 11) (h16 : 16 ≤ q) : (zob ((hOf s).1 q) 7 fun fs => 0 < fs.length ∧ zfit (zty 7 0) (.int x) = true ∧ F (zup (hOf s) q (.inr (8, fs.set 0 (.int x)))) kc ks) = F (hOf (sI s q 0 x)) kc ks := by
  rw [← pp_7_0 (F := F) (x := x) (kc := kc) (ks := ks) h h16]
  congr 1
  funext fs
  exact propext ⟨fun z => ⟨h16, z⟩, fun z => z.2⟩
theorem pw_7_0 {s : zS} {q : Nat} {x : Int32} {F : zH → Prop} (h : gD s q = 11) (h16 : 16 ≤ q) : (zob ((hOf s).1 q) 7 fun fs => 0 < fs.length ∧ zfit (zty 7 0) (.int x) = true ∧ F (zup (hOf s) q (.inr (8, fs.set 0 (.int x))))) = F (hOf (sI s q 0 x)) := pq_7_0 (F := fun h _ _ => F h) (kc := 0) (ks := 0) h h16
theorem pq_7_1 {s : zS} {q : Nat} {x : Nat} {F : zH → Nat → Nat → Prop} {kc ks : Nat} (h : gD s q = 11) (h16 : 16 ≤ q) : (zob ((hOf s).1 q) 7 fun fs => 1 < fs.length ∧ zfit (zty 7 1) (.ref x) = true ∧ F (zup (hOf s) q (.inr (8, fs.set 1 (.ref x)))) kc ks) = F (hOf (sR s q 1 x)) kc ks := by
  rw [← pp_7_1 (F := F) (x := x) (kc := kc) (ks := ks) h h16]
  congr 1
  funext fs
  exact propext ⟨fun z => ⟨h16, z⟩, fun z => z.2⟩
theorem pw_7_1 {s : zS} {q : Nat} {x : Nat} {F : zH → Prop} (h : gD s q = 11) (h16 : 16 ≤ q) : (zob ((hOf s).1 q) 7 fun fs => 1 < fs.length ∧ zfit (zty 7 1) (.ref x) = true ∧ F (zup (hOf s) q (.inr (8, fs.set 1 (.ref x))))) = F (hOf (sR s q 1 x)) := pq_7_1 (F := fun h _ _ => F h) (kc := 0) (ks := 0) h h16
theorem pq_7_2 {s : zS} {q : Nat} {x : Nat} {F : zH → Nat → Nat → Prop} {kc ks : Nat} (h : gD s q = 11) (h16 : 16 ≤ q) : (zob ((hOf s).1 q) 7 fun fs => 2 < fs.length ∧ zfit (zty 7 2) (.ref x) = true ∧ F (zup (hOf s) q (.inr (8, fs.set 2 (.ref x)))) kc ks) = F (hOf (sR s q 2 x)) kc ks := by
  rw [← pp_7_2 (F := F) (x := x) (kc := kc) (ks := ks) h h16]
  congr 1
  funext fs
  exact propext ⟨fun z => ⟨h16, z⟩, fun z => z.2⟩
theorem pw_7_2 {s : zS} {q : Nat} {x : Nat} {F : zH → Prop} (h : gD s q = 11) (h16 : 16 ≤ q) : (zob ((hOf s).1 q) 7 fun fs => 2 < fs.length ∧ zfit (zty 7 2) (.ref x) = true ∧ F (zup (hOf s) q (.inr (8, fs.set 2 (.ref x))))) = F (hOf (sR s q 2 x)) := pq_7_2 (F := fun h _ _ => F h) (kc := 0) (ks := 0) h h16
theorem pq_7_3 {s : zS} {q : Nat} {x : Nat} {F : zH → Nat → Nat → Prop} {kc ks : Nat} (h : gD s q = 11) (h16 : 16 ≤ q) : (zob ((hOf s).1 q) 7 fun fs => 3 < fs.length ∧ zfit (zty 7 3) (.ref x) = true ∧ F (zup (hOf s) q (.inr (8, fs.set 3 (.ref x)))) kc ks) = F (hOf (sR s q 3 x)) kc ks := by
  rw [← pp_7_3 (F := F) (x := x) (kc := kc) (ks := ks) h h16]
  congr 1
  funext fs
  exact propext ⟨fun z => ⟨h16, z⟩, fun z => z.2⟩
theorem pw_7_3 {s : zS} {q : Nat} {x : Nat} {F : zH → Prop} (h : gD s q = 11) (h16 : 16 ≤ q) : (zob ((hOf s).1 q) 7 fun fs => 3 < fs.length ∧ zfit (zty 7 3) (.ref x) = true ∧ F (zup (hOf s) q (.inr (8, fs.set 3 (.ref x))))) = F (hOf (sR s q 3 x)) := pq_7_3 (F := fun h _ _ => F h) (kc := 0) (ks := 0) h h16
theorem pq_7_4 {s : zS} {q : Nat} {x : Nat} {F : zH → Nat → Nat → Prop} {kc ks : Nat} (h : gD s q = 11) (h16 : 16 ≤ q) : (zob ((hOf s).1 q) 7 fun fs => 4 < fs.length ∧ zfit (zty 7 4) (.ref x) = true ∧ F (zup (hOf s) q (.inr (8, fs.set 4 (.ref x)))) kc ks) = F (hOf (sR s q 4 x)) kc ks := by
  rw [← pp_7_4 (F := F) (x := x) (kc := kc) (ks := ks) h h16]
  congr 1
  funext fs
  exact propext ⟨fun z => ⟨h16, z⟩, fun z => z.2⟩
theorem pw_7_4 {s : zS} {q : Nat} {x : Nat} {F : zH → Prop} (h : gD s q = 11) (h16 : 16 ≤ q) : (zob ((hOf s).1 q) 7 fun fs => 4 < fs.length ∧ zfit (zty 7 4) (.ref x) = true ∧ F (zup (hOf s) q (.inr (8, fs.set 4 (.ref x))))) = F (hOf (sR s q 4 x)) := pq_7_4 (F := fun h _ _ => F h) (kc := 0) (ks := 0) h h16
theorem pq_7_5 {s : zS} {q : Nat} {x : Int32} {F : zH → Nat → Nat → Prop} {kc ks : Nat} (h : gD s q = 11) (h16 : 16 ≤ q) : (zob ((hOf s).1 q) 7 fun fs => 5 < fs.length ∧ zfit (zty 7 5) (.int x) = true ∧ F (zup (hOf s) q (.inr (8, fs.set 5 (.int x)))) kc ks) = F (hOf (sI s q 5 x)) kc ks := by
  rw [← pp_7_5 (F := F) (x := x) (kc := kc) (ks := ks) h h16]
  congr 1
  funext fs
  exact propext ⟨fun z => ⟨h16, z⟩, fun z => z.2⟩
theorem pw_7_5 {s : zS} {q : Nat} {x : Int32} {F : zH → Prop} (h : gD s q = 11) (h16 : 16 ≤ q) : (zob ((hOf s).1 q) 7 fun fs => 5 < fs.length ∧ zfit (zty 7 5) (.int x) = true ∧ F (zup (hOf s) q (.inr (8, fs.set 5 (.int x))))) = F (hOf (sI s q 5 x)) := pq_7_5 (F := fun h _ _ => F h) (kc := 0) (ks := 0) h h16
theorem pq_8_0 {s : zS} {q : Nat} {x : Int32} {F : zH → Nat → Nat → Prop} {kc ks : Nat} (h : gD s q = 12) (h16 : 16 ≤ q) : (zob ((hOf s).1 q) 8 fun fs => 0 < fs.length ∧ zfit (zty 8 0) (.int x) = true ∧ F (zup (hOf s) q (.inr (9, fs.set 0 (.int x)))) kc ks) = F (hOf (sI s q 0 x)) kc ks := by
  rw [← pp_8_0 (F := F) (x := x) (kc := kc) (ks := ks) h h16]
  congr 1
  funext fs
  exact propext ⟨fun z => ⟨h16, z⟩, fun z => z.2⟩
theorem pw_8_0 {s : zS} {q : Nat} {x : Int32} {F : zH → Prop} (h : gD s q = 12) (h16 : 16 ≤ q) : (zob ((hOf s).1 q) 8 fun fs => 0 < fs.length ∧ zfit (zty 8 0) (.int x) = true ∧ F (zup (hOf s) q (.inr (9, fs.set 0 (.int x))))) = F (hOf (sI s q 0 x)) := pq_8_0 (F := fun h _ _ => F h) (kc := 0) (ks := 0) h h16
theorem pq_8_1 {s : zS} {q : Nat} {x : Int32} {F : zH → Nat → Nat → Prop} {kc ks : Nat} (h : gD s q = 12) (h16 : 16 ≤ q) : (zob ((hOf s).1 q) 8 fun fs => 1 < fs.length ∧ zfit (zty 8 1) (.int x) = true ∧ F (zup (hOf s) q (.inr (9, fs.set 1 (.int x)))) kc ks) = F (hOf (sI s q 1 x)) kc ks := by
  rw [← pp_8_1 (F := F) (x := x) (kc := kc) (ks := ks) h h16]
  congr 1
  funext fs
  exact propext ⟨fun z => ⟨h16, z⟩, fun z => z.2⟩
theorem pw_8_1 {s : zS} {q : Nat} {x : Int32} {F : zH → Prop} (h : gD s q = 12) (h16 : 16 ≤ q) : (zob ((hOf s).1 q) 8 fun fs => 1 < fs.length ∧ zfit (zty 8 1) (.int x) = true ∧ F (zup (hOf s) q (.inr (9, fs.set 1 (.int x))))) = F (hOf (sI s q 1 x)) := pq_8_1 (F := fun h _ _ => F h) (kc := 0) (ks := 0) h h16
theorem pq_8_2 {s : zS} {q : Nat} {x : Int32} {F : zH → Nat → Nat → Prop} {kc ks : Nat} (h : gD s q = 12) (h16 : 16 ≤ q) : (zob ((hOf s).1 q) 8 fun fs => 2 < fs.length ∧ zfit (zty 8 2) (.int x) = true ∧ F (zup (hOf s) q (.inr (9, fs.set 2 (.int x)))) kc ks) = F (hOf (sI s q 2 x)) kc ks := by
  rw [← pp_8_2 (F := F) (x := x) (kc := kc) (ks := ks) h h16]
  congr 1
  funext fs
  exact propext ⟨fun z => ⟨h16, z⟩, fun z => z.2⟩
theorem pw_8_2 {s : zS} {q : Nat} {x : Int32} {F : zH → Prop} (h : gD s q = 12) (h16 : 16 ≤ q) : (zob ((hOf s).1 q) 8 fun fs => 2 < fs.length ∧ zfit (zty 8 2) (.int x) = true ∧ F (zup (hOf s) q (.inr (9, fs.set 2 (.int x))))) = F (hOf (sI s q 2 x)) := pq_8_2 (F := fun h _ _ => F h) (kc := 0) (ks := 0) h h16
theorem pq_8_3 {s : zS} {q : Nat} {x : Int32} {F : zH → Nat → Nat → Prop} {kc ks : Nat} (h : gD s q = 12) (h16 : 16 ≤ q) : (zob ((hOf s).1 q) 8 fun fs => 3 < fs.length ∧ zfit (zty 8 3) (.int x) = true ∧ F (zup (hOf s) q (.inr (9, fs.set 3 (.int x)))) kc ks) = F (hOf (sI s q 3 x)) kc ks := by
  rw [← pp_8_3 (F := F) (x := x) (kc := kc) (ks := ks) h h16]
  congr 1
  funext fs
  exact propext ⟨fun z => ⟨h16, z⟩, fun z => z.2⟩
theorem pw_8_3 {s : zS} {q : Nat} {x : Int32} {F : zH → Prop} (h : gD s q = 12) (h16 : 16 ≤ q) : (zob ((hOf s).1 q) 8 fun fs => 3 < fs.length ∧ zfit (zty 8 3) (.int x) = true ∧ F (zup (hOf s) q (.inr (9, fs.set 3 (.int x))))) = F (hOf (sI s q 3 x)) := pq_8_3 (F := fun h _ _ => F h) (kc := 0) (ks := 0) h h16
theorem pq_8_4 {s : zS} {q : Nat} {x : Int32} {F : zH → Nat → Nat → Prop} {kc ks : Nat} (h : gD s q = 12) (h16 : 16 ≤ q) : (zob ((hOf s).1 q) 8 fun fs => 4 < fs.length ∧ zfit (zty 8 4) (.int x) = true ∧ F (zup (hOf s) q (.inr (9, fs.set 4 (.int x)))) kc ks) = F (hOf (sI s q 4 x)) kc ks := by
  rw [← pp_8_4 (F := F) (x := x) (kc := kc) (ks := ks) h h16]
  congr 1
  funext fs
  exact propext ⟨fun z => ⟨h16, z⟩, fun z => z.2⟩
theorem pw_8_4 {s : zS} {q : Nat} {x : Int32} {F : zH → Prop} (h : gD s q = 12) (h16 : 16 ≤ q) : (zob ((hOf s).1 q) 8 fun fs => 4 < fs.length ∧ zfit (zty 8 4) (.int x) = true ∧ F (zup (hOf s) q (.inr (9, fs.set 4 (.int x))))) = F (hOf (sI s q 4 x)) := pq_8_4 (F := fun h _ _ => F h) (kc := 0) (ks := 0) h h16
theorem pq_8_5 {s : zS} {q : Nat} {x : Int64} {F : zH → Nat → Nat → Prop} {kc ks : Nat} (h : gD s q = 12) (h16 : 16 ≤ q) : (zob ((hOf s).1 q) 8 fun fs => 5 < fs.length ∧ zfit (zty 8 5) (.long x) = true ∧ F (zup (hOf s) q (.inr (9, fs.set 5 (.long x)))) kc ks) = F (hOf (sJ s q 5 x)) kc ks := by
  rw [← pp_8_5 (F := F) (x := x) (kc := kc) (ks := ks) h h16]
  congr 1
  funext fs
  exact propext ⟨fun z => ⟨h16, z⟩, fun z => z.2⟩
theorem pw_8_5 {s : zS} {q : Nat} {x : Int64} {F : zH → Prop} (h : gD s q = 12) (h16 : 16 ≤ q) : (zob ((hOf s).1 q) 8 fun fs => 5 < fs.length ∧ zfit (zty 8 5) (.long x) = true ∧ F (zup (hOf s) q (.inr (9, fs.set 5 (.long x))))) = F (hOf (sJ s q 5 x)) := pq_8_5 (F := fun h _ _ => F h) (kc := 0) (ks := 0) h h16
theorem pq_8_6 {s : zS} {q : Nat} {x : Nat} {F : zH → Nat → Nat → Prop} {kc ks : Nat} (h : gD s q = 12) (h16 : 16 ≤ q) : (zob ((hOf s).1 q) 8 fun fs => 6 < fs.length ∧ zfit (zty 8 6) (.ref x) = true ∧ F (zup (hOf s) q (.inr (9, fs.set 6 (.ref x)))) kc ks) = F (hOf (sR s q 6 x)) kc ks := by
  rw [← pp_8_6 (F := F) (x := x) (kc := kc) (ks := ks) h h16]
  congr 1
  funext fs
  exact propext ⟨fun z => ⟨h16, z⟩, fun z => z.2⟩
theorem pw_8_6 {s : zS} {q : Nat} {x : Nat} {F : zH → Prop} (h : gD s q = 12) (h16 : 16 ≤ q) : (zob ((hOf s).1 q) 8 fun fs => 6 < fs.length ∧ zfit (zty 8 6) (.ref x) = true ∧ F (zup (hOf s) q (.inr (9, fs.set 6 (.ref x))))) = F (hOf (sR s q 6 x)) := pq_8_6 (F := fun h _ _ => F h) (kc := 0) (ks := 0) h h16
theorem pq_8_7 {s : zS} {q : Nat} {x : Nat} {F : zH → Nat → Nat → Prop} {kc ks : Nat} (h : gD s q = 12) (h16 : 16 ≤ q) : (zob ((hOf s).1 q) 8 fun fs => 7 < fs.length ∧ zfit (zty 8 7) (.ref x) = true ∧ F (zup (hOf s) q (.inr (9, fs.set 7 (.ref x)))) kc ks) = F (hOf (sR s q 7 x)) kc ks := by
  rw [← pp_8_7 (F := F) (x := x) (kc := kc) (ks := ks) h h16]
  congr 1
  funext fs
  exact propext ⟨fun z => ⟨h16, z⟩, fun z => z.2⟩
theorem pw_8_7 {s : zS} {q : Nat} {x : Nat} {F : zH → Prop} (h : gD s q = 12) (h16 : 16 ≤ q) : (zob ((hOf s).1 q) 8 fun fs => 7 < fs.length ∧ zfit (zty 8 7) (.ref x) = true ∧ F (zup (hOf s) q (.inr (9, fs.set 7 (.ref x))))) = F (hOf (sR s q 7 x)) := pq_8_7 (F := fun h _ _ => F h) (kc := 0) (ks := 0) h h16
theorem pq_8_8 {s : zS} {q : Nat} {x : Nat} {F : zH → Nat → Nat → Prop} {kc ks : Nat} (h : gD s q = 12) (h16 : 16 ≤ q) : (zob ((hOf s).1 q) 8 fun fs => 8 < fs.length ∧ zfit (zty 8 8) (.ref x) = true ∧ F (zup (hOf s) q (.inr (9, fs.set 8 (.ref x)))) kc ks) = F (hOf (sR s q 8 x)) kc ks := by
  rw [← pp_8_8 (F := F) (x := x) (kc := kc) (ks := ks) h h16]
  congr 1
  funext fs
  exact propext ⟨fun z => ⟨h16, z⟩, fun z => z.2⟩
theorem pw_8_8 {s : zS} {q : Nat} {x : Nat} {F : zH → Prop} (h : gD s q = 12) (h16 : 16 ≤ q) : (zob ((hOf s).1 q) 8 fun fs => 8 < fs.length ∧ zfit (zty 8 8) (.ref x) = true ∧ F (zup (hOf s) q (.inr (9, fs.set 8 (.ref x))))) = F (hOf (sR s q 8 x)) := pq_8_8 (F := fun h _ _ => F h) (kc := 0) (ks := 0) h h16
theorem pq_8_9 {s : zS} {q : Nat} {x : Nat} {F : zH → Nat → Nat → Prop} {kc ks : Nat} (h : gD s q = 12) (h16 : 16 ≤ q) : (zob ((hOf s).1 q) 8 fun fs => 9 < fs.length ∧ zfit (zty 8 9) (.ref x) = true ∧ F (zup (hOf s) q (.inr (9, fs.set 9 (.ref x)))) kc ks) = F (hOf (sR s q 9 x)) kc ks := by
  rw [← pp_8_9 (F := F) (x := x) (kc := kc) (ks := ks) h h16]
  congr 1
  funext fs
  exact propext ⟨fun z => ⟨h16, z⟩, fun z => z.2⟩
theorem pw_8_9 {s : zS} {q : Nat} {x : Nat} {F : zH → Prop} (h : gD s q = 12) (h16 : 16 ≤ q) : (zob ((hOf s).1 q) 8 fun fs => 9 < fs.length ∧ zfit (zty 8 9) (.ref x) = true ∧ F (zup (hOf s) q (.inr (9, fs.set 9 (.ref x))))) = F (hOf (sR s q 9 x)) := pq_8_9 (F := fun h _ _ => F h) (kc := 0) (ks := 0) h h16
theorem pq_8_10 {s : zS} {q : Nat} {x : Nat} {F : zH → Nat → Nat → Prop} {kc ks : Nat} (h : gD s q = 12) (h16 : 16 ≤ q) : (zob ((hOf s).1 q) 8 fun fs => 10 < fs.length ∧ zfit (zty 8 10) (.ref x) = true ∧ F (zup (hOf s) q (.inr (9, fs.set 10 (.ref x)))) kc ks) = F (hOf (sR s q 10 x)) kc ks := by
  rw [← pp_8_10 (F := F) (x := x) (kc := kc) (ks := ks) h h16]
  congr 1
  funext fs
  exact propext ⟨fun z => ⟨h16, z⟩, fun z => z.2⟩
theorem pw_8_10 {s : zS} {q : Nat} {x : Nat} {F : zH → Prop} (h : gD s q = 12) (h16 : 16 ≤ q) : (zob ((hOf s).1 q) 8 fun fs => 10 < fs.length ∧ zfit (zty 8 10) (.ref x) = true ∧ F (zup (hOf s) q (.inr (9, fs.set 10 (.ref x))))) = F (hOf (sR s q 10 x)) := pq_8_10 (F := fun h _ _ => F h) (kc := 0) (ks := 0) h h16
theorem pq_8_11 {s : zS} {q : Nat} {x : Nat} {F : zH → Nat → Nat → Prop} {kc ks : Nat} (h : gD s q = 12) (h16 : 16 ≤ q) : (zob ((hOf s).1 q) 8 fun fs => 11 < fs.length ∧ zfit (zty 8 11) (.ref x) = true ∧ F (zup (hOf s) q (.inr (9, fs.set 11 (.ref x)))) kc ks) = F (hOf (sR s q 11 x)) kc ks := by
  rw [← pp_8_11 (F := F) (x := x) (kc := kc) (ks := ks) h h16]
  congr 1
  funext fs
  exact propext ⟨fun z => ⟨h16, z⟩, fun z => z.2⟩
theorem pw_8_11 {s : zS} {q : Nat} {x : Nat} {F : zH → Prop} (h : gD s q = 12) (h16 : 16 ≤ q) : (zob ((hOf s).1 q) 8 fun fs => 11 < fs.length ∧ zfit (zty 8 11) (.ref x) = true ∧ F (zup (hOf s) q (.inr (9, fs.set 11 (.ref x))))) = F (hOf (sR s q 11 x)) := pq_8_11 (F := fun h _ _ => F h) (kc := 0) (ks := 0) h h16
theorem pq_8_12 {s : zS} {q : Nat} {x : Nat} {F : zH → Nat → Nat → Prop} {kc ks : Nat} (h : gD s q = 12) (h16 : 16 ≤ q) : (zob ((hOf s).1 q) 8 fun fs => 12 < fs.length ∧ zfit (zty 8 12) (.ref x) = true ∧ F (zup (hOf s) q (.inr (9, fs.set 12 (.ref x)))) kc ks) = F (hOf (sR s q 12 x)) kc ks := by
  rw [← pp_8_12 (F := F) (x := x) (kc := kc) (ks := ks) h h16]
  congr 1
  funext fs
  exact propext ⟨fun z => ⟨h16, z⟩, fun z => z.2⟩
theorem pw_8_12 {s : zS} {q : Nat} {x : Nat} {F : zH → Prop} (h : gD s q = 12) (h16 : 16 ≤ q) : (zob ((hOf s).1 q) 8 fun fs => 12 < fs.length ∧ zfit (zty 8 12) (.ref x) = true ∧ F (zup (hOf s) q (.inr (9, fs.set 12 (.ref x))))) = F (hOf (sR s q 12 x)) := pq_8_12 (F := fun h _ _ => F h) (kc := 0) (ks := 0) h h16
theorem pq_8_13 {s : zS} {q : Nat} {x : Nat} {F : zH → Nat → Nat → Prop} {kc ks : Nat} (h : gD s q = 12) (h16 : 16 ≤ q) : (zob ((hOf s).1 q) 8 fun fs => 13 < fs.length ∧ zfit (zty 8 13) (.ref x) = true ∧ F (zup (hOf s) q (.inr (9, fs.set 13 (.ref x)))) kc ks) = F (hOf (sR s q 13 x)) kc ks := by
  rw [← pp_8_13 (F := F) (x := x) (kc := kc) (ks := ks) h h16]
  congr 1
  funext fs
  exact propext ⟨fun z => ⟨h16, z⟩, fun z => z.2⟩
theorem pw_8_13 {s : zS} {q : Nat} {x : Nat} {F : zH → Prop} (h : gD s q = 12) (h16 : 16 ≤ q) : (zob ((hOf s).1 q) 8 fun fs => 13 < fs.length ∧ zfit (zty 8 13) (.ref x) = true ∧ F (zup (hOf s) q (.inr (9, fs.set 13 (.ref x))))) = F (hOf (sR s q 13 x)) := pq_8_13 (F := fun h _ _ => F h) (kc := 0) (ks := 0) h h16
theorem pq_8_14 {s : zS} {q : Nat} {x : Nat} {F : zH → Nat → Nat → Prop} {kc ks : Nat} (h : gD s q = 12) (h16 : 16 ≤ q) : (zob ((hOf s).1 q) 8 fun fs => 14 < fs.length ∧ zfit (zty 8 14) (.ref x) = true ∧ F (zup (hOf s) q (.inr (9, fs.set 14 (.ref x)))) kc ks) = F (hOf (sR s q 14 x)) kc ks := by
  rw [← pp_8_14 (F := F) (x := x) (kc := kc) (ks := ks) h h16]
  congr 1
  funext fs
  exact propext ⟨fun z => ⟨h16, z⟩, fun z => z.2⟩
theorem pw_8_14 {s : zS} {q : Nat} {x : Nat} {F : zH → Prop} (h : gD s q = 12) (h16 : 16 ≤ q) : (zob ((hOf s).1 q) 8 fun fs => 14 < fs.length ∧ zfit (zty 8 14) (.ref x) = true ∧ F (zup (hOf s) q (.inr (9, fs.set 14 (.ref x))))) = F (hOf (sR s q 14 x)) := pq_8_14 (F := fun h _ _ => F h) (kc := 0) (ks := 0) h h16
theorem pq_8_15 {s : zS} {q : Nat} {x : Nat} {F : zH → Nat → Nat → Prop} {kc ks : Nat} (h : gD s q = 12) (h16 : 16 ≤ q) : (zob ((hOf s).1 q) 8 fun fs => 15 < fs.length ∧ zfit (zty 8 15) (.ref x) = true ∧ F (zup (hOf s) q (.inr (9, fs.set 15 (.ref x)))) kc ks) = F (hOf (sR s q 15 x)) kc ks := by
  rw [← pp_8_15 (F := F) (x := x) (kc := kc) (ks := ks) h h16]
  congr 1
  funext fs
  exact propext ⟨fun z => ⟨h16, z⟩, fun z => z.2⟩
theorem pw_8_15 {s : zS} {q : Nat} {x : Nat} {F : zH → Prop} (h : gD s q = 12) (h16 : 16 ≤ q) : (zob ((hOf s).1 q) 8 fun fs => 15 < fs.length ∧ zfit (zty 8 15) (.ref x) = true ∧ F (zup (hOf s) q (.inr (9, fs.set 15 (.ref x))))) = F (hOf (sR s q 15 x)) := pq_8_15 (F := fun h _ _ => F h) (kc := 0) (ks := 0) h h16
theorem pq_8_16 {s : zS} {q : Nat} {x : Nat} {F : zH → Nat → Nat → Prop} {kc ks : Nat} (h : gD s q = 12) (h16 : 16 ≤ q) : (zob ((hOf s).1 q) 8 fun fs => 16 < fs.length ∧ zfit (zty 8 16) (.ref x) = true ∧ F (zup (hOf s) q (.inr (9, fs.set 16 (.ref x)))) kc ks) = F (hOf (sR s q 16 x)) kc ks := by
  rw [← pp_8_16 (F := F) (x := x) (kc := kc) (ks := ks) h h16]
  congr 1
  funext fs
  exact propext ⟨fun z => ⟨h16, z⟩, fun z => z.2⟩
theorem pw_8_16 {s : zS} {q : Nat} {x : Nat} {F : zH → Prop} (h : gD s q = 12) (h16 : 16 ≤ q) : (zob ((hOf s).1 q) 8 fun fs => 16 < fs.length ∧ zfit (zty 8 16) (.ref x) = true ∧ F (zup (hOf s) q (.inr (9, fs.set 16 (.ref x))))) = F (hOf (sR s q 16 x)) := pq_8_16 (F := fun h _ _ => F h) (kc := 0) (ks := 0) h h16
theorem pq_8_17 {s : zS} {q : Nat} {x : Nat} {F : zH → Nat → Nat → Prop} {kc ks : Nat} (h : gD s q = 12) (h16 : 16 ≤ q) : (zob ((hOf s).1 q) 8 fun fs => 17 < fs.length ∧ zfit (zty 8 17) (.ref x) = true ∧ F (zup (hOf s) q (.inr (9, fs.set 17 (.ref x)))) kc ks) = F (hOf (sR s q 17 x)) kc ks := by
  rw [← pp_8_17 (F := F) (x := x) (kc := kc) (ks := ks) h h16]
  congr 1
  funext fs
  exact propext ⟨fun z => ⟨h16, z⟩, fun z => z.2⟩
theorem pw_8_17 {s : zS} {q : Nat} {x : Nat} {F : zH → Prop} (h : gD s q = 12) (h16 : 16 ≤ q) : (zob ((hOf s).1 q) 8 fun fs => 17 < fs.length ∧ zfit (zty 8 17) (.ref x) = true ∧ F (zup (hOf s) q (.inr (9, fs.set 17 (.ref x))))) = F (hOf (sR s q 17 x)) := pq_8_17 (F := fun h _ _ => F h) (kc := 0) (ks := 0) h h16
theorem pq_8_18 {s : zS} {q : Nat} {x : Nat} {F : zH → Nat → Nat → Prop} {kc ks : Nat} (h : gD s q = 12) (h16 : 16 ≤ q) : (zob ((hOf s).1 q) 8 fun fs => 18 < fs.length ∧ zfit (zty 8 18) (.ref x) = true ∧ F (zup (hOf s) q (.inr (9, fs.set 18 (.ref x)))) kc ks) = F (hOf (sR s q 18 x)) kc ks := by
  rw [← pp_8_18 (F := F) (x := x) (kc := kc) (ks := ks) h h16]
  congr 1
  funext fs
  exact propext ⟨fun z => ⟨h16, z⟩, fun z => z.2⟩
theorem pw_8_18 {s : zS} {q : Nat} {x : Nat} {F : zH → Prop} (h : gD s q = 12) (h16 : 16 ≤ q) : (zob ((hOf s).1 q) 8 fun fs => 18 < fs.length ∧ zfit (zty 8 18) (.ref x) = true ∧ F (zup (hOf s) q (.inr (9, fs.set 18 (.ref x))))) = F (hOf (sR s q 18 x)) := pq_8_18 (F := fun h _ _ => F h) (kc := 0) (ks := 0) h h16
theorem pq_9_0 {s : zS} {q : Nat} {x : Int32} {F : zH → Nat → Nat → Prop} {kc ks : Nat} (h : gD s q = 13) (h16 : 16 ≤ q) : (zob ((hOf s).1 q) 9 fun fs => 0 < fs.length ∧ zfit (zty 9 0) (.int x) = true ∧ F (zup (hOf s) q (.inr (10, fs.set 0 (.int x)))) kc ks) = F (hOf (sI s q 0 x)) kc ks := by
  rw [← pp_9_0 (F := F) (x := x) (kc := kc) (ks := ks) h h16]
  congr 1
  funext fs
  exact propext ⟨fun z => ⟨h16, z⟩, fun z => z.2⟩
theorem pw_9_0 {s : zS} {q : Nat} {x : Int32} {F : zH → Prop} (h : gD s q = 13) (h16 : 16 ≤ q) : (zob ((hOf s).1 q) 9 fun fs => 0 < fs.length ∧ zfit (zty 9 0) (.int x) = true ∧ F (zup (hOf s) q (.inr (10, fs.set 0 (.int x))))) = F (hOf (sI s q 0 x)) := pq_9_0 (F := fun h _ _ => F h) (kc := 0) (ks := 0) h h16
theorem pq_9_1 {s : zS} {q : Nat} {x : Nat} {F : zH → Nat → Nat → Prop} {kc ks : Nat} (h : gD s q = 13) (h16 : 16 ≤ q) : (zob ((hOf s).1 q) 9 fun fs => 1 < fs.length ∧ zfit (zty 9 1) (.ref x) = true ∧ F (zup (hOf s) q (.inr (10, fs.set 1 (.ref x)))) kc ks) = F (hOf (sR s q 1 x)) kc ks := by
  rw [← pp_9_1 (F := F) (x := x) (kc := kc) (ks := ks) h h16]
  congr 1
  funext fs
  exact propext ⟨fun z => ⟨h16, z⟩, fun z => z.2⟩
theorem pw_9_1 {s : zS} {q : Nat} {x : Nat} {F : zH → Prop} (h : gD s q = 13) (h16 : 16 ≤ q) : (zob ((hOf s).1 q) 9 fun fs => 1 < fs.length ∧ zfit (zty 9 1) (.ref x) = true ∧ F (zup (hOf s) q (.inr (10, fs.set 1 (.ref x))))) = F (hOf (sR s q 1 x)) := pq_9_1 (F := fun h _ _ => F h) (kc := 0) (ks := 0) h h16
theorem pq_9_2 {s : zS} {q : Nat} {x : Nat} {F : zH → Nat → Nat → Prop} {kc ks : Nat} (h : gD s q = 13) (h16 : 16 ≤ q) : (zob ((hOf s).1 q) 9 fun fs => 2 < fs.length ∧ zfit (zty 9 2) (.ref x) = true ∧ F (zup (hOf s) q (.inr (10, fs.set 2 (.ref x)))) kc ks) = F (hOf (sR s q 2 x)) kc ks := by
  rw [← pp_9_2 (F := F) (x := x) (kc := kc) (ks := ks) h h16]
  congr 1
  funext fs
  exact propext ⟨fun z => ⟨h16, z⟩, fun z => z.2⟩
theorem pw_9_2 {s : zS} {q : Nat} {x : Nat} {F : zH → Prop} (h : gD s q = 13) (h16 : 16 ≤ q) : (zob ((hOf s).1 q) 9 fun fs => 2 < fs.length ∧ zfit (zty 9 2) (.ref x) = true ∧ F (zup (hOf s) q (.inr (10, fs.set 2 (.ref x))))) = F (hOf (sR s q 2 x)) := pq_9_2 (F := fun h _ _ => F h) (kc := 0) (ks := 0) h h16
theorem pq_9_3 {s : zS} {q : Nat} {x : Nat} {F : zH → Nat → Nat → Prop} {kc ks : Nat} (h : gD s q = 13) (h16 : 16 ≤ q) : (zob ((hOf s).1 q) 9 fun fs => 3 < fs.length ∧ zfit (zty 9 3) (.ref x) = true ∧ F (zup (hOf s) q (.inr (10, fs.set 3 (.ref x)))) kc ks) = F (hOf (sR s q 3 x)) kc ks := by
  rw [← pp_9_3 (F := F) (x := x) (kc := kc) (ks := ks) h h16]
  congr 1
  funext fs
  exact propext ⟨fun z => ⟨h16, z⟩, fun z => z.2⟩
theorem pw_9_3 {s : zS} {q : Nat} {x : Nat} {F : zH → Prop} (h : gD s q = 13) (h16 : 16 ≤ q) : (zob ((hOf s).1 q) 9 fun fs => 3 < fs.length ∧ zfit (zty 9 3) (.ref x) = true ∧ F (zup (hOf s) q (.inr (10, fs.set 3 (.ref x))))) = F (hOf (sR s q 3 x)) := pq_9_3 (F := fun h _ _ => F h) (kc := 0) (ks := 0) h h16
theorem pq_9_4 {s : zS} {q : Nat} {x : Nat} {F : zH → Nat → Nat → Prop} {kc ks : Nat} (h : gD s q = 13) (h16 : 16 ≤ q) : (zob ((hOf s).1 q) 9 fun fs => 4 < fs.length ∧ zfit (zty 9 4) (.ref x) = true ∧ F (zup (hOf s) q (.inr (10, fs.set 4 (.ref x)))) kc ks) = F (hOf (sR s q 4 x)) kc ks := by
  rw [← pp_9_4 (F := F) (x := x) (kc := kc) (ks := ks) h h16]
  congr 1
  funext fs
  exact propext ⟨fun z => ⟨h16, z⟩, fun z => z.2⟩
theorem pw_9_4 {s : zS} {q : Nat} {x : Nat} {F : zH → Prop} (h : gD s q = 13) (h16 : 16 ≤ q) : (zob ((hOf s).1 q) 9 fun fs => 4 < fs.length ∧ zfit (zty 9 4) (.ref x) = true ∧ F (zup (hOf s) q (.inr (10, fs.set 4 (.ref x))))) = F (hOf (sR s q 4 x)) := pq_9_4 (F := fun h _ _ => F h) (kc := 0) (ks := 0) h h16
theorem pq_9_5 {s : zS} {q : Nat} {x : Nat} {F : zH → Nat → Nat → Prop} {kc ks : Nat} (h : gD s q = 13) (h16 : 16 ≤ q) : (zob ((hOf s).1 q) 9 fun fs => 5 < fs.length ∧ zfit (zty 9 5) (.ref x) = true ∧ F (zup (hOf s) q (.inr (10, fs.set 5 (.ref x)))) kc ks) = F (hOf (sR s q 5 x)) kc ks := by
  rw [← pp_9_5 (F := F) (x := x) (kc := kc) (ks := ks) h h16]
  congr 1
  funext fs
  exact propext ⟨fun z => ⟨h16, z⟩, fun z => z.2⟩
theorem pw_9_5 {s : zS} {q : Nat} {x : Nat} {F : zH → Prop} (h : gD s q = 13) (h16 : 16 ≤ q) : (zob ((hOf s).1 q) 9 fun fs => 5 < fs.length ∧ zfit (zty 9 5) (.ref x) = true ∧ F (zup (hOf s) q (.inr (10, fs.set 5 (.ref x))))) = F (hOf (sR s q 5 x)) := pq_9_5 (F := fun h _ _ => F h) (kc := 0) (ks := 0) h h16
theorem pq_9_6 {s : zS} {q : Nat} {x : Nat} {F : zH → Nat → Nat → Prop} {kc ks : Nat} (h : gD s q = 13) (h16 : 16 ≤ q) : (zob ((hOf s).1 q) 9 fun fs => 6 < fs.length ∧ zfit (zty 9 6) (.ref x) = true ∧ F (zup (hOf s) q (.inr (10, fs.set 6 (.ref x)))) kc ks) = F (hOf (sR s q 6 x)) kc ks := by
  rw [← pp_9_6 (F := F) (x := x) (kc := kc) (ks := ks) h h16]
  congr 1
  funext fs
  exact propext ⟨fun z => ⟨h16, z⟩, fun z => z.2⟩
theorem pw_9_6 {s : zS} {q : Nat} {x : Nat} {F : zH → Prop} (h : gD s q = 13) (h16 : 16 ≤ q) : (zob ((hOf s).1 q) 9 fun fs => 6 < fs.length ∧ zfit (zty 9 6) (.ref x) = true ∧ F (zup (hOf s) q (.inr (10, fs.set 6 (.ref x))))) = F (hOf (sR s q 6 x)) := pq_9_6 (F := fun h _ _ => F h) (kc := 0) (ks := 0) h h16
theorem pq_9_7 {s : zS} {q : Nat} {x : Nat} {F : zH → Nat → Nat → Prop} {kc ks : Nat} (h : gD s q = 13) (h16 : 16 ≤ q) : (zob ((hOf s).1 q) 9 fun fs => 7 < fs.length ∧ zfit (zty 9 7) (.ref x) = true ∧ F (zup (hOf s) q (.inr (10, fs.set 7 (.ref x)))) kc ks) = F (hOf (sR s q 7 x)) kc ks := by
  rw [← pp_9_7 (F := F) (x := x) (kc := kc) (ks := ks) h h16]
  congr 1
  funext fs
  exact propext ⟨fun z => ⟨h16, z⟩, fun z => z.2⟩
theorem pw_9_7 {s : zS} {q : Nat} {x : Nat} {F : zH → Prop} (h : gD s q = 13) (h16 : 16 ≤ q) : (zob ((hOf s).1 q) 9 fun fs => 7 < fs.length ∧ zfit (zty 9 7) (.ref x) = true ∧ F (zup (hOf s) q (.inr (10, fs.set 7 (.ref x))))) = F (hOf (sR s q 7 x)) := pq_9_7 (F := fun h _ _ => F h) (kc := 0) (ks := 0) h h16
theorem pq_9_8 {s : zS} {q : Nat} {x : Nat} {F : zH → Nat → Nat → Prop} {kc ks : Nat} (h : gD s q = 13) (h16 : 16 ≤ q) : (zob ((hOf s).1 q) 9 fun fs => 8 < fs.length ∧ zfit (zty 9 8) (.ref x) = true ∧ F (zup (hOf s) q (.inr (10, fs.set 8 (.ref x)))) kc ks) = F (hOf (sR s q 8 x)) kc ks := by
  rw [← pp_9_8 (F := F) (x := x) (kc := kc) (ks := ks) h h16]
  congr 1
  funext fs
  exact propext ⟨fun z => ⟨h16, z⟩, fun z => z.2⟩
theorem pw_9_8 {s : zS} {q : Nat} {x : Nat} {F : zH → Prop} (h : gD s q = 13) (h16 : 16 ≤ q) : (zob ((hOf s).1 q) 9 fun fs => 8 < fs.length ∧ zfit (zty 9 8) (.ref x) = true ∧ F (zup (hOf s) q (.inr (10, fs.set 8 (.ref x))))) = F (hOf (sR s q 8 x)) := pq_9_8 (F := fun h _ _ => F h) (kc := 0) (ks := 0) h h16
theorem pq_9_9 {s : zS} {q : Nat} {x : Nat} {F : zH → Nat → Nat → Prop} {kc ks : Nat} (h : gD s q = 13) (h16 : 16 ≤ q) : (zob ((hOf s).1 q) 9 fun fs => 9 < fs.length ∧ zfit (zty 9 9) (.ref x) = true ∧ F (zup (hOf s) q (.inr (10, fs.set 9 (.ref x)))) kc ks) = F (hOf (sR s q 9 x)) kc ks := by
  rw [← pp_9_9 (F := F) (x := x) (kc := kc) (ks := ks) h h16]
  congr 1
  funext fs
  exact propext ⟨fun z => ⟨h16, z⟩, fun z => z.2⟩
theorem pw_9_9 {s : zS} {q : Nat} {x : Nat} {F : zH → Prop} (h : gD s q = 13) (h16 : 16 ≤ q) : (zob ((hOf s).1 q) 9 fun fs => 9 < fs.length ∧ zfit (zty 9 9) (.ref x) = true ∧ F (zup (hOf s) q (.inr (10, fs.set 9 (.ref x))))) = F (hOf (sR s q 9 x)) := pq_9_9 (F := fun h _ _ => F h) (kc := 0) (ks := 0) h h16
theorem pq_10_0 {s : zS} {q : Nat} {x : Nat} {F : zH → Nat → Nat → Prop} {kc ks : Nat} (h : gD s q = 14) (h16 : 16 ≤ q) : (zob ((hOf s).1 q) 10 fun fs => 0 < fs.length ∧ zfit (zty 10 0) (.ref x) = true ∧ F (zup (hOf s) q (.inr (11, fs.set 0 (.ref x)))) kc ks) = F (hOf (sR s q 0 x)) kc ks := by
  rw [← pp_10_0 (F := F) (x := x) (kc := kc) (ks := ks) h h16]
  congr 1
  funext fs
  exact propext ⟨fun z => ⟨h16, z⟩, fun z => z.2⟩
theorem pw_10_0 {s : zS} {q : Nat} {x : Nat} {F : zH → Prop} (h : gD s q = 14) (h16 : 16 ≤ q) : (zob ((hOf s).1 q) 10 fun fs => 0 < fs.length ∧ zfit (zty 10 0) (.ref x) = true ∧ F (zup (hOf s) q (.inr (11, fs.set 0 (.ref x))))) = F (hOf (sR s q 0 x)) := pq_10_0 (F := fun h _ _ => F h) (kc := 0) (ks := 0) h h16
theorem pq_10_1 {s : zS} {q : Nat} {x : Int32} {F : zH → Nat → Nat → Prop} {kc ks : Nat} (h : gD s q = 14) (h16 : 16 ≤ q) : (zob ((hOf s).1 q) 10 fun fs => 1 < fs.length ∧ zfit (zty 10 1) (.int x) = true ∧ F (zup (hOf s) q (.inr (11, fs.set 1 (.int x)))) kc ks) = F (hOf (sI s q 1 x)) kc ks := by
  rw [← pp_10_1 (F := F) (x := x) (kc := kc) (ks := ks) h h16]
  congr 1
  funext fs
  exact propext ⟨fun z => ⟨h16, z⟩, fun z => z.2⟩
theorem pw_10_1 {s : zS} {q : Nat} {x : Int32} {F : zH → Prop} (h : gD s q = 14) (h16 : 16 ≤ q) : (zob ((hOf s).1 q) 10 fun fs => 1 < fs.length ∧ zfit (zty 10 1) (.int x) = true ∧ F (zup (hOf s) q (.inr (11, fs.set 1 (.int x))))) = F (hOf (sI s q 1 x)) := pq_10_1 (F := fun h _ _ => F h) (kc := 0) (ks := 0) h h16
theorem pq_10_2 {s : zS} {q : Nat} {x : Int32} {F : zH → Nat → Nat → Prop} {kc ks : Nat} (h : gD s q = 14) (h16 : 16 ≤ q) : (zob ((hOf s).1 q) 10 fun fs => 2 < fs.length ∧ zfit (zty 10 2) (.int x) = true ∧ F (zup (hOf s) q (.inr (11, fs.set 2 (.int x)))) kc ks) = F (hOf (sI s q 2 x)) kc ks := by
  rw [← pp_10_2 (F := F) (x := x) (kc := kc) (ks := ks) h h16]
  congr 1
  funext fs
  exact propext ⟨fun z => ⟨h16, z⟩, fun z => z.2⟩
theorem pw_10_2 {s : zS} {q : Nat} {x : Int32} {F : zH → Prop} (h : gD s q = 14) (h16 : 16 ≤ q) : (zob ((hOf s).1 q) 10 fun fs => 2 < fs.length ∧ zfit (zty 10 2) (.int x) = true ∧ F (zup (hOf s) q (.inr (11, fs.set 2 (.int x))))) = F (hOf (sI s q 2 x)) := pq_10_2 (F := fun h _ _ => F h) (kc := 0) (ks := 0) h h16
theorem pq_10_3 {s : zS} {q : Nat} {x : Nat} {F : zH → Nat → Nat → Prop} {kc ks : Nat} (h : gD s q = 14) (h16 : 16 ≤ q) : (zob ((hOf s).1 q) 10 fun fs => 3 < fs.length ∧ zfit (zty 10 3) (.ref x) = true ∧ F (zup (hOf s) q (.inr (11, fs.set 3 (.ref x)))) kc ks) = F (hOf (sR s q 3 x)) kc ks := by
  rw [← pp_10_3 (F := F) (x := x) (kc := kc) (ks := ks) h h16]
  congr 1
  funext fs
  exact propext ⟨fun z => ⟨h16, z⟩, fun z => z.2⟩
theorem pw_10_3 {s : zS} {q : Nat} {x : Nat} {F : zH → Prop} (h : gD s q = 14) (h16 : 16 ≤ q) : (zob ((hOf s).1 q) 10 fun fs => 3 < fs.length ∧ zfit (zty 10 3) (.ref x) = true ∧ F (zup (hOf s) q (.inr (11, fs.set 3 (.ref x))))) = F (hOf (sR s q 3 x)) := pq_10_3 (F := fun h _ _ => F h) (kc := 0) (ks := 0) h h16
theorem pq_10_4 {s : zS} {q : Nat} {x : Nat} {F : zH → Nat → Nat → Prop} {kc ks : Nat} (h : gD s q = 14) (h16 : 16 ≤ q) : (zob ((hOf s).1 q) 10 fun fs => 4 < fs.length ∧ zfit (zty 10 4) (.ref x) = true ∧ F (zup (hOf s) q (.inr (11, fs.set 4 (.ref x)))) kc ks) = F (hOf (sR s q 4 x)) kc ks := by
  rw [← pp_10_4 (F := F) (x := x) (kc := kc) (ks := ks) h h16]
  congr 1
  funext fs
  exact propext ⟨fun z => ⟨h16, z⟩, fun z => z.2⟩
theorem pw_10_4 {s : zS} {q : Nat} {x : Nat} {F : zH → Prop} (h : gD s q = 14) (h16 : 16 ≤ q) : (zob ((hOf s).1 q) 10 fun fs => 4 < fs.length ∧ zfit (zty 10 4) (.ref x) = true ∧ F (zup (hOf s) q (.inr (11, fs.set 4 (.ref x))))) = F (hOf (sR s q 4 x)) := pq_10_4 (F := fun h _ _ => F h) (kc := 0) (ks := 0) h h16
theorem pq_10_5 {s : zS} {q : Nat} {x : Nat} {F : zH → Nat → Nat → Prop} {kc ks : Nat} (h : gD s q = 14) (h16 : 16 ≤ q) : (zob ((hOf s).1 q) 10 fun fs => 5 < fs.length ∧ zfit (zty 10 5) (.ref x) = true ∧ F (zup (hOf s) q (.inr (11, fs.set 5 (.ref x)))) kc ks) = F (hOf (sR s q 5 x)) kc ks := by
  rw [← pp_10_5 (F := F) (x := x) (kc := kc) (ks := ks) h h16]
  congr 1
  funext fs
  exact propext ⟨fun z => ⟨h16, z⟩, fun z => z.2⟩
theorem pw_10_5 {s : zS} {q : Nat} {x : Nat} {F : zH → Prop} (h : gD s q = 14) (h16 : 16 ≤ q) : (zob ((hOf s).1 q) 10 fun fs => 5 < fs.length ∧ zfit (zty 10 5) (.ref x) = true ∧ F (zup (hOf s) q (.inr (11, fs.set 5 (.ref x))))) = F (hOf (sR s q 5 x)) := pq_10_5 (F := fun h _ _ => F h) (kc := 0) (ks := 0) h h16
theorem pq_10_6 {s : zS} {q : Nat} {x : Nat} {F : zH → Nat → Nat → Prop} {kc ks : Nat} (h : gD s q = 14) (h16 : 16 ≤ q) : (zob ((hOf s).1 q) 10 fun fs => 6 < fs.length ∧ zfit (zty 10 6) (.ref x) = true ∧ F (zup (hOf s) q (.inr (11, fs.set 6 (.ref x)))) kc ks) = F (hOf (sR s q 6 x)) kc ks := by
  rw [← pp_10_6 (F := F) (x := x) (kc := kc) (ks := ks) h h16]
  congr 1
  funext fs
  exact propext ⟨fun z => ⟨h16, z⟩, fun z => z.2⟩
theorem pw_10_6 {s : zS} {q : Nat} {x : Nat} {F : zH → Prop} (h : gD s q = 14) (h16 : 16 ≤ q) : (zob ((hOf s).1 q) 10 fun fs => 6 < fs.length ∧ zfit (zty 10 6) (.ref x) = true ∧ F (zup (hOf s) q (.inr (11, fs.set 6 (.ref x))))) = F (hOf (sR s q 6 x)) := pq_10_6 (F := fun h _ _ => F h) (kc := 0) (ks := 0) h h16
theorem pq_10_7 {s : zS} {q : Nat} {x : Nat} {F : zH → Nat → Nat → Prop} {kc ks : Nat} (h : gD s q = 14) (h16 : 16 ≤ q) : (zob ((hOf s).1 q) 10 fun fs => 7 < fs.length ∧ zfit (zty 10 7) (.ref x) = true ∧ F (zup (hOf s) q (.inr (11, fs.set 7 (.ref x)))) kc ks) = F (hOf (sR s q 7 x)) kc ks := by
  rw [← pp_10_7 (F := F) (x := x) (kc := kc) (ks := ks) h h16]
  congr 1
  funext fs
  exact propext ⟨fun z => ⟨h16, z⟩, fun z => z.2⟩
theorem pw_10_7 {s : zS} {q : Nat} {x : Nat} {F : zH → Prop} (h : gD s q = 14) (h16 : 16 ≤ q) : (zob ((hOf s).1 q) 10 fun fs => 7 < fs.length ∧ zfit (zty 10 7) (.ref x) = true ∧ F (zup (hOf s) q (.inr (11, fs.set 7 (.ref x))))) = F (hOf (sR s q 7 x)) := pq_10_7 (F := fun h _ _ => F h) (kc := 0) (ks := 0) h h16
theorem pq_10_8 {s : zS} {q : Nat} {x : Nat} {F : zH → Nat → Nat → Prop} {kc ks : Nat} (h : gD s q = 14) (h16 : 16 ≤ q) : (zob ((hOf s).1 q) 10 fun fs => 8 < fs.length ∧ zfit (zty 10 8) (.ref x) = true ∧ F (zup (hOf s) q (.inr (11, fs.set 8 (.ref x)))) kc ks) = F (hOf (sR s q 8 x)) kc ks := by
  rw [← pp_10_8 (F := F) (x := x) (kc := kc) (ks := ks) h h16]
  congr 1
  funext fs
  exact propext ⟨fun z => ⟨h16, z⟩, fun z => z.2⟩
theorem pw_10_8 {s : zS} {q : Nat} {x : Nat} {F : zH → Prop} (h : gD s q = 14) (h16 : 16 ≤ q) : (zob ((hOf s).1 q) 10 fun fs => 8 < fs.length ∧ zfit (zty 10 8) (.ref x) = true ∧ F (zup (hOf s) q (.inr (11, fs.set 8 (.ref x))))) = F (hOf (sR s q 8 x)) := pq_10_8 (F := fun h _ _ => F h) (kc := 0) (ks := 0) h h16
theorem pq_10_9 {s : zS} {q : Nat} {x : Nat} {F : zH → Nat → Nat → Prop} {kc ks : Nat} (h : gD s q = 14) (h16 : 16 ≤ q) : (zob ((hOf s).1 q) 10 fun fs => 9 < fs.length ∧ zfit (zty 10 9) (.ref x) = true ∧ F (zup (hOf s) q (.inr (11, fs.set 9 (.ref x)))) kc ks) = F (hOf (sR s q 9 x)) kc ks := by
  rw [← pp_10_9 (F := F) (x := x) (kc := kc) (ks := ks) h h16]
  congr 1
  funext fs
  exact propext ⟨fun z => ⟨h16, z⟩, fun z => z.2⟩
theorem pw_10_9 {s : zS} {q : Nat} {x : Nat} {F : zH → Prop} (h : gD s q = 14) (h16 : 16 ≤ q) : (zob ((hOf s).1 q) 10 fun fs => 9 < fs.length ∧ zfit (zty 10 9) (.ref x) = true ∧ F (zup (hOf s) q (.inr (11, fs.set 9 (.ref x))))) = F (hOf (sR s q 9 x)) := pq_10_9 (F := fun h _ _ => F h) (kc := 0) (ks := 0) h h16
theorem pq_10_10 {s : zS} {q : Nat} {x : Nat} {F : zH → Nat → Nat → Prop} {kc ks : Nat} (h : gD s q = 14) (h16 : 16 ≤ q) : (zob ((hOf s).1 q) 10 fun fs => 10 < fs.length ∧ zfit (zty 10 10) (.ref x) = true ∧ F (zup (hOf s) q (.inr (11, fs.set 10 (.ref x)))) kc ks) = F (hOf (sR s q 10 x)) kc ks := by
  rw [← pp_10_10 (F := F) (x := x) (kc := kc) (ks := ks) h h16]
  congr 1
  funext fs
  exact propext ⟨fun z => ⟨h16, z⟩, fun z => z.2⟩
theorem pw_10_10 {s : zS} {q : Nat} {x : Nat} {F : zH → Prop} (h : gD s q = 14) (h16 : 16 ≤ q) : (zob ((hOf s).1 q) 10 fun fs => 10 < fs.length ∧ zfit (zty 10 10) (.ref x) = true ∧ F (zup (hOf s) q (.inr (11, fs.set 10 (.ref x))))) = F (hOf (sR s q 10 x)) := pq_10_10 (F := fun h _ _ => F h) (kc := 0) (ks := 0) h h16
theorem pq_10_11 {s : zS} {q : Nat} {x : Nat} {F : zH → Nat → Nat → Prop} {kc ks : Nat} (h : gD s q = 14) (h16 : 16 ≤ q) : (zob ((hOf s).1 q) 10 fun fs => 11 < fs.length ∧ zfit (zty 10 11) (.ref x) = true ∧ F (zup (hOf s) q (.inr (11, fs.set 11 (.ref x)))) kc ks) = F (hOf (sR s q 11 x)) kc ks := by
  rw [← pp_10_11 (F := F) (x := x) (kc := kc) (ks := ks) h h16]
  congr 1
  funext fs
  exact propext ⟨fun z => ⟨h16, z⟩, fun z => z.2⟩
theorem pw_10_11 {s : zS} {q : Nat} {x : Nat} {F : zH → Prop} (h : gD s q = 14) (h16 : 16 ≤ q) : (zob ((hOf s).1 q) 10 fun fs => 11 < fs.length ∧ zfit (zty 10 11) (.ref x) = true ∧ F (zup (hOf s) q (.inr (11, fs.set 11 (.ref x))))) = F (hOf (sR s q 11 x)) := pq_10_11 (F := fun h _ _ => F h) (kc := 0) (ks := 0) h h16
theorem pq_10_12 {s : zS} {q : Nat} {x : Nat} {F : zH → Nat → Nat → Prop} {kc ks : Nat} (h : gD s q = 14) (h16 : 16 ≤ q) : (zob ((hOf s).1 q) 10 fun fs => 12 < fs.length ∧ zfit (zty 10 12) (.ref x) = true ∧ F (zup (hOf s) q (.inr (11, fs.set 12 (.ref x)))) kc ks) = F (hOf (sR s q 12 x)) kc ks := by
  rw [← pp_10_12 (F := F) (x := x) (kc := kc) (ks := ks) h h16]
  congr 1
  funext fs
  exact propext ⟨fun z => ⟨h16, z⟩, fun z => z.2⟩
theorem pw_10_12 {s : zS} {q : Nat} {x : Nat} {F : zH → Prop} (h : gD s q = 14) (h16 : 16 ≤ q) : (zob ((hOf s).1 q) 10 fun fs => 12 < fs.length ∧ zfit (zty 10 12) (.ref x) = true ∧ F (zup (hOf s) q (.inr (11, fs.set 12 (.ref x))))) = F (hOf (sR s q 12 x)) := pq_10_12 (F := fun h _ _ => F h) (kc := 0) (ks := 0) h h16
theorem pq_10_13 {s : zS} {q : Nat} {x : Nat} {F : zH → Nat → Nat → Prop} {kc ks : Nat} (h : gD s q = 14) (h16 : 16 ≤ q) : (zob ((hOf s).1 q) 10 fun fs => 13 < fs.length ∧ zfit (zty 10 13) (.ref x) = true ∧ F (zup (hOf s) q (.inr (11, fs.set 13 (.ref x)))) kc ks) = F (hOf (sR s q 13 x)) kc ks := by
  rw [← pp_10_13 (F := F) (x := x) (kc := kc) (ks := ks) h h16]
  congr 1
  funext fs
  exact propext ⟨fun z => ⟨h16, z⟩, fun z => z.2⟩
theorem pw_10_13 {s : zS} {q : Nat} {x : Nat} {F : zH → Prop} (h : gD s q = 14) (h16 : 16 ≤ q) : (zob ((hOf s).1 q) 10 fun fs => 13 < fs.length ∧ zfit (zty 10 13) (.ref x) = true ∧ F (zup (hOf s) q (.inr (11, fs.set 13 (.ref x))))) = F (hOf (sR s q 13 x)) := pq_10_13 (F := fun h _ _ => F h) (kc := 0) (ks := 0) h h16
theorem pq_11_0 {s : zS} {q : Nat} {x : Int32} {F : zH → Nat → Nat → Prop} {kc ks : Nat} (h : gD s q = 15) (h16 : 16 ≤ q) : (zob ((hOf s).1 q) 11 fun fs => 0 < fs.length ∧ zfit (zty 11 0) (.int x) = true ∧ F (zup (hOf s) q (.inr (12, fs.set 0 (.int x)))) kc ks) = F (hOf (sI s q 0 x)) kc ks := by
  rw [← pp_11_0 (F := F) (x := x) (kc := kc) (ks := ks) h h16]
  congr 1
  funext fs
  exact propext ⟨fun z => ⟨h16, z⟩, fun z => z.2⟩
theorem pw_11_0 {s : zS} {q : Nat} {x : Int32} {F : zH → Prop} (h : gD s q = 15) (h16 : 16 ≤ q) : (zob ((hOf s).1 q) 11 fun fs => 0 < fs.length ∧ zfit (zty 11 0) (.int x) = true ∧ F (zup (hOf s) q (.inr (12, fs.set 0 (.int x))))) = F (hOf (sI s q 0 x)) := pq_11_0 (F := fun h _ _ => F h) (kc := 0) (ks := 0) h h16
theorem pq_11_1 {s : zS} {q : Nat} {x : Int32} {F : zH → Nat → Nat → Prop} {kc ks : Nat} (h : gD s q = 15) (h16 : 16 ≤ q) : (zob ((hOf s).1 q) 11 fun fs => 1 < fs.length ∧ zfit (zty 11 1) (.int x) = true ∧ F (zup (hOf s) q (.inr (12, fs.set 1 (.int x)))) kc ks) = F (hOf (sI s q 1 x)) kc ks := by
  rw [← pp_11_1 (F := F) (x := x) (kc := kc) (ks := ks) h h16]
  congr 1
  funext fs
  exact propext ⟨fun z => ⟨h16, z⟩, fun z => z.2⟩
theorem pw_11_1 {s : zS} {q : Nat} {x : Int32} {F : zH → Prop} (h : gD s q = 15) (h16 : 16 ≤ q) : (zob ((hOf s).1 q) 11 fun fs => 1 < fs.length ∧ zfit (zty 11 1) (.int x) = true ∧ F (zup (hOf s) q (.inr (12, fs.set 1 (.int x))))) = F (hOf (sI s q 1 x)) := pq_11_1 (F := fun h _ _ => F h) (kc := 0) (ks := 0) h h16
theorem pq_11_2 {s : zS} {q : Nat} {x : Int32} {F : zH → Nat → Nat → Prop} {kc ks : Nat} (h : gD s q = 15) (h16 : 16 ≤ q) : (zob ((hOf s).1 q) 11 fun fs => 2 < fs.length ∧ zfit (zty 11 2) (.int x) = true ∧ F (zup (hOf s) q (.inr (12, fs.set 2 (.int x)))) kc ks) = F (hOf (sI s q 2 x)) kc ks := by
  rw [← pp_11_2 (F := F) (x := x) (kc := kc) (ks := ks) h h16]
  congr 1
  funext fs
  exact propext ⟨fun z => ⟨h16, z⟩, fun z => z.2⟩
theorem pw_11_2 {s : zS} {q : Nat} {x : Int32} {F : zH → Prop} (h : gD s q = 15) (h16 : 16 ≤ q) : (zob ((hOf s).1 q) 11 fun fs => 2 < fs.length ∧ zfit (zty 11 2) (.int x) = true ∧ F (zup (hOf s) q (.inr (12, fs.set 2 (.int x))))) = F (hOf (sI s q 2 x)) := pq_11_2 (F := fun h _ _ => F h) (kc := 0) (ks := 0) h h16
theorem pq_11_3 {s : zS} {q : Nat} {x : Int32} {F : zH → Nat → Nat → Prop} {kc ks : Nat} (h : gD s q = 15) (h16 : 16 ≤ q) : (zob ((hOf s).1 q) 11 fun fs => 3 < fs.length ∧ zfit (zty 11 3) (.int x) = true ∧ F (zup (hOf s) q (.inr (12, fs.set 3 (.int x)))) kc ks) = F (hOf (sI s q 3 x)) kc ks := by
  rw [← pp_11_3 (F := F) (x := x) (kc := kc) (ks := ks) h h16]
  congr 1
  funext fs
  exact propext ⟨fun z => ⟨h16, z⟩, fun z => z.2⟩
theorem pw_11_3 {s : zS} {q : Nat} {x : Int32} {F : zH → Prop} (h : gD s q = 15) (h16 : 16 ≤ q) : (zob ((hOf s).1 q) 11 fun fs => 3 < fs.length ∧ zfit (zty 11 3) (.int x) = true ∧ F (zup (hOf s) q (.inr (12, fs.set 3 (.int x))))) = F (hOf (sI s q 3 x)) := pq_11_3 (F := fun h _ _ => F h) (kc := 0) (ks := 0) h h16
theorem pq_11_4 {s : zS} {q : Nat} {x : Int32} {F : zH → Nat → Nat → Prop} {kc ks : Nat} (h : gD s q = 15) (h16 : 16 ≤ q) : (zob ((hOf s).1 q) 11 fun fs => 4 < fs.length ∧ zfit (zty 11 4) (.int x) = true ∧ F (zup (hOf s) q (.inr (12, fs.set 4 (.int x)))) kc ks) = F (hOf (sI s q 4 x)) kc ks := by
  rw [← pp_11_4 (F := F) (x := x) (kc := kc) (ks := ks) h h16]
  congr 1
  funext fs
  exact propext ⟨fun z => ⟨h16, z⟩, fun z => z.2⟩
theorem pw_11_4 {s : zS} {q : Nat} {x : Int32} {F : zH → Prop} (h : gD s q = 15) (h16 : 16 ≤ q) : (zob ((hOf s).1 q) 11 fun fs => 4 < fs.length ∧ zfit (zty 11 4) (.int x) = true ∧ F (zup (hOf s) q (.inr (12, fs.set 4 (.int x))))) = F (hOf (sI s q 4 x)) := pq_11_4 (F := fun h _ _ => F h) (kc := 0) (ks := 0) h h16
theorem pq_11_5 {s : zS} {q : Nat} {x : Int32} {F : zH → Nat → Nat → Prop} {kc ks : Nat} (h : gD s q = 15) (h16 : 16 ≤ q) : (zob ((hOf s).1 q) 11 fun fs => 5 < fs.length ∧ zfit (zty 11 5) (.int x) = true ∧ F (zup (hOf s) q (.inr (12, fs.set 5 (.int x)))) kc ks) = F (hOf (sI s q 5 x)) kc ks := by
  rw [← pp_11_5 (F := F) (x := x) (kc := kc) (ks := ks) h h16]
  congr 1
  funext fs
  exact propext ⟨fun z => ⟨h16, z⟩, fun z => z.2⟩
theorem pw_11_5 {s : zS} {q : Nat} {x : Int32} {F : zH → Prop} (h : gD s q = 15) (h16 : 16 ≤ q) : (zob ((hOf s).1 q) 11 fun fs => 5 < fs.length ∧ zfit (zty 11 5) (.int x) = true ∧ F (zup (hOf s) q (.inr (12, fs.set 5 (.int x))))) = F (hOf (sI s q 5 x)) := pq_11_5 (F := fun h _ _ => F h) (kc := 0) (ks := 0) h h16
theorem pq_11_6 {s : zS} {q : Nat} {x : Int32} {F : zH → Nat → Nat → Prop} {kc ks : Nat} (h : gD s q = 15) (h16 : 16 ≤ q) : (zob ((hOf s).1 q) 11 fun fs => 6 < fs.length ∧ zfit (zty 11 6) (.int x) = true ∧ F (zup (hOf s) q (.inr (12, fs.set 6 (.int x)))) kc ks) = F (hOf (sI s q 6 x)) kc ks := by
  rw [← pp_11_6 (F := F) (x := x) (kc := kc) (ks := ks) h h16]
  congr 1
  funext fs
  exact propext ⟨fun z => ⟨h16, z⟩, fun z => z.2⟩
theorem pw_11_6 {s : zS} {q : Nat} {x : Int32} {F : zH → Prop} (h : gD s q = 15) (h16 : 16 ≤ q) : (zob ((hOf s).1 q) 11 fun fs => 6 < fs.length ∧ zfit (zty 11 6) (.int x) = true ∧ F (zup (hOf s) q (.inr (12, fs.set 6 (.int x))))) = F (hOf (sI s q 6 x)) := pq_11_6 (F := fun h _ _ => F h) (kc := 0) (ks := 0) h h16
theorem pq_11_7 {s : zS} {q : Nat} {x : Int32} {F : zH → Nat → Nat → Prop} {kc ks : Nat} (h : gD s q = 15) (h16 : 16 ≤ q) : (zob ((hOf s).1 q) 11 fun fs => 7 < fs.length ∧ zfit (zty 11 7) (.int x) = true ∧ F (zup (hOf s) q (.inr (12, fs.set 7 (.int x)))) kc ks) = F (hOf (sI s q 7 x)) kc ks := by
  rw [← pp_11_7 (F := F) (x := x) (kc := kc) (ks := ks) h h16]
  congr 1
  funext fs
  exact propext ⟨fun z => ⟨h16, z⟩, fun z => z.2⟩
theorem pw_11_7 {s : zS} {q : Nat} {x : Int32} {F : zH → Prop} (h : gD s q = 15) (h16 : 16 ≤ q) : (zob ((hOf s).1 q) 11 fun fs => 7 < fs.length ∧ zfit (zty 11 7) (.int x) = true ∧ F (zup (hOf s) q (.inr (12, fs.set 7 (.int x))))) = F (hOf (sI s q 7 x)) := pq_11_7 (F := fun h _ _ => F h) (kc := 0) (ks := 0) h h16
theorem pq_11_8 {s : zS} {q : Nat} {x : Nat} {F : zH → Nat → Nat → Prop} {kc ks : Nat} (h : gD s q = 15) (h16 : 16 ≤ q) : (zob ((hOf s).1 q) 11 fun fs => 8 < fs.length ∧ zfit (zty 11 8) (.ref x) = true ∧ F (zup (hOf s) q (.inr (12, fs.set 8 (.ref x)))) kc ks) = F (hOf (sR s q 8 x)) kc ks := by
  rw [← pp_11_8 (F := F) (x := x) (kc := kc) (ks := ks) h h16]
  congr 1
  funext fs
  exact propext ⟨fun z => ⟨h16, z⟩, fun z => z.2⟩
theorem pw_11_8 {s : zS} {q : Nat} {x : Nat} {F : zH → Prop} (h : gD s q = 15) (h16 : 16 ≤ q) : (zob ((hOf s).1 q) 11 fun fs => 8 < fs.length ∧ zfit (zty 11 8) (.ref x) = true ∧ F (zup (hOf s) q (.inr (12, fs.set 8 (.ref x))))) = F (hOf (sR s q 8 x)) := pq_11_8 (F := fun h _ _ => F h) (kc := 0) (ks := 0) h h16
theorem pq_11_9 {s : zS} {q : Nat} {x : Nat} {F : zH → Nat → Nat → Prop} {kc ks : Nat} (h : gD s q = 15) (h16 : 16 ≤ q) : (zob ((hOf s).1 q) 11 fun fs => 9 < fs.length ∧ zfit (zty 11 9) (.ref x) = true ∧ F (zup (hOf s) q (.inr (12, fs.set 9 (.ref x)))) kc ks) = F (hOf (sR s q 9 x)) kc ks := by
  rw [← pp_11_9 (F := F) (x := x) (kc := kc) (ks := ks) h h16]
  congr 1
  funext fs
  exact propext ⟨fun z => ⟨h16, z⟩, fun z => z.2⟩
theorem pw_11_9 {s : zS} {q : Nat} {x : Nat} {F : zH → Prop} (h : gD s q = 15) (h16 : 16 ≤ q) : (zob ((hOf s).1 q) 11 fun fs => 9 < fs.length ∧ zfit (zty 11 9) (.ref x) = true ∧ F (zup (hOf s) q (.inr (12, fs.set 9 (.ref x))))) = F (hOf (sR s q 9 x)) := pq_11_9 (F := fun h _ _ => F h) (kc := 0) (ks := 0) h h16
theorem pq_11_10 {s : zS} {q : Nat} {x : Nat} {F : zH → Nat → Nat → Prop} {kc ks : Nat} (h : gD s q = 15) (h16 : 16 ≤ q) : (zob ((hOf s).1 q) 11 fun fs => 10 < fs.length ∧ zfit (zty 11 10) (.ref x) = true ∧ F (zup (hOf s) q (.inr (12, fs.set 10 (.ref x)))) kc ks) = F (hOf (sR s q 10 x)) kc ks := by
  rw [← pp_11_10 (F := F) (x := x) (kc := kc) (ks := ks) h h16]
  congr 1
  funext fs
  exact propext ⟨fun z => ⟨h16, z⟩, fun z => z.2⟩
theorem pw_11_10 {s : zS} {q : Nat} {x : Nat} {F : zH → Prop} (h : gD s q = 15) (h16 : 16 ≤ q) : (zob ((hOf s).1 q) 11 fun fs => 10 < fs.length ∧ zfit (zty 11 10) (.ref x) = true ∧ F (zup (hOf s) q (.inr (12, fs.set 10 (.ref x))))) = F (hOf (sR s q 10 x)) := pq_11_10 (F := fun h _ _ => F h) (kc := 0) (ks := 0) h h16
theorem pq_11_11 {s : zS} {q : Nat} {x : Nat} {F : zH → Nat → Nat → Prop} {kc ks : Nat} (h : gD s q = 15) (h16 : 16 ≤ q) : (zob ((hOf s).1 q) 11 fun fs => 11 < fs.length ∧ zfit (zty 11 11) (.ref x) = true ∧ F (zup (hOf s) q (.inr (12, fs.set 11 (.ref x)))) kc ks) = F (hOf (sR s q 11 x)) kc ks := by
  rw [← pp_11_11 (F := F) (x := x) (kc := kc) (ks := ks) h h16]
  congr 1
  funext fs
  exact propext ⟨fun z => ⟨h16, z⟩, fun z => z.2⟩
theorem pw_11_11 {s : zS} {q : Nat} {x : Nat} {F : zH → Prop} (h : gD s q = 15) (h16 : 16 ≤ q) : (zob ((hOf s).1 q) 11 fun fs => 11 < fs.length ∧ zfit (zty 11 11) (.ref x) = true ∧ F (zup (hOf s) q (.inr (12, fs.set 11 (.ref x))))) = F (hOf (sR s q 11 x)) := pq_11_11 (F := fun h _ _ => F h) (kc := 0) (ks := 0) h h16
theorem pq_11_12 {s : zS} {q : Nat} {x : Nat} {F : zH → Nat → Nat → Prop} {kc ks : Nat} (h : gD s q = 15) (h16 : 16 ≤ q) : (zob ((hOf s).1 q) 11 fun fs => 12 < fs.length ∧ zfit (zty 11 12) (.ref x) = true ∧ F (zup (hOf s) q (.inr (12, fs.set 12 (.ref x)))) kc ks) = F (hOf (sR s q 12 x)) kc ks := by
  rw [← pp_11_12 (F := F) (x := x) (kc := kc) (ks := ks) h h16]
  congr 1
  funext fs
  exact propext ⟨fun z => ⟨h16, z⟩, fun z => z.2⟩
theorem pw_11_12 {s : zS} {q : Nat} {x : Nat} {F : zH → Prop} (h : gD s q = 15) (h16 : 16 ≤ q) : (zob ((hOf s).1 q) 11 fun fs => 12 < fs.length ∧ zfit (zty 11 12) (.ref x) = true ∧ F (zup (hOf s) q (.inr (12, fs.set 12 (.ref x))))) = F (hOf (sR s q 12 x)) := pq_11_12 (F := fun h _ _ => F h) (kc := 0) (ks := 0) h h16
theorem pq_11_13 {s : zS} {q : Nat} {x : Nat} {F : zH → Nat → Nat → Prop} {kc ks : Nat} (h : gD s q = 15) (h16 : 16 ≤ q) : (zob ((hOf s).1 q) 11 fun fs => 13 < fs.length ∧ zfit (zty 11 13) (.ref x) = true ∧ F (zup (hOf s) q (.inr (12, fs.set 13 (.ref x)))) kc ks) = F (hOf (sR s q 13 x)) kc ks := by
  rw [← pp_11_13 (F := F) (x := x) (kc := kc) (ks := ks) h h16]
  congr 1
  funext fs
  exact propext ⟨fun z => ⟨h16, z⟩, fun z => z.2⟩
theorem pw_11_13 {s : zS} {q : Nat} {x : Nat} {F : zH → Prop} (h : gD s q = 15) (h16 : 16 ≤ q) : (zob ((hOf s).1 q) 11 fun fs => 13 < fs.length ∧ zfit (zty 11 13) (.ref x) = true ∧ F (zup (hOf s) q (.inr (12, fs.set 13 (.ref x))))) = F (hOf (sR s q 13 x)) := pq_11_13 (F := fun h _ _ => F h) (kc := 0) (ks := 0) h h16
theorem pq_11_14 {s : zS} {q : Nat} {x : Nat} {F : zH → Nat → Nat → Prop} {kc ks : Nat} (h : gD s q = 15) (h16 : 16 ≤ q) : (zob ((hOf s).1 q) 11 fun fs => 14 < fs.length ∧ zfit (zty 11 14) (.ref x) = true ∧ F (zup (hOf s) q (.inr (12, fs.set 14 (.ref x)))) kc ks) = F (hOf (sR s q 14 x)) kc ks := by
  rw [← pp_11_14 (F := F) (x := x) (kc := kc) (ks := ks) h h16]
  congr 1
  funext fs
  exact propext ⟨fun z => ⟨h16, z⟩, fun z => z.2⟩
theorem pw_11_14 {s : zS} {q : Nat} {x : Nat} {F : zH → Prop} (h : gD s q = 15) (h16 : 16 ≤ q) : (zob ((hOf s).1 q) 11 fun fs => 14 < fs.length ∧ zfit (zty 11 14) (.ref x) = true ∧ F (zup (hOf s) q (.inr (12, fs.set 14 (.ref x))))) = F (hOf (sR s q 14 x)) := pq_11_14 (F := fun h _ _ => F h) (kc := 0) (ks := 0) h h16
theorem pq_11_15 {s : zS} {q : Nat} {x : Nat} {F : zH → Nat → Nat → Prop} {kc ks : Nat} (h : gD s q = 15) (h16 : 16 ≤ q) : (zob ((hOf s).1 q) 11 fun fs => 15 < fs.length ∧ zfit (zty 11 15) (.ref x) = true ∧ F (zup (hOf s) q (.inr (12, fs.set 15 (.ref x)))) kc ks) = F (hOf (sR s q 15 x)) kc ks := by
  rw [← pp_11_15 (F := F) (x := x) (kc := kc) (ks := ks) h h16]
  congr 1
  funext fs
  exact propext ⟨fun z => ⟨h16, z⟩, fun z => z.2⟩
theorem pw_11_15 {s : zS} {q : Nat} {x : Nat} {F : zH → Prop} (h : gD s q = 15) (h16 : 16 ≤ q) : (zob ((hOf s).1 q) 11 fun fs => 15 < fs.length ∧ zfit (zty 11 15) (.ref x) = true ∧ F (zup (hOf s) q (.inr (12, fs.set 15 (.ref x))))) = F (hOf (sR s q 15 x)) := pq_11_15 (F := fun h _ _ => F h) (kc := 0) (ks := 0) h h16
theorem pq_11_16 {s : zS} {q : Nat} {x : Nat} {F : zH → Nat → Nat → Prop} {kc ks : Nat} (h : gD s q = 15) (h16 : 16 ≤ q) : (zob ((hOf s).1 q) 11 fun fs => 16 < fs.length ∧ zfit (zty 11 16) (.ref x) = true ∧ F (zup (hOf s) q (.inr (12, fs.set 16 (.ref x)))) kc ks) = F (hOf (sR s q 16 x)) kc ks := by
  rw [← pp_11_16 (F := F) (x := x) (kc := kc) (ks := ks) h h16]
  congr 1
  funext fs
  exact propext ⟨fun z => ⟨h16, z⟩, fun z => z.2⟩
theorem pw_11_16 {s : zS} {q : Nat} {x : Nat} {F : zH → Prop} (h : gD s q = 15) (h16 : 16 ≤ q) : (zob ((hOf s).1 q) 11 fun fs => 16 < fs.length ∧ zfit (zty 11 16) (.ref x) = true ∧ F (zup (hOf s) q (.inr (12, fs.set 16 (.ref x))))) = F (hOf (sR s q 16 x)) := pq_11_16 (F := fun h _ _ => F h) (kc := 0) (ks := 0) h h16
theorem pq_11_17 {s : zS} {q : Nat} {x : Nat} {F : zH → Nat → Nat → Prop} {kc ks : Nat} (h : gD s q = 15) (h16 : 16 ≤ q) : (zob ((hOf s).1 q) 11 fun fs => 17 < fs.length ∧ zfit (zty 11 17) (.ref x) = true ∧ F (zup (hOf s) q (.inr (12, fs.set 17 (.ref x)))) kc ks) = F (hOf (sR s q 17 x)) kc ks := by
  rw [← pp_11_17 (F := F) (x := x) (kc := kc) (ks := ks) h h16]
  congr 1
  funext fs
  exact propext ⟨fun z => ⟨h16, z⟩, fun z => z.2⟩
theorem pw_11_17 {s : zS} {q : Nat} {x : Nat} {F : zH → Prop} (h : gD s q = 15) (h16 : 16 ≤ q) : (zob ((hOf s).1 q) 11 fun fs => 17 < fs.length ∧ zfit (zty 11 17) (.ref x) = true ∧ F (zup (hOf s) q (.inr (12, fs.set 17 (.ref x))))) = F (hOf (sR s q 17 x)) := pq_11_17 (F := fun h _ _ => F h) (kc := 0) (ks := 0) h h16
theorem pq_11_18 {s : zS} {q : Nat} {x : Nat} {F : zH → Nat → Nat → Prop} {kc ks : Nat} (h : gD s q = 15) (h16 : 16 ≤ q) : (zob ((hOf s).1 q) 11 fun fs => 18 < fs.length ∧ zfit (zty 11 18) (.ref x) = true ∧ F (zup (hOf s) q (.inr (12, fs.set 18 (.ref x)))) kc ks) = F (hOf (sR s q 18 x)) kc ks := by
  rw [← pp_11_18 (F := F) (x := x) (kc := kc) (ks := ks) h h16]
  congr 1
  funext fs
  exact propext ⟨fun z => ⟨h16, z⟩, fun z => z.2⟩
theorem pw_11_18 {s : zS} {q : Nat} {x : Nat} {F : zH → Prop} (h : gD s q = 15) (h16 : 16 ≤ q) : (zob ((hOf s).1 q) 11 fun fs => 18 < fs.length ∧ zfit (zty 11 18) (.ref x) = true ∧ F (zup (hOf s) q (.inr (12, fs.set 18 (.ref x))))) = F (hOf (sR s q 18 x)) := pq_11_18 (F := fun h _ _ => F h) (kc := 0) (ks := 0) h h16
theorem pq_11_19 {s : zS} {q : Nat} {x : Int32} {F : zH → Nat → Nat → Prop} {kc ks : Nat} (h : gD s q = 15) (h16 : 16 ≤ q) : (zob ((hOf s).1 q) 11 fun fs => 19 < fs.length ∧ zfit (zty 11 19) (.int x) = true ∧ F (zup (hOf s) q (.inr (12, fs.set 19 (.int x)))) kc ks) = F (hOf (sI s q 19 x)) kc ks := by
  rw [← pp_11_19 (F := F) (x := x) (kc := kc) (ks := ks) h h16]
  congr 1
  funext fs
  exact propext ⟨fun z => ⟨h16, z⟩, fun z => z.2⟩
theorem pw_11_19 {s : zS} {q : Nat} {x : Int32} {F : zH → Prop} (h : gD s q = 15) (h16 : 16 ≤ q) : (zob ((hOf s).1 q) 11 fun fs => 19 < fs.length ∧ zfit (zty 11 19) (.int x) = true ∧ F (zup (hOf s) q (.inr (12, fs.set 19 (.int x))))) = F (hOf (sI s q 19 x)) := pq_11_19 (F := fun h _ _ => F h) (kc := 0) (ks := 0) h h16
theorem pq_11_20 {s : zS} {q : Nat} {x : Nat} {F : zH → Nat → Nat → Prop} {kc ks : Nat} (h : gD s q = 15) (h16 : 16 ≤ q) : (zob ((hOf s).1 q) 11 fun fs => 20 < fs.length ∧ zfit (zty 11 20) (.ref x) = true ∧ F (zup (hOf s) q (.inr (12, fs.set 20 (.ref x)))) kc ks) = F (hOf (sR s q 20 x)) kc ks := by
  rw [← pp_11_20 (F := F) (x := x) (kc := kc) (ks := ks) h h16]
  congr 1
  funext fs
  exact propext ⟨fun z => ⟨h16, z⟩, fun z => z.2⟩
theorem pw_11_20 {s : zS} {q : Nat} {x : Nat} {F : zH → Prop} (h : gD s q = 15) (h16 : 16 ≤ q) : (zob ((hOf s).1 q) 11 fun fs => 20 < fs.length ∧ zfit (zty 11 20) (.ref x) = true ∧ F (zup (hOf s) q (.inr (12, fs.set 20 (.ref x))))) = F (hOf (sR s q 20 x)) := pq_11_20 (F := fun h _ _ => F h) (kc := 0) (ks := 0) h h16
theorem pq_11_21 {s : zS} {q : Nat} {x : Nat} {F : zH → Nat → Nat → Prop} {kc ks : Nat} (h : gD s q = 15) (h16 : 16 ≤ q) : (zob ((hOf s).1 q) 11 fun fs => 21 < fs.length ∧ zfit (zty 11 21) (.ref x) = true ∧ F (zup (hOf s) q (.inr (12, fs.set 21 (.ref x)))) kc ks) = F (hOf (sR s q 21 x)) kc ks := by
  rw [← pp_11_21 (F := F) (x := x) (kc := kc) (ks := ks) h h16]
  congr 1
  funext fs
  exact propext ⟨fun z => ⟨h16, z⟩, fun z => z.2⟩
theorem pw_11_21 {s : zS} {q : Nat} {x : Nat} {F : zH → Prop} (h : gD s q = 15) (h16 : 16 ≤ q) : (zob ((hOf s).1 q) 11 fun fs => 21 < fs.length ∧ zfit (zty 11 21) (.ref x) = true ∧ F (zup (hOf s) q (.inr (12, fs.set 21 (.ref x))))) = F (hOf (sR s q 21 x)) := pq_11_21 (F := fun h _ _ => F h) (kc := 0) (ks := 0) h h16
theorem pq_11_22 {s : zS} {q : Nat} {x : Nat} {F : zH → Nat → Nat → Prop} {kc ks : Nat} (h : gD s q = 15) (h16 : 16 ≤ q) : (zob ((hOf s).1 q) 11 fun fs => 22 < fs.length ∧ zfit (zty 11 22) (.ref x) = true ∧ F (zup (hOf s) q (.inr (12, fs.set 22 (.ref x)))) kc ks) = F (hOf (sR s q 22 x)) kc ks := by
  rw [← pp_11_22 (F := F) (x := x) (kc := kc) (ks := ks) h h16]
  congr 1
  funext fs
  exact propext ⟨fun z => ⟨h16, z⟩, fun z => z.2⟩
theorem pw_11_22 {s : zS} {q : Nat} {x : Nat} {F : zH → Prop} (h : gD s q = 15) (h16 : 16 ≤ q) : (zob ((hOf s).1 q) 11 fun fs => 22 < fs.length ∧ zfit (zty 11 22) (.ref x) = true ∧ F (zup (hOf s) q (.inr (12, fs.set 22 (.ref x))))) = F (hOf (sR s q 22 x)) := pq_11_22 (F := fun h _ _ => F h) (kc := 0) (ks := 0) h h16
theorem pq_11_23 {s : zS} {q : Nat} {x : Nat} {F : zH → Nat → Nat → Prop} {kc ks : Nat} (h : gD s q = 15) (h16 : 16 ≤ q) : (zob ((hOf s).1 q) 11 fun fs => 23 < fs.length ∧ zfit (zty 11 23) (.ref x) = true ∧ F (zup (hOf s) q (.inr (12, fs.set 23 (.ref x)))) kc ks) = F (hOf (sR s q 23 x)) kc ks := by
  rw [← pp_11_23 (F := F) (x := x) (kc := kc) (ks := ks) h h16]
  congr 1
  funext fs
  exact propext ⟨fun z => ⟨h16, z⟩, fun z => z.2⟩
theorem pw_11_23 {s : zS} {q : Nat} {x : Nat} {F : zH → Prop} (h : gD s q = 15) (h16 : 16 ≤ q) : (zob ((hOf s).1 q) 11 fun fs => 23 < fs.length ∧ zfit (zty 11 23) (.ref x) = true ∧ F (zup (hOf s) q (.inr (12, fs.set 23 (.ref x))))) = F (hOf (sR s q 23 x)) := pq_11_23 (F := fun h _ _ => F h) (kc := 0) (ks := 0) h h16
theorem pq_11_24 {s : zS} {q : Nat} {x : Nat} {F : zH → Nat → Nat → Prop} {kc ks : Nat} (h : gD s q = 15) (h16 : 16 ≤ q) : (zob ((hOf s).1 q) 11 fun fs => 24 < fs.length ∧ zfit (zty 11 24) (.ref x) = true ∧ F (zup (hOf s) q (.inr (12, fs.set 24 (.ref x)))) kc ks) = F (hOf (sR s q 24 x)) kc ks := by
  rw [← pp_11_24 (F := F) (x := x) (kc := kc) (ks := ks) h h16]
  congr 1
  funext fs
  exact propext ⟨fun z => ⟨h16, z⟩, fun z => z.2⟩
theorem pw_11_24 {s : zS} {q : Nat} {x : Nat} {F : zH → Prop} (h : gD s q = 15) (h16 : 16 ≤ q) : (zob ((hOf s).1 q) 11 fun fs => 24 < fs.length ∧ zfit (zty 11 24) (.ref x) = true ∧ F (zup (hOf s) q (.inr (12, fs.set 24 (.ref x))))) = F (hOf (sR s q 24 x)) := pq_11_24 (F := fun h _ _ => F h) (kc := 0) (ks := 0) h h16
theorem pq_11_25 {s : zS} {q : Nat} {x : Nat} {F : zH → Nat → Nat → Prop} {kc ks : Nat} (h : gD s q = 15) (h16 : 16 ≤ q) : (zob ((hOf s).1 q) 11 fun fs => 25 < fs.length ∧ zfit (zty 11 25) (.ref x) = true ∧ F (zup (hOf s) q (.inr (12, fs.set 25 (.ref x)))) kc ks) = F (hOf (sR s q 25 x)) kc ks := by
  rw [← pp_11_25 (F := F) (x := x) (kc := kc) (ks := ks) h h16]
  congr 1
  funext fs
  exact propext ⟨fun z => ⟨h16, z⟩, fun z => z.2⟩
theorem pw_11_25 {s : zS} {q : Nat} {x : Nat} {F : zH → Prop} (h : gD s q = 15) (h16 : 16 ≤ q) : (zob ((hOf s).1 q) 11 fun fs => 25 < fs.length ∧ zfit (zty 11 25) (.ref x) = true ∧ F (zup (hOf s) q (.inr (12, fs.set 25 (.ref x))))) = F (hOf (sR s q 25 x)) := pq_11_25 (F := fun h _ _ => F h) (kc := 0) (ks := 0) h h16
theorem pq_11_26 {s : zS} {q : Nat} {x : Nat} {F : zH → Nat → Nat → Prop} {kc ks : Nat} (h : gD s q = 15) (h16 : 16 ≤ q) : (zob ((hOf s).1 q) 11 fun fs => 26 < fs.length ∧ zfit (zty 11 26) (.ref x) = true ∧ F (zup (hOf s) q (.inr (12, fs.set 26 (.ref x)))) kc ks) = F (hOf (sR s q 26 x)) kc ks := by
  rw [← pp_11_26 (F := F) (x := x) (kc := kc) (ks := ks) h h16]
  congr 1
  funext fs
  exact propext ⟨fun z => ⟨h16, z⟩, fun z => z.2⟩
theorem pw_11_26 {s : zS} {q : Nat} {x : Nat} {F : zH → Prop} (h : gD s q = 15) (h16 : 16 ≤ q) : (zob ((hOf s).1 q) 11 fun fs => 26 < fs.length ∧ zfit (zty 11 26) (.ref x) = true ∧ F (zup (hOf s) q (.inr (12, fs.set 26 (.ref x))))) = F (hOf (sR s q 26 x)) := pq_11_26 (F := fun h _ _ => F h) (kc := 0) (ks := 0) h h16
theorem pq_11_27 {s : zS} {q : Nat} {x : Int32} {F : zH → Nat → Nat → Prop} {kc ks : Nat} (h : gD s q = 15) (h16 : 16 ≤ q) : (zob ((hOf s).1 q) 11 fun fs => 27 < fs.length ∧ zfit (zty 11 27) (.int x) = true ∧ F (zup (hOf s) q (.inr (12, fs.set 27 (.int x)))) kc ks) = F (hOf (sI s q 27 x)) kc ks := by
  rw [← pp_11_27 (F := F) (x := x) (kc := kc) (ks := ks) h h16]
  congr 1
  funext fs
  exact propext ⟨fun z => ⟨h16, z⟩, fun z => z.2⟩
theorem pw_11_27 {s : zS} {q : Nat} {x : Int32} {F : zH → Prop} (h : gD s q = 15) (h16 : 16 ≤ q) : (zob ((hOf s).1 q) 11 fun fs => 27 < fs.length ∧ zfit (zty 11 27) (.int x) = true ∧ F (zup (hOf s) q (.inr (12, fs.set 27 (.int x))))) = F (hOf (sI s q 27 x)) := pq_11_27 (F := fun h _ _ => F h) (kc := 0) (ks := 0) h h16
theorem pq_11_28 {s : zS} {q : Nat} {x : Int32} {F : zH → Nat → Nat → Prop} {kc ks : Nat} (h : gD s q = 15) (h16 : 16 ≤ q) : (zob ((hOf s).1 q) 11 fun fs => 28 < fs.length ∧ zfit (zty 11 28) (.int x) = true ∧ F (zup (hOf s) q (.inr (12, fs.set 28 (.int x)))) kc ks) = F (hOf (sI s q 28 x)) kc ks := by
  rw [← pp_11_28 (F := F) (x := x) (kc := kc) (ks := ks) h h16]
  congr 1
  funext fs
  exact propext ⟨fun z => ⟨h16, z⟩, fun z => z.2⟩
theorem pw_11_28 {s : zS} {q : Nat} {x : Int32} {F : zH → Prop} (h : gD s q = 15) (h16 : 16 ≤ q) : (zob ((hOf s).1 q) 11 fun fs => 28 < fs.length ∧ zfit (zty 11 28) (.int x) = true ∧ F (zup (hOf s) q (.inr (12, fs.set 28 (.int x))))) = F (hOf (sI s q 28 x)) := pq_11_28 (F := fun h _ _ => F h) (kc := 0) (ks := 0) h h16
theorem pq_11_29 {s : zS} {q : Nat} {x : Int32} {F : zH → Nat → Nat → Prop} {kc ks : Nat} (h : gD s q = 15) (h16 : 16 ≤ q) : (zob ((hOf s).1 q) 11 fun fs => 29 < fs.length ∧ zfit (zty 11 29) (.int x) = true ∧ F (zup (hOf s) q (.inr (12, fs.set 29 (.int x)))) kc ks) = F (hOf (sI s q 29 x)) kc ks := by
  rw [← pp_11_29 (F := F) (x := x) (kc := kc) (ks := ks) h h16]
  congr 1
  funext fs
  exact propext ⟨fun z => ⟨h16, z⟩, fun z => z.2⟩
theorem pw_11_29 {s : zS} {q : Nat} {x : Int32} {F : zH → Prop} (h : gD s q = 15) (h16 : 16 ≤ q) : (zob ((hOf s).1 q) 11 fun fs => 29 < fs.length ∧ zfit (zty 11 29) (.int x) = true ∧ F (zup (hOf s) q (.inr (12, fs.set 29 (.int x))))) = F (hOf (sI s q 29 x)) := pq_11_29 (F := fun h _ _ => F h) (kc := 0) (ks := 0) h h16
theorem pq_11_30 {s : zS} {q : Nat} {x : Nat} {F : zH → Nat → Nat → Prop} {kc ks : Nat} (h : gD s q = 15) (h16 : 16 ≤ q) : (zob ((hOf s).1 q) 11 fun fs => 30 < fs.length ∧ zfit (zty 11 30) (.ref x) = true ∧ F (zup (hOf s) q (.inr (12, fs.set 30 (.ref x)))) kc ks) = F (hOf (sR s q 30 x)) kc ks := by
  rw [← pp_11_30 (F := F) (x := x) (kc := kc) (ks := ks) h h16]
  congr 1
  funext fs
  exact propext ⟨fun z => ⟨h16, z⟩, fun z => z.2⟩
theorem pw_11_30 {s : zS} {q : Nat} {x : Nat} {F : zH → Prop} (h : gD s q = 15) (h16 : 16 ≤ q) : (zob ((hOf s).1 q) 11 fun fs => 30 < fs.length ∧ zfit (zty 11 30) (.ref x) = true ∧ F (zup (hOf s) q (.inr (12, fs.set 30 (.ref x))))) = F (hOf (sR s q 30 x)) := pq_11_30 (F := fun h _ _ => F h) (kc := 0) (ks := 0) h h16
theorem pq_11_31 {s : zS} {q : Nat} {x : Nat} {F : zH → Nat → Nat → Prop} {kc ks : Nat} (h : gD s q = 15) (h16 : 16 ≤ q) : (zob ((hOf s).1 q) 11 fun fs => 31 < fs.length ∧ zfit (zty 11 31) (.ref x) = true ∧ F (zup (hOf s) q (.inr (12, fs.set 31 (.ref x)))) kc ks) = F (hOf (sR s q 31 x)) kc ks := by
  rw [← pp_11_31 (F := F) (x := x) (kc := kc) (ks := ks) h h16]
  congr 1
  funext fs
  exact propext ⟨fun z => ⟨h16, z⟩, fun z => z.2⟩
theorem pw_11_31 {s : zS} {q : Nat} {x : Nat} {F : zH → Prop} (h : gD s q = 15) (h16 : 16 ≤ q) : (zob ((hOf s).1 q) 11 fun fs => 31 < fs.length ∧ zfit (zty 11 31) (.ref x) = true ∧ F (zup (hOf s) q (.inr (12, fs.set 31 (.ref x))))) = F (hOf (sR s q 31 x)) := pq_11_31 (F := fun h _ _ => F h) (kc := 0) (ks := 0) h h16
theorem pq_11_32 {s : zS} {q : Nat} {x : Nat} {F : zH → Nat → Nat → Prop} {kc ks : Nat} (h : gD s q = 15) (h16 : 16 ≤ q) : (zob ((hOf s).1 q) 11 fun fs => 32 < fs.length ∧ zfit (zty 11 32) (.ref x) = true ∧ F (zup (hOf s) q (.inr (12, fs.set 32 (.ref x)))) kc ks) = F (hOf (sR s q 32 x)) kc ks := by
  rw [← pp_11_32 (F := F) (x := x) (kc := kc) (ks := ks) h h16]
  congr 1
  funext fs
  exact propext ⟨fun z => ⟨h16, z⟩, fun z => z.2⟩
theorem pw_11_32 {s : zS} {q : Nat} {x : Nat} {F : zH → Prop} (h : gD s q = 15) (h16 : 16 ≤ q) : (zob ((hOf s).1 q) 11 fun fs => 32 < fs.length ∧ zfit (zty 11 32) (.ref x) = true ∧ F (zup (hOf s) q (.inr (12, fs.set 32 (.ref x))))) = F (hOf (sR s q 32 x)) := pq_11_32 (F := fun h _ _ => F h) (kc := 0) (ks := 0) h h16
theorem pq_11_33 {s : zS} {q : Nat} {x : Int32} {F : zH → Nat → Nat → Prop} {kc ks : Nat} (h : gD s q = 15) (h16 : 16 ≤ q) : (zob ((hOf s).1 q) 11 fun fs => 33 < fs.length ∧ zfit (zty 11 33) (.int x) = true ∧ F (zup (hOf s) q (.inr (12, fs.set 33 (.int x)))) kc ks) = F (hOf (sI s q 33 x)) kc ks := by
  rw [← pp_11_33 (F := F) (x := x) (kc := kc) (ks := ks) h h16]
  congr 1
  funext fs
  exact propext ⟨fun z => ⟨h16, z⟩, fun z => z.2⟩
theorem pw_11_33 {s : zS} {q : Nat} {x : Int32} {F : zH → Prop} (h : gD s q = 15) (h16 : 16 ≤ q) : (zob ((hOf s).1 q) 11 fun fs => 33 < fs.length ∧ zfit (zty 11 33) (.int x) = true ∧ F (zup (hOf s) q (.inr (12, fs.set 33 (.int x))))) = F (hOf (sI s q 33 x)) := pq_11_33 (F := fun h _ _ => F h) (kc := 0) (ks := 0) h h16
theorem pq_11_34 {s : zS} {q : Nat} {x : Int32} {F : zH → Nat → Nat → Prop} {kc ks : Nat} (h : gD s q = 15) (h16 : 16 ≤ q) : (zob ((hOf s).1 q) 11 fun fs => 34 < fs.length ∧ zfit (zty 11 34) (.int x) = true ∧ F (zup (hOf s) q (.inr (12, fs.set 34 (.int x)))) kc ks) = F (hOf (sI s q 34 x)) kc ks := by
  rw [← pp_11_34 (F := F) (x := x) (kc := kc) (ks := ks) h h16]
  congr 1
  funext fs
  exact propext ⟨fun z => ⟨h16, z⟩, fun z => z.2⟩
theorem pw_11_34 {s : zS} {q : Nat} {x : Int32} {F : zH → Prop} (h : gD s q = 15) (h16 : 16 ≤ q) : (zob ((hOf s).1 q) 11 fun fs => 34 < fs.length ∧ zfit (zty 11 34) (.int x) = true ∧ F (zup (hOf s) q (.inr (12, fs.set 34 (.int x))))) = F (hOf (sI s q 34 x)) := pq_11_34 (F := fun h _ _ => F h) (kc := 0) (ks := 0) h h16
theorem pq_11_35 {s : zS} {q : Nat} {x : Int32} {F : zH → Nat → Nat → Prop} {kc ks : Nat} (h : gD s q = 15) (h16 : 16 ≤ q) : (zob ((hOf s).1 q) 11 fun fs => 35 < fs.length ∧ zfit (zty 11 35) (.int x) = true ∧ F (zup (hOf s) q (.inr (12, fs.set 35 (.int x)))) kc ks) = F (hOf (sI s q 35 x)) kc ks := by
  rw [← pp_11_35 (F := F) (x := x) (kc := kc) (ks := ks) h h16]
  congr 1
  funext fs
  exact propext ⟨fun z => ⟨h16, z⟩, fun z => z.2⟩
theorem pw_11_35 {s : zS} {q : Nat} {x : Int32} {F : zH → Prop} (h : gD s q = 15) (h16 : 16 ≤ q) : (zob ((hOf s).1 q) 11 fun fs => 35 < fs.length ∧ zfit (zty 11 35) (.int x) = true ∧ F (zup (hOf s) q (.inr (12, fs.set 35 (.int x))))) = F (hOf (sI s q 35 x)) := pq_11_35 (F := fun h _ _ => F h) (kc := 0) (ks := 0) h h16
theorem pq_11_36 {s : zS} {q : Nat} {x : Nat} {F : zH → Nat → Nat → Prop} {kc ks : Nat} (h : gD s q = 15) (h16 : 16 ≤ q) : (zob ((hOf s).1 q) 11 fun fs => 36 < fs.length ∧ zfit (zty 11 36) (.ref x) = true ∧ F (zup (hOf s) q (.inr (12, fs.set 36 (.ref x)))) kc ks) = F (hOf (sR s q 36 x)) kc ks := by
  rw [← pp_11_36 (F := F) (x := x) (kc := kc) (ks := ks) h h16]
  congr 1
  funext fs
  exact propext ⟨fun z => ⟨h16, z⟩, fun z => z.2⟩
theorem pw_11_36 {s : zS} {q : Nat} {x : Nat} {F : zH → Prop} (h : gD s q = 15) (h16 : 16 ≤ q) : (zob ((hOf s).1 q) 11 fun fs => 36 < fs.length ∧ zfit (zty 11 36) (.ref x) = true ∧ F (zup (hOf s) q (.inr (12, fs.set 36 (.ref x))))) = F (hOf (sR s q 36 x)) := pq_11_36 (F := fun h _ _ => F h) (kc := 0) (ks := 0) h h16
theorem pq_11_37 {s : zS} {q : Nat} {x : Nat} {F : zH → Nat → Nat → Prop} {kc ks : Nat} (h : gD s q = 15) (h16 : 16 ≤ q) : (zob ((hOf s).1 q) 11 fun fs => 37 < fs.length ∧ zfit (zty 11 37) (.ref x) = true ∧ F (zup (hOf s) q (.inr (12, fs.set 37 (.ref x)))) kc ks) = F (hOf (sR s q 37 x)) kc ks := by
  rw [← pp_11_37 (F := F) (x := x) (kc := kc) (ks := ks) h h16]
  congr 1
  funext fs
  exact propext ⟨fun z => ⟨h16, z⟩, fun z => z.2⟩
theorem pw_11_37 {s : zS} {q : Nat} {x : Nat} {F : zH → Prop} (h : gD s q = 15) (h16 : 16 ≤ q) : (zob ((hOf s).1 q) 11 fun fs => 37 < fs.length ∧ zfit (zty 11 37) (.ref x) = true ∧ F (zup (hOf s) q (.inr (12, fs.set 37 (.ref x))))) = F (hOf (sR s q 37 x)) := pq_11_37 (F := fun h _ _ => F h) (kc := 0) (ks := 0) h h16
theorem pq_11_38 {s : zS} {q : Nat} {x : Nat} {F : zH → Nat → Nat → Prop} {kc ks : Nat} (h : gD s q = 15) (h16 : 16 ≤ q) : (zob ((hOf s).1 q) 11 fun fs => 38 < fs.length ∧ zfit (zty 11 38) (.ref x) = true ∧ F (zup (hOf s) q (.inr (12, fs.set 38 (.ref x)))) kc ks) = F (hOf (sR s q 38 x)) kc ks := by
  rw [← pp_11_38 (F := F) (x := x) (kc := kc) (ks := ks) h h16]
  congr 1
  funext fs
  exact propext ⟨fun z => ⟨h16, z⟩, fun z => z.2⟩
theorem pw_11_38 {s : zS} {q : Nat} {x : Nat} {F : zH → Prop} (h : gD s q = 15) (h16 : 16 ≤ q) : (zob ((hOf s).1 q) 11 fun fs => 38 < fs.length ∧ zfit (zty 11 38) (.ref x) = true ∧ F (zup (hOf s) q (.inr (12, fs.set 38 (.ref x))))) = F (hOf (sR s q 38 x)) := pq_11_38 (F := fun h _ _ => F h) (kc := 0) (ks := 0) h h16
theorem pq_11_39 {s : zS} {q : Nat} {x : Nat} {F : zH → Nat → Nat → Prop} {kc ks : Nat} (h : gD s q = 15) (h16 : 16 ≤ q) : (zob ((hOf s).1 q) 11 fun fs => 39 < fs.length ∧ zfit (zty 11 39) (.ref x) = true ∧ F (zup (hOf s) q (.inr (12, fs.set 39 (.ref x)))) kc ks) = F (hOf (sR s q 39 x)) kc ks := by
  rw [← pp_11_39 (F := F) (x := x) (kc := kc) (ks := ks) h h16]
  congr 1
  funext fs
  exact propext ⟨fun z => ⟨h16, z⟩, fun z => z.2⟩
theorem pw_11_39 {s : zS} {q : Nat} {x : Nat} {F : zH → Prop} (h : gD s q = 15) (h16 : 16 ≤ q) : (zob ((hOf s).1 q) 11 fun fs => 39 < fs.length ∧ zfit (zty 11 39) (.ref x) = true ∧ F (zup (hOf s) q (.inr (12, fs.set 39 (.ref x))))) = F (hOf (sR s q 39 x)) := pq_11_39 (F := fun h _ _ => F h) (kc := 0) (ks := 0) h h16
theorem pq_11_40 {s : zS} {q : Nat} {x : Nat} {F : zH → Nat → Nat → Prop} {kc ks : Nat} (h : gD s q = 15) (h16 : 16 ≤ q) : (zob ((hOf s).1 q) 11 fun fs => 40 < fs.length ∧ zfit (zty 11 40) (.ref x) = true ∧ F (zup (hOf s) q (.inr (12, fs.set 40 (.ref x)))) kc ks) = F (hOf (sR s q 40 x)) kc ks := by
  rw [← pp_11_40 (F := F) (x := x) (kc := kc) (ks := ks) h h16]
  congr 1
  funext fs
  exact propext ⟨fun z => ⟨h16, z⟩, fun z => z.2⟩
theorem pw_11_40 {s : zS} {q : Nat} {x : Nat} {F : zH → Prop} (h : gD s q = 15) (h16 : 16 ≤ q) : (zob ((hOf s).1 q) 11 fun fs => 40 < fs.length ∧ zfit (zty 11 40) (.ref x) = true ∧ F (zup (hOf s) q (.inr (12, fs.set 40 (.ref x))))) = F (hOf (sR s q 40 x)) := pq_11_40 (F := fun h _ _ => F h) (kc := 0) (ks := 0) h h16
theorem pq_11_41 {s : zS} {q : Nat} {x : Nat} {F : zH → Nat → Nat → Prop} {kc ks : Nat} (h : gD s q = 15) (h16 : 16 ≤ q) : (zob ((hOf s).1 q) 11 fun fs => 41 < fs.length ∧ zfit (zty 11 41) (.ref x) = true ∧ F (zup (hOf s) q (.inr (12, fs.set 41 (.ref x)))) kc ks) = F (hOf (sR s q 41 x)) kc ks := by
  rw [← pp_11_41 (F := F) (x := x) (kc := kc) (ks := ks) h h16]
  congr 1
  funext fs
  exact propext ⟨fun z => ⟨h16, z⟩, fun z => z.2⟩
theorem pw_11_41 {s : zS} {q : Nat} {x : Nat} {F : zH → Prop} (h : gD s q = 15) (h16 : 16 ≤ q) : (zob ((hOf s).1 q) 11 fun fs => 41 < fs.length ∧ zfit (zty 11 41) (.ref x) = true ∧ F (zup (hOf s) q (.inr (12, fs.set 41 (.ref x))))) = F (hOf (sR s q 41 x)) := pq_11_41 (F := fun h _ _ => F h) (kc := 0) (ks := 0) h h16
theorem pq_11_42 {s : zS} {q : Nat} {x : Nat} {F : zH → Nat → Nat → Prop} {kc ks : Nat} (h : gD s q = 15) (h16 : 16 ≤ q) : (zob ((hOf s).1 q) 11 fun fs => 42 < fs.length ∧ zfit (zty 11 42) (.ref x) = true ∧ F (zup (hOf s) q (.inr (12, fs.set 42 (.ref x)))) kc ks) = F (hOf (sR s q 42 x)) kc ks := by
  rw [← pp_11_42 (F := F) (x := x) (kc := kc) (ks := ks) h h16]
  congr 1
  funext fs
  exact propext ⟨fun z => ⟨h16, z⟩, fun z => z.2⟩
theorem pw_11_42 {s : zS} {q : Nat} {x : Nat} {F : zH → Prop} (h : gD s q = 15) (h16 : 16 ≤ q) : (zob ((hOf s).1 q) 11 fun fs => 42 < fs.length ∧ zfit (zty 11 42) (.ref x) = true ∧ F (zup (hOf s) q (.inr (12, fs.set 42 (.ref x))))) = F (hOf (sR s q 42 x)) := pq_11_42 (F := fun h _ _ => F h) (kc := 0) (ks := 0) h h16
theorem pq_11_43 {s : zS} {q : Nat} {x : Int32} {F : zH → Nat → Nat → Prop} {kc ks : Nat} (h : gD s q = 15) (h16 : 16 ≤ q) : (zob ((hOf s).1 q) 11 fun fs => 43 < fs.length ∧ zfit (zty 11 43) (.int x) = true ∧ F (zup (hOf s) q (.inr (12, fs.set 43 (.int x)))) kc ks) = F (hOf (sI s q 43 x)) kc ks := by
  rw [← pp_11_43 (F := F) (x := x) (kc := kc) (ks := ks) h h16]
  congr 1
  funext fs
  exact propext ⟨fun z => ⟨h16, z⟩, fun z => z.2⟩
theorem pw_11_43 {s : zS} {q : Nat} {x : Int32} {F : zH → Prop} (h : gD s q = 15) (h16 : 16 ≤ q) : (zob ((hOf s).1 q) 11 fun fs => 43 < fs.length ∧ zfit (zty 11 43) (.int x) = true ∧ F (zup (hOf s) q (.inr (12, fs.set 43 (.int x))))) = F (hOf (sI s q 43 x)) := pq_11_43 (F := fun h _ _ => F h) (kc := 0) (ks := 0) h h16
theorem pq_11_44 {s : zS} {q : Nat} {x : Nat} {F : zH → Nat → Nat → Prop} {kc ks : Nat} (h : gD s q = 15) (h16 : 16 ≤ q) : (zob ((hOf s).1 q) 11 fun fs => 44 < fs.length ∧ zfit (zty 11 44) (.ref x) = true ∧ F (zup (hOf s) q (.inr (12, fs.set 44 (.ref x)))) kc ks) = F (hOf (sR s q 44 x)) kc ks := by
  rw [← pp_11_44 (F := F) (x := x) (kc := kc) (ks := ks) h h16]
  congr 1
  funext fs
  exact propext ⟨fun z => ⟨h16, z⟩, fun z => z.2⟩
theorem pw_11_44 {s : zS} {q : Nat} {x : Nat} {F : zH → Prop} (h : gD s q = 15) (h16 : 16 ≤ q) : (zob ((hOf s).1 q) 11 fun fs => 44 < fs.length ∧ zfit (zty 11 44) (.ref x) = true ∧ F (zup (hOf s) q (.inr (12, fs.set 44 (.ref x))))) = F (hOf (sR s q 44 x)) := pq_11_44 (F := fun h _ _ => F h) (kc := 0) (ks := 0) h h16
theorem pq_11_45 {s : zS} {q : Nat} {x : Int32} {F : zH → Nat → Nat → Prop} {kc ks : Nat} (h : gD s q = 15) (h16 : 16 ≤ q) : (zob ((hOf s).1 q) 11 fun fs => 45 < fs.length ∧ zfit (zty 11 45) (.int x) = true ∧ F (zup (hOf s) q (.inr (12, fs.set 45 (.int x)))) kc ks) = F (hOf (sI s q 45 x)) kc ks := by
  rw [← pp_11_45 (F := F) (x := x) (kc := kc) (ks := ks) h h16]
  congr 1
  funext fs
  exact propext ⟨fun z => ⟨h16, z⟩, fun z => z.2⟩
theorem pw_11_45 {s : zS} {q : Nat} {x : Int32} {F : zH → Prop} (h : gD s q = 15) (h16 : 16 ≤ q) : (zob ((hOf s).1 q) 11 fun fs => 45 < fs.length ∧ zfit (zty 11 45) (.int x) = true ∧ F (zup (hOf s) q (.inr (12, fs.set 45 (.int x))))) = F (hOf (sI s q 45 x)) := pq_11_45 (F := fun h _ _ => F h) (kc := 0) (ks := 0) h h16
theorem pq_11_46 {s : zS} {q : Nat} {x : Nat} {F : zH → Nat → Nat → Prop} {kc ks : Nat} (h : gD s q = 15) (h16 : 16 ≤ q) : (zob ((hOf s).1 q) 11 fun fs => 46 < fs.length ∧ zfit (zty 11 46) (.ref x) = true ∧ F (zup (hOf s) q (.inr (12, fs.set 46 (.ref x)))) kc ks) = F (hOf (sR s q 46 x)) kc ks := by
  rw [← pp_11_46 (F := F) (x := x) (kc := kc) (ks := ks) h h16]
  congr 1
  funext fs
  exact propext ⟨fun z => ⟨h16, z⟩, fun z => z.2⟩
theorem pw_11_46 {s : zS} {q : Nat} {x : Nat} {F : zH → Prop} (h : gD s q = 15) (h16 : 16 ≤ q) : (zob ((hOf s).1 q) 11 fun fs => 46 < fs.length ∧ zfit (zty 11 46) (.ref x) = true ∧ F (zup (hOf s) q (.inr (12, fs.set 46 (.ref x))))) = F (hOf (sR s q 46 x)) := pq_11_46 (F := fun h _ _ => F h) (kc := 0) (ks := 0) h h16
theorem pq_11_47 {s : zS} {q : Nat} {x : Nat} {F : zH → Nat → Nat → Prop} {kc ks : Nat} (h : gD s q = 15) (h16 : 16 ≤ q) : (zob ((hOf s).1 q) 11 fun fs => 47 < fs.length ∧ zfit (zty 11 47) (.ref x) = true ∧ F (zup (hOf s) q (.inr (12, fs.set 47 (.ref x)))) kc ks) = F (hOf (sR s q 47 x)) kc ks := by
  rw [← pp_11_47 (F := F) (x := x) (kc := kc) (ks := ks) h h16]
  congr 1
  funext fs
  exact propext ⟨fun z => ⟨h16, z⟩, fun z => z.2⟩
theorem pw_11_47 {s : zS} {q : Nat} {x : Nat} {F : zH → Prop} (h : gD s q = 15) (h16 : 16 ≤ q) : (zob ((hOf s).1 q) 11 fun fs => 47 < fs.length ∧ zfit (zty 11 47) (.ref x) = true ∧ F (zup (hOf s) q (.inr (12, fs.set 47 (.ref x))))) = F (hOf (sR s q 47 x)) := pq_11_47 (F := fun h _ _ => F h) (kc := 0) (ks := 0) h h16
theorem pq_11_48 {s : zS} {q : Nat} {x : Nat} {F : zH → Nat → Nat → Prop} {kc ks : Nat} (h : gD s q = 15) (h16 : 16 ≤ q) : (zob ((hOf s).1 q) 11 fun fs => 48 < fs.length ∧ zfit (zty 11 48) (.ref x) = true ∧ F (zup (hOf s) q (.inr (12, fs.set 48 (.ref x)))) kc ks) = F (hOf (sR s q 48 x)) kc ks := by
  rw [← pp_11_48 (F := F) (x := x) (kc := kc) (ks := ks) h h16]
  congr 1
  funext fs
  exact propext ⟨fun z => ⟨h16, z⟩, fun z => z.2⟩
theorem pw_11_48 {s : zS} {q : Nat} {x : Nat} {F : zH → Prop} (h : gD s q = 15) (h16 : 16 ≤ q) : (zob ((hOf s).1 q) 11 fun fs => 48 < fs.length ∧ zfit (zty 11 48) (.ref x) = true ∧ F (zup (hOf s) q (.inr (12, fs.set 48 (.ref x))))) = F (hOf (sR s q 48 x)) := pq_11_48 (F := fun h _ _ => F h) (kc := 0) (ks := 0) h h16
theorem pq_11_49 {s : zS} {q : Nat} {x : Nat} {F : zH → Nat → Nat → Prop} {kc ks : Nat} (h : gD s q = 15) (h16 : 16 ≤ q) : (zob ((hOf s).1 q) 11 fun fs => 49 < fs.length ∧ zfit (zty 11 49) (.ref x) = true ∧ F (zup (hOf s) q (.inr (12, fs.set 49 (.ref x)))) kc ks) = F (hOf (sR s q 49 x)) kc ks := by
  rw [← pp_11_49 (F := F) (x := x) (kc := kc) (ks := ks) h h16]
  congr 1
  funext fs
  exact propext ⟨fun z => ⟨h16, z⟩, fun z => z.2⟩
theorem pw_11_49 {s : zS} {q : Nat} {x : Nat} {F : zH → Prop} (h : gD s q = 15) (h16 : 16 ≤ q) : (zob ((hOf s).1 q) 11 fun fs => 49 < fs.length ∧ zfit (zty 11 49) (.ref x) = true ∧ F (zup (hOf s) q (.inr (12, fs.set 49 (.ref x))))) = F (hOf (sR s q 49 x)) := pq_11_49 (F := fun h _ _ => F h) (kc := 0) (ks := 0) h h16
theorem pq_11_50 {s : zS} {q : Nat} {x : Nat} {F : zH → Nat → Nat → Prop} {kc ks : Nat} (h : gD s q = 15) (h16 : 16 ≤ q) : (zob ((hOf s).1 q) 11 fun fs => 50 < fs.length ∧ zfit (zty 11 50) (.ref x) = true ∧ F (zup (hOf s) q (.inr (12, fs.set 50 (.ref x)))) kc ks) = F (hOf (sR s q 50 x)) kc ks := by
  rw [← pp_11_50 (F := F) (x := x) (kc := kc) (ks := ks) h h16]
  congr 1
  funext fs
  exact propext ⟨fun z => ⟨h16, z⟩, fun z => z.2⟩
theorem pw_11_50 {s : zS} {q : Nat} {x : Nat} {F : zH → Prop} (h : gD s q = 15) (h16 : 16 ≤ q) : (zob ((hOf s).1 q) 11 fun fs => 50 < fs.length ∧ zfit (zty 11 50) (.ref x) = true ∧ F (zup (hOf s) q (.inr (12, fs.set 50 (.ref x))))) = F (hOf (sR s q 50 x)) := pq_11_50 (F := fun h _ _ => F h) (kc := 0) (ks := 0) h h16
theorem pq_11_51 {s : zS} {q : Nat} {x : Nat} {F : zH → Nat → Nat → Prop} {kc ks : Nat} (h : gD s q = 15) (h16 : 16 ≤ q) : (zob ((hOf s).1 q) 11 fun fs => 51 < fs.length ∧ zfit (zty 11 51) (.ref x) = true ∧ F (zup (hOf s) q (.inr (12, fs.set 51 (.ref x)))) kc ks) = F (hOf (sR s q 51 x)) kc ks := by
  rw [← pp_11_51 (F := F) (x := x) (kc := kc) (ks := ks) h h16]
  congr 1
  funext fs
  exact propext ⟨fun z => ⟨h16, z⟩, fun z => z.2⟩
theorem pw_11_51 {s : zS} {q : Nat} {x : Nat} {F : zH → Prop} (h : gD s q = 15) (h16 : 16 ≤ q) : (zob ((hOf s).1 q) 11 fun fs => 51 < fs.length ∧ zfit (zty 11 51) (.ref x) = true ∧ F (zup (hOf s) q (.inr (12, fs.set 51 (.ref x))))) = F (hOf (sR s q 51 x)) := pq_11_51 (F := fun h _ _ => F h) (kc := 0) (ks := 0) h h16
theorem pq_11_52 {s : zS} {q : Nat} {x : Nat} {F : zH → Nat → Nat → Prop} {kc ks : Nat} (h : gD s q = 15) (h16 : 16 ≤ q) : (zob ((hOf s).1 q) 11 fun fs => 52 < fs.length ∧ zfit (zty 11 52) (.ref x) = true ∧ F (zup (hOf s) q (.inr (12, fs.set 52 (.ref x)))) kc ks) = F (hOf (sR s q 52 x)) kc ks := by
  rw [← pp_11_52 (F := F) (x := x) (kc := kc) (ks := ks) h h16]
  congr 1
  funext fs
  exact propext ⟨fun z => ⟨h16, z⟩, fun z => z.2⟩
theorem pw_11_52 {s : zS} {q : Nat} {x : Nat} {F : zH → Prop} (h : gD s q = 15) (h16 : 16 ≤ q) : (zob ((hOf s).1 q) 11 fun fs => 52 < fs.length ∧ zfit (zty 11 52) (.ref x) = true ∧ F (zup (hOf s) q (.inr (12, fs.set 52 (.ref x))))) = F (hOf (sR s q 52 x)) := pq_11_52 (F := fun h _ _ => F h) (kc := 0) (ks := 0) h h16
theorem pq_11_53 {s : zS} {q : Nat} {x : Nat} {F : zH → Nat → Nat → Prop} {kc ks : Nat} (h : gD s q = 15) (h16 : 16 ≤ q) : (zob ((hOf s).1 q) 11 fun fs => 53 < fs.length ∧ zfit (zty 11 53) (.ref x) = true ∧ F (zup (hOf s) q (.inr (12, fs.set 53 (.ref x)))) kc ks) = F (hOf (sR s q 53 x)) kc ks := by
  rw [← pp_11_53 (F := F) (x := x) (kc := kc) (ks := ks) h h16]
  congr 1
  funext fs
  exact propext ⟨fun z => ⟨h16, z⟩, fun z => z.2⟩
theorem pw_11_53 {s : zS} {q : Nat} {x : Nat} {F : zH → Prop} (h : gD s q = 15) (h16 : 16 ≤ q) : (zob ((hOf s).1 q) 11 fun fs => 53 < fs.length ∧ zfit (zty 11 53) (.ref x) = true ∧ F (zup (hOf s) q (.inr (12, fs.set 53 (.ref x))))) = F (hOf (sR s q 53 x)) := pq_11_53 (F := fun h _ _ => F h) (kc := 0) (ks := 0) h h16
theorem pq_11_54 {s : zS} {q : Nat} {x : Int32} {F : zH → Nat → Nat → Prop} {kc ks : Nat} (h : gD s q = 15) (h16 : 16 ≤ q) : (zob ((hOf s).1 q) 11 fun fs => 54 < fs.length ∧ zfit (zty 11 54) (.int x) = true ∧ F (zup (hOf s) q (.inr (12, fs.set 54 (.int x)))) kc ks) = F (hOf (sI s q 54 x)) kc ks := by
  rw [← pp_11_54 (F := F) (x := x) (kc := kc) (ks := ks) h h16]
  congr 1
  funext fs
  exact propext ⟨fun z => ⟨h16, z⟩, fun z => z.2⟩
theorem pw_11_54 {s : zS} {q : Nat} {x : Int32} {F : zH → Prop} (h : gD s q = 15) (h16 : 16 ≤ q) : (zob ((hOf s).1 q) 11 fun fs => 54 < fs.length ∧ zfit (zty 11 54) (.int x) = true ∧ F (zup (hOf s) q (.inr (12, fs.set 54 (.int x))))) = F (hOf (sI s q 54 x)) := pq_11_54 (F := fun h _ _ => F h) (kc := 0) (ks := 0) h h16
theorem pq_11_55 {s : zS} {q : Nat} {x : Int32} {F : zH → Nat → Nat → Prop} {kc ks : Nat} (h : gD s q = 15) (h16 : 16 ≤ q) : (zob ((hOf s).1 q) 11 fun fs => 55 < fs.length ∧ zfit (zty 11 55) (.int x) = true ∧ F (zup (hOf s) q (.inr (12, fs.set 55 (.int x)))) kc ks) = F (hOf (sI s q 55 x)) kc ks := by
  rw [← pp_11_55 (F := F) (x := x) (kc := kc) (ks := ks) h h16]
  congr 1
  funext fs
  exact propext ⟨fun z => ⟨h16, z⟩, fun z => z.2⟩
theorem pw_11_55 {s : zS} {q : Nat} {x : Int32} {F : zH → Prop} (h : gD s q = 15) (h16 : 16 ≤ q) : (zob ((hOf s).1 q) 11 fun fs => 55 < fs.length ∧ zfit (zty 11 55) (.int x) = true ∧ F (zup (hOf s) q (.inr (12, fs.set 55 (.int x))))) = F (hOf (sI s q 55 x)) := pq_11_55 (F := fun h _ _ => F h) (kc := 0) (ks := 0) h h16
theorem pq_11_56 {s : zS} {q : Nat} {x : Int32} {F : zH → Nat → Nat → Prop} {kc ks : Nat} (h : gD s q = 15) (h16 : 16 ≤ q) : (zob ((hOf s).1 q) 11 fun fs => 56 < fs.length ∧ zfit (zty 11 56) (.int x) = true ∧ F (zup (hOf s) q (.inr (12, fs.set 56 (.int x)))) kc ks) = F (hOf (sI s q 56 x)) kc ks := by
  rw [← pp_11_56 (F := F) (x := x) (kc := kc) (ks := ks) h h16]
  congr 1
  funext fs
  exact propext ⟨fun z => ⟨h16, z⟩, fun z => z.2⟩
theorem pw_11_56 {s : zS} {q : Nat} {x : Int32} {F : zH → Prop} (h : gD s q = 15) (h16 : 16 ≤ q) : (zob ((hOf s).1 q) 11 fun fs => 56 < fs.length ∧ zfit (zty 11 56) (.int x) = true ∧ F (zup (hOf s) q (.inr (12, fs.set 56 (.int x))))) = F (hOf (sI s q 56 x)) := pq_11_56 (F := fun h _ _ => F h) (kc := 0) (ks := 0) h h16
theorem pq_11_57 {s : zS} {q : Nat} {x : Int64} {F : zH → Nat → Nat → Prop} {kc ks : Nat} (h : gD s q = 15) (h16 : 16 ≤ q) : (zob ((hOf s).1 q) 11 fun fs => 57 < fs.length ∧ zfit (zty 11 57) (.long x) = true ∧ F (zup (hOf s) q (.inr (12, fs.set 57 (.long x)))) kc ks) = F (hOf (sJ s q 57 x)) kc ks := by
  rw [← pp_11_57 (F := F) (x := x) (kc := kc) (ks := ks) h h16]
  congr 1
  funext fs
  exact propext ⟨fun z => ⟨h16, z⟩, fun z => z.2⟩
theorem pw_11_57 {s : zS} {q : Nat} {x : Int64} {F : zH → Prop} (h : gD s q = 15) (h16 : 16 ≤ q) : (zob ((hOf s).1 q) 11 fun fs => 57 < fs.length ∧ zfit (zty 11 57) (.long x) = true ∧ F (zup (hOf s) q (.inr (12, fs.set 57 (.long x))))) = F (hOf (sJ s q 57 x)) := pq_11_57 (F := fun h _ _ => F h) (kc := 0) (ks := 0) h h16
theorem pq_11_58 {s : zS} {q : Nat} {x : Int32} {F : zH → Nat → Nat → Prop} {kc ks : Nat} (h : gD s q = 15) (h16 : 16 ≤ q) : (zob ((hOf s).1 q) 11 fun fs => 58 < fs.length ∧ zfit (zty 11 58) (.int x) = true ∧ F (zup (hOf s) q (.inr (12, fs.set 58 (.int x)))) kc ks) = F (hOf (sI s q 58 x)) kc ks := by
  rw [← pp_11_58 (F := F) (x := x) (kc := kc) (ks := ks) h h16]
  congr 1
  funext fs
  exact propext ⟨fun z => ⟨h16, z⟩, fun z => z.2⟩
theorem pw_11_58 {s : zS} {q : Nat} {x : Int32} {F : zH → Prop} (h : gD s q = 15) (h16 : 16 ≤ q) : (zob ((hOf s).1 q) 11 fun fs => 58 < fs.length ∧ zfit (zty 11 58) (.int x) = true ∧ F (zup (hOf s) q (.inr (12, fs.set 58 (.int x))))) = F (hOf (sI s q 58 x)) := pq_11_58 (F := fun h _ _ => F h) (kc := 0) (ks := 0) h h16
theorem pq_11_59 {s : zS} {q : Nat} {x : Int32} {F : zH → Nat → Nat → Prop} {kc ks : Nat} (h : gD s q = 15) (h16 : 16 ≤ q) : (zob ((hOf s).1 q) 11 fun fs => 59 < fs.length ∧ zfit (zty 11 59) (.int x) = true ∧ F (zup (hOf s) q (.inr (12, fs.set 59 (.int x)))) kc ks) = F (hOf (sI s q 59 x)) kc ks := by
  rw [← pp_11_59 (F := F) (x := x) (kc := kc) (ks := ks) h h16]
  congr 1
  funext fs
  exact propext ⟨fun z => ⟨h16, z⟩, fun z => z.2⟩
theorem pw_11_59 {s : zS} {q : Nat} {x : Int32} {F : zH → Prop} (h : gD s q = 15) (h16 : 16 ≤ q) : (zob ((hOf s).1 q) 11 fun fs => 59 < fs.length ∧ zfit (zty 11 59) (.int x) = true ∧ F (zup (hOf s) q (.inr (12, fs.set 59 (.int x))))) = F (hOf (sI s q 59 x)) := pq_11_59 (F := fun h _ _ => F h) (kc := 0) (ks := 0) h h16
