/-! a field read at once; rows of rows; the layout of the objects -/
theorem gf_0_0 {s : zS} {q : Nat} {F : Value → Prop} (h : gD s q = 4) : (zob ((hOf s).1 q) 0 fun fs => zfd fs 0 F) = F (.int (gI s q 0)) := by
  rw [zob_c (c := 0) h, zfd_c (by decide)]
  rfl
theorem gf_0_1 {s : zS} {q : Nat} {F : Value → Prop} (h : gD s q = 4) : (zob ((hOf s).1 q) 0 fun fs => zfd fs 1 F) = F (.ref (gR s q 1)) := by
  rw [zob_c (c := 0) h, zfd_c (by decide)]
  rfl
theorem gf_0_2 {s : zS} {q : Nat} {F : Value → Prop} (h : gD s q = 4) : (zob ((hOf s).1 q) 0 fun fs => zfd fs 2 F) = F (.ref (gR s q 2)) := by
  rw [zob_c (c := 0) h, zfd_c (by decide)]
  rfl
theorem gf_0_3 {s : zS} {q : Nat} {F : Value → Prop} (h : gD s q = 4) : (zob ((hOf s).1 q) 0 fun fs => zfd fs 3 F) = F (.ref (gR s q 3)) := by
  rw [zob_c (c := 0) h, zfd_c (by decide)]
  rfl
theorem pp_0_0 {s : zS} {q : Nat} {x : Int32} {F : zH → Nat → Nat → Prop} {kc ks : Nat} (h : gD s q = 4) (h16 : 16 ≤ q) : (zob ((hOf s).1 q) 0 fun fs => 16 ≤ q ∧ 0 < fs.length ∧ zfit (zty 0 0) (.int x) = true ∧ F (zup (hOf s) q (.inr (0 + 1, fs.set 0 (.int x)))) kc ks) = F (hOf (sI s q 0 x)) kc ks := pf_0_0 (F := fun h => F h kc ks) h h16
theorem pp_0_1 {s : zS} {q : Nat} {x : Nat} {F : zH → Nat → Nat → Prop} {kc ks : Nat} (h : gD s q = 4) (h16 : 16 ≤ q) : (zob ((hOf s).1 q) 0 fun fs => 16 ≤ q ∧ 1 < fs.length ∧ zfit (zty 0 1) (.ref x) = true ∧ F (zup (hOf s) q (.inr (0 + 1, fs.set 1 (.ref x)))) kc ks) = F (hOf (sR s q 1 x)) kc ks := pf_0_1 (F := fun h => F h kc ks) h h16
theorem pp_0_2 {s : zS} {q : Nat} {x : Nat} {F : zH → Nat → Nat → Prop} {kc ks : Nat} (h : gD s q = 4) (h16 : 16 ≤ q) : (zob ((hOf s).1 q) 0 fun fs => 16 ≤ q ∧ 2 < fs.length ∧ zfit (zty 0 2) (.ref x) = true ∧ F (zup (hOf s) q (.inr (0 + 1, fs.set 2 (.ref x)))) kc ks) = F (hOf (sR s q 2 x)) kc ks := pf_0_2 (F := fun h => F h kc ks) h h16
theorem pp_0_3 {s : zS} {q : Nat} {x : Nat} {F : zH → Nat → Nat → Prop} {kc ks : Nat} (h : gD s q = 4) (h16 : 16 ≤ q) : (zob ((hOf s).1 q) 0 fun fs => 16 ≤ q ∧ 3 < fs.length ∧ zfit (zty 0 3) (.ref x) = true ∧ F (zup (hOf s) q (.inr (0 + 1, fs.set 3 (.ref x)))) kc ks) = F (hOf (sR s q 3 x)) kc ks := pf_0_3 (F := fun h => F h kc ks) h h16
theorem gv_0 {s : zS} {q : Nat} {F : Prop} (h : gD s q = 4) : (zob ((hOf s).1 q) 0 fun _ => F) = F := by
  rw [zob_c (c := 0) h]
theorem gf_1_0 {s : zS} {q : Nat} {F : Value → Prop} (h : gD s q = 5) : (zob ((hOf s).1 q) 1 fun fs => zfd fs 0 F) = F (.int (gI s q 0)) := by
  rw [zob_c (c := 1) h, zfd_c (by decide)]
  rfl
theorem gf_1_1 {s : zS} {q : Nat} {F : Value → Prop} (h : gD s q = 5) : (zob ((hOf s).1 q) 1 fun fs => zfd fs 1 F) = F (.int (gI s q 1)) := by
  rw [zob_c (c := 1) h, zfd_c (by decide)]
  rfl
theorem gf_1_2 {s : zS} {q : Nat} {F : Value → Prop} (h : gD s q = 5) : (zob ((hOf s).1 q) 1 fun fs => zfd fs 2 F) = F (.int (gI s q 2)) := by
  rw [zob_c (c := 1) h, zfd_c (by decide)]
  rfl
theorem gf_1_3 {s : zS} {q : Nat} {F : Value → Prop} (h : gD s q = 5) : (zob ((hOf s).1 q) 1 fun fs => zfd fs 3 F) = F (.ref (gR s q 3)) := by
  rw [zob_c (c := 1) h, zfd_c (by decide)]
  rfl
theorem gf_1_4 {s : zS} {q : Nat} {F : Value → Prop} (h : gD s q = 5) : (zob ((hOf s).1 q) 1 fun fs => zfd fs 4 F) = F (.ref (gR s q 4)) := by
  rw [zob_c (c := 1) h, zfd_c (by decide)]
  rfl
theorem gf_1_5 {s : zS} {q : Nat} {F : Value → Prop} (h : gD s q = 5) : (zob ((hOf s).1 q) 1 fun fs => zfd fs 5 F) = F (.ref (gR s q 5)) := by
  rw [zob_c (c := 1) h, zfd_c (by decide)]
  rfl
theorem gf_1_6 {s : zS} {q : Nat} {F : Value → Prop} (h : gD s q = 5) : (zob ((hOf s).1 q) 1 fun fs => zfd fs 6 F) = F (.int (gI s q 6)) := by
  rw [zob_c (c := 1) h, zfd_c (by decide)]
  rfl
theorem pp_1_0 {s : zS} {q : Nat} {x : Int32} {F : zH → Nat → Nat → Prop} {kc ks : Nat} (h : gD s q = 5) (h16 : 16 ≤ q) : (zob ((hOf s).1 q) 1 fun fs => 16 ≤ q ∧ 0 < fs.length ∧ zfit (zty 1 0) (.int x) = true ∧ F (zup (hOf s) q (.inr (1 + 1, fs.set 0 (.int x)))) kc ks) = F (hOf (sI s q 0 x)) kc ks := pf_1_0 (F := fun h => F h kc ks) h h16
theorem pp_1_1 {s : zS} {q : Nat} {x : Int32} {F : zH → Nat → Nat → Prop} {kc ks : Nat} (h : gD s q = 5) (h16 : 16 ≤ q) : (zob ((hOf s).1 q) 1 fun fs => 16 ≤ q ∧ 1 < fs.length ∧ zfit (zty 1 1) (.int x) = true ∧ F (zup (hOf s) q (.inr (1 + 1, fs.set 1 (.int x)))) kc ks) = F (hOf (sI s q 1 x)) kc ks := pf_1_1 (F := fun h => F h kc ks) h h16
theorem pp_1_2 {s : zS} {q : Nat} {x : Int32} {F : zH → Nat → Nat → Prop} {kc ks : Nat} (h : gD s q = 5) (h16 : 16 ≤ q) : (zob ((hOf s).1 q) 1 fun fs => 16 ≤ q ∧ 2 < fs.length ∧ zfit (zty 1 2) (.int x) = true ∧ F (zup (hOf s) q (.inr (1 + 1, fs.set 2 (.int x)))) kc ks) = F (hOf (sI s q 2 x)) kc ks := pf_1_2 (F := fun h => F h kc ks) h h16
theorem pp_1_3 {s : zS} {q : Nat} {x : Nat} {F : zH → Nat → Nat → Prop} {kc ks : Nat} (h : gD s q = 5) (h16 : 16 ≤ q) : (zob ((hOf s).1 q) 1 fun fs => 16 ≤ q ∧ 3 < fs.length ∧ zfit (zty 1 3) (.ref x) = true ∧ F (zup (hOf s) q (.inr (1 + 1, fs.set 3 (.ref x)))) kc ks) = F (hOf (sR s q 3 x)) kc ks := pf_1_3 (F := fun h => F h kc ks) h h16
theorem pp_1_4 {s : zS} {q : Nat} {x : Nat} {F : zH → Nat → Nat → Prop} {kc ks : Nat} (h : gD s q = 5) (h16 : 16 ≤ q) : (zob ((hOf s).1 q) 1 fun fs => 16 ≤ q ∧ 4 < fs.length ∧ zfit (zty 1 4) (.ref x) = true ∧ F (zup (hOf s) q (.inr (1 + 1, fs.set 4 (.ref x)))) kc ks) = F (hOf (sR s q 4 x)) kc ks := pf_1_4 (F := fun h => F h kc ks) h h16
theorem pp_1_5 {s : zS} {q : Nat} {x : Nat} {F : zH → Nat → Nat → Prop} {kc ks : Nat} (h : gD s q = 5) (h16 : 16 ≤ q) : (zob ((hOf s).1 q) 1 fun fs => 16 ≤ q ∧ 5 < fs.length ∧ zfit (zty 1 5) (.ref x) = true ∧ F (zup (hOf s) q (.inr (1 + 1, fs.set 5 (.ref x)))) kc ks) = F (hOf (sR s q 5 x)) kc ks := pf_1_5 (F := fun h => F h kc ks) h h16
theorem pp_1_6 {s : zS} {q : Nat} {x : Int32} {F : zH → Nat → Nat → Prop} {kc ks : Nat} (h : gD s q = 5) (h16 : 16 ≤ q) : (zob ((hOf s).1 q) 1 fun fs => 16 ≤ q ∧ 6 < fs.length ∧ zfit (zty 1 6) (.int x) = true ∧ F (zup (hOf s) q (.inr (1 + 1, fs.set 6 (.int x)))) kc ks) = F (hOf (sI s q 6 x)) kc ks := pf_1_6 (F := fun h => F h kc ks) h h16
theorem gv_1 {s : zS} {q : Nat} {F : Prop} (h : gD s q = 5) : (zob ((hOf s).1 q) 1 fun _ => F) = F := by
  rw [zob_c (c := 1) h]
theorem gf_2_0 {s : zS} {q : Nat} {F : Value → Prop} (h : gD s q = 6) : (zob ((hOf s).1 q) 2 fun fs => zfd fs 0 F) = F (.int (gI s q 0)) := by
  rw [zob_c (c := 2) h, zfd_c (by decide)]
  rfl
theorem gf_2_1 {s : zS} {q : Nat} {F : Value → Prop} (h : gD s q = 6) : (zob ((hOf s).1 q) 2 fun fs => zfd fs 1 F) = F (.ref (gR s q 1)) := by
  rw [zob_c (c := 2) h, zfd_c (by decide)]
  rfl
theorem gf_2_2 {s : zS} {q : Nat} {F : Value → Prop} (h : gD s q = 6) : (zob ((hOf s).1 q) 2 fun fs => zfd fs 2 F) = F (.ref (gR s q 2)) := by
  rw [zob_c (c := 2) h, zfd_c (by decide)]
  rfl
theorem gf_2_3 {s : zS} {q : Nat} {F : Value → Prop} (h : gD s q = 6) : (zob ((hOf s).1 q) 2 fun fs => zfd fs 3 F) = F (.ref (gR s q 3)) := by
  rw [zob_c (c := 2) h, zfd_c (by decide)]
  rfl
theorem pp_2_0 {s : zS} {q : Nat} {x : Int32} {F : zH → Nat → Nat → Prop} {kc ks : Nat} (h : gD s q = 6) (h16 : 16 ≤ q) : (zob ((hOf s).1 q) 2 fun fs => 16 ≤ q ∧ 0 < fs.length ∧ zfit (zty 2 0) (.int x) = true ∧ F (zup (hOf s) q (.inr (2 + 1, fs.set 0 (.int x)))) kc ks) = F (hOf (sI s q 0 x)) kc ks := pf_2_0 (F := fun h => F h kc ks) h h16
theorem pp_2_1 {s : zS} {q : Nat} {x : Nat} {F : zH → Nat → Nat → Prop} {kc ks : Nat} (h : gD s q = 6) (h16 : 16 ≤ q) : (zob ((hOf s).1 q) 2 fun fs => 16 ≤ q ∧ 1 < fs.length ∧ zfit (zty 2 1) (.ref x) = true ∧ F (zup (hOf s) q (.inr (2 + 1, fs.set 1 (.ref x)))) kc ks) = F (hOf (sR s q 1 x)) kc ks := pf_2_1 (F := fun h => F h kc ks) h h16
theorem pp_2_2 {s : zS} {q : Nat} {x : Nat} {F : zH → Nat → Nat → Prop} {kc ks : Nat} (h : gD s q = 6) (h16 : 16 ≤ q) : (zob ((hOf s).1 q) 2 fun fs => 16 ≤ q ∧ 2 < fs.length ∧ zfit (zty 2 2) (.ref x) = true ∧ F (zup (hOf s) q (.inr (2 + 1, fs.set 2 (.ref x)))) kc ks) = F (hOf (sR s q 2 x)) kc ks := pf_2_2 (F := fun h => F h kc ks) h h16
theorem pp_2_3 {s : zS} {q : Nat} {x : Nat} {F : zH → Nat → Nat → Prop} {kc ks : Nat} (h : gD s q = 6) (h16 : 16 ≤ q) : (zob ((hOf s).1 q) 2 fun fs => 16 ≤ q ∧ 3 < fs.length ∧ zfit (zty 2 3) (.ref x) = true ∧ F (zup (hOf s) q (.inr (2 + 1, fs.set 3 (.ref x)))) kc ks) = F (hOf (sR s q 3 x)) kc ks := pf_2_3 (F := fun h => F h kc ks) h h16
theorem gv_2 {s : zS} {q : Nat} {F : Prop} (h : gD s q = 6) : (zob ((hOf s).1 q) 2 fun _ => F) = F := by
  rw [zob_c (c := 2) h]
theorem gf_3_0 {s : zS} {q : Nat} {F : Value → Prop} (h : gD s q = 7) : (zob ((hOf s).1 q) 3 fun fs => zfd fs 0 F) = F (.ref (gR s q 0)) := by
  rw [zob_c (c := 3) h, zfd_c (by decide)]
  rfl
theorem gf_3_1 {s : zS} {q : Nat} {F : Value → Prop} (h : gD s q = 7) : (zob ((hOf s).1 q) 3 fun fs => zfd fs 1 F) = F (.ref (gR s q 1)) := by
  rw [zob_c (c := 3) h, zfd_c (by decide)]
  rfl
theorem gf_3_2 {s : zS} {q : Nat} {F : Value → Prop} (h : gD s q = 7) : (zob ((hOf s).1 q) 3 fun fs => zfd fs 2 F) = F (.ref (gR s q 2)) := by
  rw [zob_c (c := 3) h, zfd_c (by decide)]
  rfl
theorem gf_3_3 {s : zS} {q : Nat} {F : Value → Prop} (h : gD s q = 7) : (zob ((hOf s).1 q) 3 fun fs => zfd fs 3 F) = F (.int (gI s q 3)) := by
  rw [zob_c (c := 3) h, zfd_c (by decide)]
  rfl
theorem gf_3_4 {s : zS} {q : Nat} {F : Value → Prop} (h : gD s q = 7) : (zob ((hOf s).1 q) 3 fun fs => zfd fs 4 F) = F (.ref (gR s q 4)) := by
  rw [zob_c (c := 3) h, zfd_c (by decide)]
  rfl
theorem gf_3_5 {s : zS} {q : Nat} {F : Value → Prop} (h : gD s q = 7) : (zob ((hOf s).1 q) 3 fun fs => zfd fs 5 F) = F (.ref (gR s q 5)) := by
  rw [zob_c (c := 3) h, zfd_c (by decide)]
  rfl
theorem gf_3_6 {s : zS} {q : Nat} {F : Value → Prop} (h : gD s q = 7) : (zob ((hOf s).1 q) 3 fun fs => zfd fs 6 F) = F (.int (gI s q 6)) := by
  rw [zob_c (c := 3) h, zfd_c (by decide)]
  rfl
theorem pp_3_0 {s : zS} {q : Nat} {x : Nat} {F : zH → Nat → Nat → Prop} {kc ks : Nat} (h : gD s q = 7) (h16 : 16 ≤ q) : (zob ((hOf s).1 q) 3 fun fs => 16 ≤ q ∧ 0 < fs.length ∧ zfit (zty 3 0) (.ref x) = true ∧ F (zup (hOf s) q (.inr (3 + 1, fs.set 0 (.ref x)))) kc ks) = F (hOf (sR s q 0 x)) kc ks := pf_3_0 (F := fun h => F h kc ks) h h16
theorem pp_3_1 {s : zS} {q : Nat} {x : Nat} {F : zH → Nat → Nat → Prop} {kc ks : Nat} (h : gD s q = 7) (h16 : 16 ≤ q) : (zob ((hOf s).1 q) 3 fun fs => 16 ≤ q ∧ 1 < fs.length ∧ zfit (zty 3 1) (.ref x) = true ∧ F (zup (hOf s) q (.inr (3 + 1, fs.set 1 (.ref x)))) kc ks) = F (hOf (sR s q 1 x)) kc ks := pf_3_1 (F := fun h => F h kc ks) h h16
theorem pp_3_2 {s : zS} {q : Nat} {x : Nat} {F : zH → Nat → Nat → Prop} {kc ks : Nat} (h : gD s q = 7) (h16 : 16 ≤ q) : (zob ((hOf s).1 q) 3 fun fs => 16 ≤ q ∧ 2 < fs.length ∧ zfit (zty 3 2) (.ref x) = true ∧ F (zup (hOf s) q (.inr (3 + 1, fs.set 2 (.ref x)))) kc ks) = F (hOf (sR s q 2 x)) kc ks := pf_3_2 (F := fun h => F h kc ks) h h16
theorem pp_3_3 {s : zS} {q : Nat} {x : Int32} {F : zH → Nat → Nat → Prop} {kc ks : Nat} (h : gD s q = 7) (h16 : 16 ≤ q) : (zob ((hOf s).1 q) 3 fun fs => 16 ≤ q ∧ 3 < fs.length ∧ zfit (zty 3 3) (.int x) = true ∧ F (zup (hOf s) q (.inr (3 + 1, fs.set 3 (.int x)))) kc ks) = F (hOf (sI s q 3 x)) kc ks := pf_3_3 (F := fun h => F h kc ks) h h16
theorem pp_3_4 {s : zS} {q : Nat} {x : Nat} {F : zH → Nat → Nat → Prop} {kc ks : Nat} (h : gD s q = 7) (h16 : 16 ≤ q) : (zob ((hOf s).1 q) 3 fun fs => 16 ≤ q ∧ 4 < fs.length ∧ zfit (zty 3 4) (.ref x) = true ∧ F (zup (hOf s) q (.inr (3 + 1, fs.set 4 (.ref x)))) kc ks) = F (hOf (sR s q 4 x)) kc ks := pf_3_4 (F := fun h => F h kc ks) h h16
theorem pp_3_5 {s : zS} {q : Nat} {x : Nat} {F : zH → Nat → Nat → Prop} {kc ks : Nat} (h : gD s q = 7) (h16 : 16 ≤ q) : (zob ((hOf s).1 q) 3 fun fs => 16 ≤ q ∧ 5 < fs.length ∧ zfit (zty 3 5) (.ref x) = true ∧ F (zup (hOf s) q (.inr (3 + 1, fs.set 5 (.ref x)))) kc ks) = F (hOf (sR s q 5 x)) kc ks := pf_3_5 (F := fun h => F h kc ks) h h16
theorem pp_3_6 {s : zS} {q : Nat} {x : Int32} {F : zH → Nat → Nat → Prop} {kc ks : Nat} (h : gD s q = 7) (h16 : 16 ≤ q) : (zob ((hOf s).1 q) 3 fun fs => 16 ≤ q ∧ 6 < fs.length ∧ zfit (zty 3 6) (.int x) = true ∧ F (zup (hOf s) q (.inr (3 + 1, fs.set 6 (.int x)))) kc ks) = F (hOf (sI s q 6 x)) kc ks := pf_3_6 (F := fun h => F h kc ks) h h16
theorem gv_3 {s : zS} {q : Nat} {F : Prop} (h : gD s q = 7) : (zob ((hOf s).1 q) 3 fun _ => F) = F := by
  rw [zob_c (c := 3) h]
theorem gf_4_0 {s : zS} {q : Nat} {F : Value → Prop} (h : gD s q = 8) : (zob ((hOf s).1 q) 4 fun fs => zfd fs 0 F) = F (.int (gI s q 0)) := by
  rw [zob_c (c := 4) h, zfd_c (by decide)]
  rfl
theorem gf_4_1 {s : zS} {q : Nat} {F : Value → Prop} (h : gD s q = 8) : (zob ((hOf s).1 q) 4 fun fs => zfd fs 1 F) = F (.int (gI s q 1)) := by
  rw [zob_c (c := 4) h, zfd_c (by decide)]
  rfl
theorem gf_4_2 {s : zS} {q : Nat} {F : Value → Prop} (h : gD s q = 8) : (zob ((hOf s).1 q) 4 fun fs => zfd fs 2 F) = F (.ref (gR s q 2)) := by
  rw [zob_c (c := 4) h, zfd_c (by decide)]
  rfl
theorem gf_4_3 {s : zS} {q : Nat} {F : Value → Prop} (h : gD s q = 8) : (zob ((hOf s).1 q) 4 fun fs => zfd fs 3 F) = F (.int (gI s q 3)) := by
  rw [zob_c (c := 4) h, zfd_c (by decide)]
  rfl
theorem gf_4_4 {s : zS} {q : Nat} {F : Value → Prop} (h : gD s q = 8) : (zob ((hOf s).1 q) 4 fun fs => zfd fs 4 F) = F (.int (gI s q 4)) := by
  rw [zob_c (c := 4) h, zfd_c (by decide)]
  rfl
theorem gf_4_5 {s : zS} {q : Nat} {F : Value → Prop} (h : gD s q = 8) : (zob ((hOf s).1 q) 4 fun fs => zfd fs 5 F) = F (.int (gI s q 5)) := by
  rw [zob_c (c := 4) h, zfd_c (by decide)]
  rfl
theorem pp_4_0 {s : zS} {q : Nat} {x : Int32} {F : zH → Nat → Nat → Prop} {kc ks : Nat} (h : gD s q = 8) (h16 : 16 ≤ q) : (zob ((hOf s).1 q) 4 fun fs => 16 ≤ q ∧ 0 < fs.length ∧ zfit (zty 4 0) (.int x) = true ∧ F (zup (hOf s) q (.inr (4 + 1, fs.set 0 (.int x)))) kc ks) = F (hOf (sI s q 0 x)) kc ks := pf_4_0 (F := fun h => F h kc ks) h h16
theorem pp_4_1 {s : zS} {q : Nat} {x : Int32} {F : zH → Nat → Nat → Prop} {kc ks : Nat} (h : gD s q = 8) (h16 : 16 ≤ q) : (zob ((hOf s).1 q) 4 fun fs => 16 ≤ q ∧ 1 < fs.length ∧ zfit (zty 4 1) (.int x) = true ∧ F (zup (hOf s) q (.inr (4 + 1, fs.set 1 (.int x)))) kc ks) = F (hOf (sI s q 1 x)) kc ks := pf_4_1 (F := fun h => F h kc ks) h h16
theorem pp_4_2 {s : zS} {q : Nat} {x : Nat} {F : zH → Nat → Nat → Prop} {kc ks : Nat} (h : gD s q = 8) (h16 : 16 ≤ q) : (zob ((hOf s).1 q) 4 fun fs => 16 ≤ q ∧ 2 < fs.length ∧ zfit (zty 4 2) (.ref x) = true ∧ F (zup (hOf s) q (.inr (4 + 1, fs.set 2 (.ref x)))) kc ks) = F (hOf (sR s q 2 x)) kc ks := pf_4_2 (F := fun h => F h kc ks) h h16
theorem pp_4_3 {s : zS} {q : Nat} {x : Int32} {F : zH → Nat → Nat → Prop} {kc ks : Nat} (h : gD s q = 8) (h16 : 16 ≤ q) : (zob ((hOf s).1 q) 4 fun fs => 16 ≤ q ∧ 3 < fs.length ∧ zfit (zty 4 3) (.int x) = true ∧ F (zup (hOf s) q (.inr (4 + 1, fs.set 3 (.int x)))) kc ks) = F (hOf (sI s q 3 x)) kc ks := pf_4_3 (F := fun h => F h kc ks) h h16
theorem pp_4_4 {s : zS} {q : Nat} {x : Int32} {F : zH → Nat → Nat → Prop} {kc ks : Nat} (h : gD s q = 8) (h16 : 16 ≤ q) : (zob ((hOf s).1 q) 4 fun fs => 16 ≤ q ∧ 4 < fs.length ∧ zfit (zty 4 4) (.int x) = true ∧ F (zup (hOf s) q (.inr (4 + 1, fs.set 4 (.int x)))) kc ks) = F (hOf (sI s q 4 x)) kc ks := pf_4_4 (F := fun h => F h kc ks) h h16
theorem pp_4_5 {s : zS} {q : Nat} {x : Int32} {F : zH → Nat → Nat → Prop} {kc ks : Nat} (h : gD s q = 8) (h16 : 16 ≤ q) : (zob ((hOf s).1 q) 4 fun fs => 16 ≤ q ∧ 5 < fs.length ∧ zfit (zty 4 5) (.int x) = true ∧ F (zup (hOf s) q (.inr (4 + 1, fs.set 5 (.int x)))) kc ks) = F (hOf (sI s q 5 x)) kc ks := pf_4_5 (F := fun h => F h kc ks) h h16
theorem gv_4 {s : zS} {q : Nat} {F : Prop} (h : gD s q = 8) : (zob ((hOf s).1 q) 4 fun _ => F) = F := by
  rw [zob_c (c := 4) h]
theorem gf_5_0 {s : zS} {q : Nat} {F : Value → Prop} (h : gD s q = 9) : (zob ((hOf s).1 q) 5 fun fs => zfd fs 0 F) = F (.ref (gR s q 0)) := by
  rw [zob_c (c := 5) h, zfd_c (by decide)]
  rfl
theorem gf_5_1 {s : zS} {q : Nat} {F : Value → Prop} (h : gD s q = 9) : (zob ((hOf s).1 q) 5 fun fs => zfd fs 1 F) = F (.ref (gR s q 1)) := by
  rw [zob_c (c := 5) h, zfd_c (by decide)]
  rfl
theorem gf_5_2 {s : zS} {q : Nat} {F : Value → Prop} (h : gD s q = 9) : (zob ((hOf s).1 q) 5 fun fs => zfd fs 2 F) = F (.int (gI s q 2)) := by
  rw [zob_c (c := 5) h, zfd_c (by decide)]
  rfl
theorem pp_5_0 {s : zS} {q : Nat} {x : Nat} {F : zH → Nat → Nat → Prop} {kc ks : Nat} (h : gD s q = 9) (h16 : 16 ≤ q) : (zob ((hOf s).1 q) 5 fun fs => 16 ≤ q ∧ 0 < fs.length ∧ zfit (zty 5 0) (.ref x) = true ∧ F (zup (hOf s) q (.inr (5 + 1, fs.set 0 (.ref x)))) kc ks) = F (hOf (sR s q 0 x)) kc ks := pf_5_0 (F := fun h => F h kc ks) h h16
theorem pp_5_1 {s : zS} {q : Nat} {x : Nat} {F : zH → Nat → Nat → Prop} {kc ks : Nat} (h : gD s q = 9) (h16 : 16 ≤ q) : (zob ((hOf s).1 q) 5 fun fs => 16 ≤ q ∧ 1 < fs.length ∧ zfit (zty 5 1) (.ref x) = true ∧ F (zup (hOf s) q (.inr (5 + 1, fs.set 1 (.ref x)))) kc ks) = F (hOf (sR s q 1 x)) kc ks := pf_5_1 (F := fun h => F h kc ks) h h16
theorem pp_5_2 {s : zS} {q : Nat} {x : Int32} {F : zH → Nat → Nat → Prop} {kc ks : Nat} (h : gD s q = 9) (h16 : 16 ≤ q) : (zob ((hOf s).1 q) 5 fun fs => 16 ≤ q ∧ 2 < fs.length ∧ zfit (zty 5 2) (.int x) = true ∧ F (zup (hOf s) q (.inr (5 + 1, fs.set 2 (.int x)))) kc ks) = F (hOf (sI s q 2 x)) kc ks := pf_5_2 (F := fun h => F h kc ks) h h16
theorem gv_5 {s : zS} {q : Nat} {F : Prop} (h : gD s q = 9) : (zob ((hOf s).1 q) 5 fun _ => F) = F := by
  rw [zob_c (c := 5) h]
theorem gf_6_0 {s : zS} {q : Nat} {F : Value → Prop} (h : gD s q = 10) : (zob ((hOf s).1 q) 6 fun fs => zfd fs 0 F) = F (.ref (gR s q 0)) := by
  rw [zob_c (c := 6) h, zfd_c (by decide)]
  rfl
theorem gf_6_1 {s : zS} {q : Nat} {F : Value → Prop} (h : gD s q = 10) : (zob ((hOf s).1 q) 6 fun fs => zfd fs 1 F) = F (.ref (gR s q 1)) := by
  rw [zob_c (c := 6) h, zfd_c (by decide)]
  rfl
theorem gf_6_2 {s : zS} {q : Nat} {F : Value → Prop} (h : gD s q = 10) : (zob ((hOf s).1 q) 6 fun fs => zfd fs 2 F) = F (.ref (gR s q 2)) := by
  rw [zob_c (c := 6) h, zfd_c (by decide)]
  rfl
theorem pp_6_0 {s : zS} {q : Nat} {x : Nat} {F : zH → Nat → Nat → Prop} {kc ks : Nat} (h : gD s q = 10) (h16 : 16 ≤ q) : (zob ((hOf s).1 q) 6 fun fs => 16 ≤ q ∧ 0 < fs.length ∧ zfit (zty 6 0) (.ref x) = true ∧ F (zup (hOf s) q (.inr (6 + 1, fs.set 0 (.ref x)))) kc ks) = F (hOf (sR s q 0 x)) kc ks := pf_6_0 (F := fun h => F h kc ks) h h16
theorem pp_6_1 {s : zS} {q : Nat} {x : Nat} {F : zH → Nat → Nat → Prop} {kc ks : Nat} (h : gD s q = 10) (h16 : 16 ≤ q) : (zob ((hOf s).1 q) 6 fun fs => 16 ≤ q ∧ 1 < fs.length ∧ zfit (zty 6 1) (.ref x) = true ∧ F (zup (hOf s) q (.inr (6 + 1, fs.set 1 (.ref x)))) kc ks) = F (hOf (sR s q 1 x)) kc ks := pf_6_1 (F := fun h => F h kc ks) h h16
theorem pp_6_2 {s : zS} {q : Nat} {x : Nat} {F : zH → Nat → Nat → Prop} {kc ks : Nat} (h : gD s q = 10) (h16 : 16 ≤ q) : (zob ((hOf s).1 q) 6 fun fs => 16 ≤ q ∧ 2 < fs.length ∧ zfit (zty 6 2) (.ref x) = true ∧ F (zup (hOf s) q (.inr (6 + 1, fs.set 2 (.ref x)))) kc ks) = F (hOf (sR s q 2 x)) kc ks := pf_6_2 (F := fun h => F h kc ks) h h16
theorem gv_6 {s : zS} {q : Nat} {F : Prop} (h : gD s q = 10) : (zob ((hOf s).1 q) 6 fun _ => F) = F := by
  rw [zob_c (c := 6) h]
theorem gf_7_0 {s : zS} {q : Nat} {F : Value → Prop} (h : gD s q = 11) : (zob ((hOf s).1 q) 7 fun fs => zfd fs 0 F) = F (.int (gI s q 0)) := by
  rw [zob_c (c := 7) h, zfd_c (by decide)]
  rfl
theorem gf_7_1 {s : zS} {q : Nat} {F : Value → Prop} (h : gD s q = 11) : (zob ((hOf s).1 q) 7 fun fs => zfd fs 1 F) = F (.ref (gR s q 1)) := by
  rw [zob_c (c := 7) h, zfd_c (by decide)]
  rfl
theorem gf_7_2 {s : zS} {q : Nat} {F : Value → Prop} (h : gD s q = 11) : (zob ((hOf s).1 q) 7 fun fs => zfd fs 2 F) = F (.ref (gR s q 2)) := by
  rw [zob_c (c := 7) h, zfd_c (by decide)]
  rfl
theorem gf_7_3 {s : zS} {q : Nat} {F : Value → Prop} (h : gD s q = 11) : (zob ((hOf s).1 q) 7 fun fs => zfd fs 3 F) = F (.ref (gR s q 3)) := by
  rw [zob_c (c := 7) h, zfd_c (by decide)]
  rfl
theorem gf_7_4 {s : zS} {q : Nat} {F : Value → Prop} (h : gD s q = 11) : (zob ((hOf s).1 q) 7 fun fs => zfd fs 4 F) = F (.ref (gR s q 4)) := by
  rw [zob_c (c := 7) h, zfd_c (by decide)]
  rfl
theorem gf_7_5 {s : zS} {q : Nat} {F : Value → Prop} (h : gD s q = 11) : (zob ((hOf s).1 q) 7 fun fs => zfd fs 5 F) = F (.int (gI s q 5)) := by
  rw [zob_c (c := 7) h, zfd_c (by decide)]
  rfl
theorem pp_7_0 {s : zS} {q : Nat} {x : Int32} {F : zH → Nat → Nat → Prop} {kc ks : Nat} (h : gD s q = 11) (h16 : 16 ≤ q) : (zob ((hOf s).1 q) 7 fun fs => 16 ≤ q ∧ 0 < fs.length ∧ zfit (zty 7 0) (.int x) = true ∧ F (zup (hOf s) q (.inr (7 + 1, fs.set 0 (.int x)))) kc ks) = F (hOf (sI s q 0 x)) kc ks := pf_7_0 (F := fun h => F h kc ks) h h16
theorem pp_7_1 {s : zS} {q : Nat} {x : Nat} {F : zH → Nat → Nat → Prop} {kc ks : Nat} (h : gD s q = 11) (h16 : 16 ≤ q) : (zob ((hOf s).1 q) 7 fun fs => 16 ≤ q ∧ 1 < fs.length ∧ zfit (zty 7 1) (.ref x) = true ∧ F (zup (hOf s) q (.inr (7 + 1, fs.set 1 (.ref x)))) kc ks) = F (hOf (sR s q 1 x)) kc ks := pf_7_1 (F := fun h => F h kc ks) h h16
theorem pp_7_2 {s : zS} {q : Nat} {x : Nat} {F : zH → Nat → Nat → Prop} {kc ks : Nat} (h : gD s q = 11) (h16 : 16 ≤ q) : (zob ((hOf s).1 q) 7 fun fs => 16 ≤ q ∧ 2 < fs.length ∧ zfit (zty 7 2) (.ref x) = true ∧ F (zup (hOf s) q (.inr (7 + 1, fs.set 2 (.ref x)))) kc ks) = F (hOf (sR s q 2 x)) kc ks := pf_7_2 (F := fun h => F h kc ks) h h16
theorem pp_7_3 {s : zS} {q : Nat} {x : Nat} {F : zH → Nat → Nat → Prop} {kc ks : Nat} (h : gD s q = 11) (h16 : 16 ≤ q) : (zob ((hOf s).1 q) 7 fun fs => 16 ≤ q ∧ 3 < fs.length ∧ zfit (zty 7 3) (.ref x) = true ∧ F (zup (hOf s) q (.inr (7 + 1, fs.set 3 (.ref x)))) kc ks) = F (hOf (sR s q 3 x)) kc ks := pf_7_3 (F := fun h => F h kc ks) h h16
theorem pp_7_4 {s : zS} {q : Nat} {x : Nat} {F : zH → Nat → Nat → Prop} {kc ks : Nat} (h : gD s q = 11) (h16 : 16 ≤ q) : (zob ((hOf s).1 q) 7 fun fs => 16 ≤ q ∧ 4 < fs.length ∧ zfit (zty 7 4) (.ref x) = true ∧ F (zup (hOf s) q (.inr (7 + 1, fs.set 4 (.ref x)))) kc ks) = F (hOf (sR s q 4 x)) kc ks := pf_7_4 (F := fun h => F h kc ks) h h16
theorem pp_7_5 {s : zS} {q : Nat} {x : Int32} {F : zH → Nat → Nat → Prop} {kc ks : Nat} (h : gD s q = 11) (h16 : 16 ≤ q) : (zob ((hOf s).1 q) 7 fun fs => 16 ≤ q ∧ 5 < fs.length ∧ zfit (zty 7 5) (.int x) = true ∧ F (zup (hOf s) q (.inr (7 + 1, fs.set 5 (.int x)))) kc ks) = F (hOf (sI s q 5 x)) kc ks := pf_7_5 (F := fun h => F h kc ks) h h16
theorem gv_7 {s : zS} {q : Nat} {F : Prop} (h : gD s q = 11) : (zob ((hOf s).1 q) 7 fun _ => F) = F := by
  rw [zob_c (c := 7) h]
theorem gf_8_0 {s : zS} {q : Nat} {F : Value → Prop} (h : gD s q = 12) : (zob ((hOf s).1 q) 8 fun fs => zfd fs 0 F) = F (.int (gI s q 0)) := by
  rw [zob_c (c := 8) h, zfd_c (by decide)]
  rfl
theorem gf_8_1 {s : zS} {q : Nat} {F : Value → Prop} (h : gD s q = 12) : (zob ((hOf s).1 q) 8 fun fs => zfd fs 1 F) = F (.int (gI s q 1)) := by
  rw [zob_c (c := 8) h, zfd_c (by decide)]
  rfl
theorem gf_8_2 {s : zS} {q : Nat} {F : Value → Prop} (h : gD s q = 12) : (zob ((hOf s).1 q) 8 fun fs => zfd fs 2 F) = F (.int (gI s q 2)) := by
  rw [zob_c (c := 8) h, zfd_c (by decide)]
  rfl
theorem gf_8_3 {s : zS} {q : Nat} {F : Value → Prop} (h : gD s q = 12) : (zob ((hOf s).1 q) 8 fun fs => zfd fs 3 F) = F (.int (gI s q 3)) := by
  rw [zob_c (c := 8) h, zfd_c (by decide)]
  rfl
theorem gf_8_4 {s : zS} {q : Nat} {F : Value → Prop} (h : gD s q = 12) : (zob ((hOf s).1 q) 8 fun fs => zfd fs 4 F) = F (.int (gI s q 4)) := by
  rw [zob_c (c := 8) h, zfd_c (by decide)]
  rfl
theorem gf_8_5 {s : zS} {q : Nat} {F : Value → Prop} (h : gD s q = 12) : (zob ((hOf s).1 q) 8 fun fs => zfd fs 5 F) = F (.long (gJ s q 5)) := by
  rw [zob_c (c := 8) h, zfd_c (by decide)]
  rfl
theorem gf_8_6 {s : zS} {q : Nat} {F : Value → Prop} (h : gD s q = 12) : (zob ((hOf s).1 q) 8 fun fs => zfd fs 6 F) = F (.ref (gR s q 6)) := by
  rw [zob_c (c := 8) h, zfd_c (by decide)]
  rfl
theorem gf_8_7 {s : zS} {q : Nat} {F : Value → Prop} (h : gD s q = 12) : (zob ((hOf s).1 q) 8 fun fs => zfd fs 7 F) = F (.ref (gR s q 7)) := by
  rw [zob_c (c := 8) h, zfd_c (by decide)]
  rfl
theorem gf_8_8 {s : zS} {q : Nat} {F : Value → Prop} (h : gD s q = 12) : (zob ((hOf s).1 q) 8 fun fs => zfd fs 8 F) = F (.ref (gR s q 8)) := by
  rw [zob_c (c := 8) h, zfd_c (by decide)]
  rfl
theorem gf_8_9 {s : zS} {q : Nat} {F : Value → Prop} (h : gD s q = 12) : (zob ((hOf s).1 q) 8 fun fs => zfd fs 9 F) = F (.ref (gR s q 9)) := by
  rw [zob_c (c := 8) h, zfd_c (by decide)]
  rfl
theorem gf_8_10 {s : zS} {q : Nat} {F : Value → Prop} (h : gD s q = 12) : (zob ((hOf s).1 q) 8 fun fs => zfd fs 10 F) = F (.ref (gR s q 10)) := by
  rw [zob_c (c := 8) h, zfd_c (by decide)]
  rfl
theorem gf_8_11 {s : zS} {q : Nat} {F : Value → Prop} (h : gD s q = 12) : (zob ((hOf s).1 q) 8 fun fs => zfd fs 11 F) = F (.ref (gR s q 11)) := by
  rw [zob_c (c := 8) h, zfd_c (by decide)]
  rfl
theorem gf_8_12 {s : zS} {q : Nat} {F : Value → Prop} (h : gD s q = 12) : (zob ((hOf s).1 q) 8 fun fs => zfd fs 12 F) = F (.ref (gR s q 12)) := by
  rw [zob_c (c := 8) h, zfd_c (by decide)]
  rfl
theorem gf_8_13 {s : zS} {q : Nat} {F : Value → Prop} (h : gD s q = 12) : (zob ((hOf s).1 q) 8 fun fs => zfd fs 13 F) = F (.ref (gR s q 13)) := by
  rw [zob_c (c := 8) h, zfd_c (by decide)]
  rfl
theorem gf_8_14 {s : zS} {q : Nat} {F : Value → Prop} (h : gD s q = 12) : (zob ((hOf s).1 q) 8 fun fs => zfd fs 14 F) = F (.ref (gR s q 14)) := by
  rw [zob_c (c := 8) h, zfd_c (by decide)]
  rfl
theorem gf_8_15 {s : zS} {q : Nat} {F : Value → Prop} (h : gD s q = 12) : (zob ((hOf s).1 q) 8 fun fs => zfd fs 15 F) = F (.ref (gR s q 15)) := by
  rw [zob_c (c := 8) h, zfd_c (by decide)]
  rfl
theorem gf_8_16 {s : zS} {q : Nat} {F : Value → Prop} (h : gD s q = 12) : (zob ((hOf s).1 q) 8 fun fs => zfd fs 16 F) = F (.ref (gR s q 16)) := by
  rw [zob_c (c := 8) h, zfd_c (by decide)]
  rfl
theorem gf_8_17 {s : zS} {q : Nat} {F : Value → Prop} (h : gD s q = 12) : (zob ((hOf s).1 q) 8 fun fs => zfd fs 17 F) = F (.ref (gR s q 17)) := by
  rw [zob_c (c := 8) h, zfd_c (by decide)]
  rfl
theorem gf_8_18 {s : zS} {q : Nat} {F : Value → Prop} (h : gD s q = 12) : (zob ((hOf s).1 q) 8 fun fs => zfd fs 18 F) = F (.ref (gR s q 18)) := by
  rw [zob_c (c := 8) h, zfd_c (by decide)]
  rfl
theorem pp_8_0 {s : zS} {q : Nat} {x : Int32} {F : zH → Nat → Nat → Prop} {kc ks : Nat} (h : gD s q = 12) (h16 : 16 ≤ q) : (zob ((hOf s).1 q) 8 fun fs => 16 ≤ q ∧ 0 < fs.length ∧ zfit (zty 8 0) (.int x) = true ∧ F (zup (hOf s) q (.inr (8 + 1, fs.set 0 (.int x)))) kc ks) = F (hOf (sI s q 0 x)) kc ks := pf_8_0 (F := fun h => F h kc ks) h h16
theorem pp_8_1 {s : zS} {q : Nat} {x : Int32} {F : zH → Nat → Nat → Prop} {kc ks : Nat} (h : gD s q = 12) (h16 : 16 ≤ q) : (zob ((hOf s).1 q) 8 fun fs => 16 ≤ q ∧ 1 < fs.length ∧ zfit (zty 8 1) (.int x) = true ∧ F (zup (hOf s) q (.inr (8 + 1, fs.set 1 (.int x)))) kc ks) = F (hOf (sI s q 1 x)) kc ks := pf_8_1 (F := fun h => F h kc ks) h h16
theorem pp_8_2 {s : zS} {q : Nat} {x : Int32} {F : zH → Nat → Nat → Prop} {kc ks : Nat} (h : gD s q = 12) (h16 : 16 ≤ q) : (zob ((hOf s).1 q) 8 fun fs => 16 ≤ q ∧ 2 < fs.length ∧ zfit (zty 8 2) (.int x) = true ∧ F (zup (hOf s) q (.inr (8 + 1, fs.set 2 (.int x)))) kc ks) = F (hOf (sI s q 2 x)) kc ks := pf_8_2 (F := fun h => F h kc ks) h h16
theorem pp_8_3 {s : zS} {q : Nat} {x : Int32} {F : zH → Nat → Nat → Prop} {kc ks : Nat} (h : gD s q = 12) (h16 : 16 ≤ q) : (zob ((hOf s).1 q) 8 fun fs => 16 ≤ q ∧ 3 < fs.length ∧ zfit (zty 8 3) (.int x) = true ∧ F (zup (hOf s) q (.inr (8 + 1, fs.set 3 (.int x)))) kc ks) = F (hOf (sI s q 3 x)) kc ks := pf_8_3 (F := fun h => F h kc ks) h h16
theorem pp_8_4 {s : zS} {q : Nat} {x : Int32} {F : zH → Nat → Nat → Prop} {kc ks : Nat} (h : gD s q = 12) (h16 : 16 ≤ q) : (zob ((hOf s).1 q) 8 fun fs => 16 ≤ q ∧ 4 < fs.length ∧ zfit (zty 8 4) (.int x) = true ∧ F (zup (hOf s) q (.inr (8 + 1, fs.set 4 (.int x)))) kc ks) = F (hOf (sI s q 4 x)) kc ks := pf_8_4 (F := fun h => F h kc ks) h h16
theorem pp_8_5 {s : zS} {q : Nat} {x : Int64} {F : zH → Nat → Nat → Prop} {kc ks : Nat} (h : gD s q = 12) (h16 : 16 ≤ q) : (zob ((hOf s).1 q) 8 fun fs => 16 ≤ q ∧ 5 < fs.length ∧ zfit (zty 8 5) (.long x) = true ∧ F (zup (hOf s) q (.inr (8 + 1, fs.set 5 (.long x)))) kc ks) = F (hOf (sJ s q 5 x)) kc ks := pf_8_5 (F := fun h => F h kc ks) h h16
theorem pp_8_6 {s : zS} {q : Nat} {x : Nat} {F : zH → Nat → Nat → Prop} {kc ks : Nat} (h : gD s q = 12) (h16 : 16 ≤ q) : (zob ((hOf s).1 q) 8 fun fs => 16 ≤ q ∧ 6 < fs.length ∧ zfit (zty 8 6) (.ref x) = true ∧ F (zup (hOf s) q (.inr (8 + 1, fs.set 6 (.ref x)))) kc ks) = F (hOf (sR s q 6 x)) kc ks := pf_8_6 (F := fun h => F h kc ks) h h16
theorem pp_8_7 {s : zS} {q : Nat} {x : Nat} {F : zH → Nat → Nat → Prop} {kc ks : Nat} (h : gD s q = 12) (h16 : 16 ≤ q) : (zob ((hOf s).1 q) 8 fun fs => 16 ≤ q ∧ 7 < fs.length ∧ zfit (zty 8 7) (.ref x) = true ∧ F (zup (hOf s) q (.inr (8 + 1, fs.set 7 (.ref x)))) kc ks) = F (hOf (sR s q 7 x)) kc ks := pf_8_7 (F := fun h => F h kc ks) h h16
theorem pp_8_8 {s : zS} {q : Nat} {x : Nat} {F : zH → Nat → Nat → Prop} {kc ks : Nat} (h : gD s q = 12) (h16 : 16 ≤ q) : (zob ((hOf s).1 q) 8 fun fs => 16 ≤ q ∧ 8 < fs.length ∧ zfit (zty 8 8) (.ref x) = true ∧ F (zup (hOf s) q (.inr (8 + 1, fs.set 8 (.ref x)))) kc ks) = F (hOf (sR s q 8 x)) kc ks := pf_8_8 (F := fun h => F h kc ks) h h16
theorem pp_8_9 {s : zS} {q : Nat} {x : Nat} {F : zH → Nat → Nat → Prop} {kc ks : Nat} (h : gD s q = 12) (h16 : 16 ≤ q) : (zob ((hOf s).1 q) 8 fun fs => 16 ≤ q ∧ 9 < fs.length ∧ zfit (zty 8 9) (.ref x) = true ∧ F (zup (hOf s) q (.inr (8 + 1, fs.set 9 (.ref x)))) kc ks) = F (hOf (sR s q 9 x)) kc ks := pf_8_9 (F := fun h => F h kc ks) h h16
theorem pp_8_10 {s : zS} {q : Nat} {x : Nat} {F : zH → Nat → Nat → Prop} {kc ks : Nat} (h : gD s q = 12) (h16 : 16 ≤ q) : (zob ((hOf s).1 q) 8 fun fs => 16 ≤ q ∧ 10 < fs.length ∧ zfit (zty 8 10) (.ref x) = true ∧ F (zup (hOf s) q (.inr (8 + 1, fs.set 10 (.ref x)))) kc ks) = F (hOf (sR s q 10 x)) kc ks := pf_8_10 (F := fun h => F h kc ks) h h16
theorem pp_8_11 {s : zS} {q : Nat} {x : Nat} {F : zH → Nat → Nat → Prop} {kc ks : Nat} (h : gD s q = 12) (h16 : 16 ≤ q) : (zob ((hOf s).1 q) 8 fun fs => 16 ≤ q ∧ 11 < fs.length ∧ zfit (zty 8 11) (.ref x) = true ∧ F (zup (hOf s) q (.inr (8 + 1, fs.set 11 (.ref x)))) kc ks) = F (hOf (sR s q 11 x)) kc ks := pf_8_11 (F := fun h => F h kc ks) h h16
theorem pp_8_12 {s : zS} {q : Nat} {x : Nat} {F : zH → Nat → Nat → Prop} {kc ks : Nat} (h : gD s q = 12) (h16 : 16 ≤ q) : (zob ((hOf s).1 q) 8 fun fs => 16 ≤ q ∧ 12 < fs.length ∧ zfit (zty 8 12) (.ref x) = true ∧ F (zup (hOf s) q (.inr (8 + 1, fs.set 12 (.ref x)))) kc ks) = F (hOf (sR s q 12 x)) kc ks := pf_8_12 (F := fun h => F h kc ks) h h16
theorem pp_8_13 {s : zS} {q : Nat} {x : Nat} {F : zH → Nat → Nat → Prop} {kc ks : Nat} (h : gD s q = 12) (h16 : 16 ≤ q) : (zob ((hOf s).1 q) 8 fun fs => 16 ≤ q ∧ 13 < fs.length ∧ zfit (zty 8 13) (.ref x) = true ∧ F (zup (hOf s) q (.inr (8 + 1, fs.set 13 (.ref x)))) kc ks) = F (hOf (sR s q 13 x)) kc ks := pf_8_13 (F := fun h => F h kc ks) h h16
theorem pp_8_14 {s : zS} {q : Nat} {x : Nat} {F : zH → Nat → Nat → Prop} {kc ks : Nat} (h : gD s q = 12) (h16 : 16 ≤ q) : (zob ((hOf s).1 q) 8 fun fs => 16 ≤ q ∧ 14 < fs.length ∧ zfit (zty 8 14) (.ref x) = true ∧ F (zup (hOf s) q (.inr (8 + 1, fs.set 14 (.ref x)))) kc ks) = F (hOf (sR s q 14 x)) kc ks := pf_8_14 (F := fun h => F h kc ks) h h16
theorem pp_8_15 {s : zS} {q : Nat} {x : Nat} {F : zH → Nat → Nat → Prop} {kc ks : Nat} (h : gD s q = 12) (h16 : 16 ≤ q) : (zob ((hOf s).1 q) 8 fun fs => 16 ≤ q ∧ 15 < fs.length ∧ zfit (zty 8 15) (.ref x) = true ∧ F (zup (hOf s) q (.inr (8 + 1, fs.set 15 (.ref x)))) kc ks) = F (hOf (sR s q 15 x)) kc ks := pf_8_15 (F := fun h => F h kc ks) h h16
theorem pp_8_16 {s : zS} {q : Nat} {x : Nat} {F : zH → Nat → Nat → Prop} {kc ks : Nat} (h : gD s q = 12) (h16 : 16 ≤ q) : (zob ((hOf s).1 q) 8 fun fs => 16 ≤ q ∧ 16 < fs.length ∧ zfit (zty 8 16) (.ref x) = true ∧ F (zup (hOf s) q (.inr (8 + 1, fs.set 16 (.ref x)))) kc ks) = F (hOf (sR s q 16 x)) kc ks := pf_8_16 (F := fun h => F h kc ks) h h16
theorem pp_8_17 {s : zS} {q : Nat} {x : Nat} {F : zH → Nat → Nat → Prop} {kc ks : Nat} (h : gD s q = 12) (h16 : 16 ≤ q) : (zob ((hOf s).1 q) 8 fun fs => 16 ≤ q ∧ 17 < fs.length ∧ zfit (zty 8 17) (.ref x) = true ∧ F (zup (hOf s) q (.inr (8 + 1, fs.set 17 (.ref x)))) kc ks) = F (hOf (sR s q 17 x)) kc ks := pf_8_17 (F := fun h => F h kc ks) h h16
theorem pp_8_18 {s : zS} {q : Nat} {x : Nat} {F : zH → Nat → Nat → Prop} {kc ks : Nat} (h : gD s q = 12) (h16 : 16 ≤ q) : (zob ((hOf s).1 q) 8 fun fs => 16 ≤ q ∧ 18 < fs.length ∧ zfit (zty 8 18) (.ref x) = true ∧ F (zup (hOf s) q (.inr (8 + 1, fs.set 18 (.ref x)))) kc ks) = F (hOf (sR s q 18 x)) kc ks := pf_8_18 (F := fun h => F h kc ks) h h16
theorem gv_8 {s : zS} {q : Nat} {F : Prop} (h : gD s q = 12) : (zob ((hOf s).1 q) 8 fun _ => F) = F := by
  rw [zob_c (c := 8) h]
theorem gf_9_0 {s : zS} {q : Nat} {F : Value → Prop} (h : gD s q = 13) : (zob ((hOf s).1 q) 9 fun fs => zfd fs 0 F) = F (.int (gI s q 0)) := by
  rw [zob_c (c := 9) h, zfd_c (by decide)]
  rfl
theorem gf_9_1 {s : zS} {q : Nat} {F : Value → Prop} (h : gD s q = 13) : (zob ((hOf s).1 q) 9 fun fs => zfd fs 1 F) = F (.ref (gR s q 1)) := by
  rw [zob_c (c := 9) h, zfd_c (by decide)]
  rfl
theorem gf_9_2 {s : zS} {q : Nat} {F : Value → Prop} (h : gD s q = 13) : (zob ((hOf s).1 q) 9 fun fs => zfd fs 2 F) = F (.ref (gR s q 2)) := by
  rw [zob_c (c := 9) h, zfd_c (by decide)]
  rfl
theorem gf_9_3 {s : zS} {q : Nat} {F : Value → Prop} (h : gD s q = 13) : (zob ((hOf s).1 q) 9 fun fs => zfd fs 3 F) = F (.ref (gR s q 3)) := by
  rw [zob_c (c := 9) h, zfd_c (by decide)]
  rfl
theorem gf_9_4 {s : zS} {q : Nat} {F : Value → Prop} (h : gD s q = 13) : (zob ((hOf s).1 q) 9 fun fs => zfd fs 4 F) = F (.ref (gR s q 4)) := by
  rw [zob_c (c := 9) h, zfd_c (by decide)]
  rfl
theorem gf_9_5 {s : zS} {q : Nat} {F : Value → Prop} (h : gD s q = 13) : (zob ((hOf s).1 q) 9 fun fs => zfd fs 5 F) = F (.ref (gR s q 5)) := by
  rw [zob_c (c := 9) h, zfd_c (by decide)]
  rfl
theorem gf_9_6 {s : zS} {q : Nat} {F : Value → Prop} (h : gD s q = 13) : (zob ((hOf s).1 q) 9 fun fs => zfd fs 6 F) = F (.ref (gR s q 6)) := by
  rw [zob_c (c := 9) h, zfd_c (by decide)]
  rfl
theorem gf_9_7 {s : zS} {q : Nat} {F : Value → Prop} (h : gD s q = 13) : (zob ((hOf s).1 q) 9 fun fs => zfd fs 7 F) = F (.ref (gR s q 7)) := by
  rw [zob_c (c := 9) h, zfd_c (by decide)]
  rfl
theorem gf_9_8 {s : zS} {q : Nat} {F : Value → Prop} (h : gD s q = 13) : (zob ((hOf s).1 q) 9 fun fs => zfd fs 8 F) = F (.ref (gR s q 8)) := by
  rw [zob_c (c := 9) h, zfd_c (by decide)]
  rfl
theorem gf_9_9 {s : zS} {q : Nat} {F : Value → Prop} (h : gD s q = 13) : (zob ((hOf s).1 q) 9 fun fs => zfd fs 9 F) = F (.ref (gR s q 9)) := by
  rw [zob_c (c := 9) h, zfd_c (by decide)]
  rfl
theorem pp_9_0 {s : zS} {q : Nat} {x : Int32} {F : zH → Nat → Nat → Prop} {kc ks : Nat} (h : gD s q = 13) (h16 : 16 ≤ q) : (zob ((hOf s).1 q) 9 fun fs => 16 ≤ q ∧ 0 < fs.length ∧ zfit (zty 9 0) (.int x) = true ∧ F (zup (hOf s) q (.inr (9 + 1, fs.set 0 (.int x)))) kc ks) = F (hOf (sI s q 0 x)) kc ks := pf_9_0 (F := fun h => F h kc ks) h h16
theorem pp_9_1 {s : zS} {q : Nat} {x : Nat} {F : zH → Nat → Nat → Prop} {kc ks : Nat} (h : gD s q = 13) (h16 : 16 ≤ q) : (zob ((hOf s).1 q) 9 fun fs => 16 ≤ q ∧ 1 < fs.length ∧ zfit (zty 9 1) (.ref x) = true ∧ F (zup (hOf s) q (.inr (9 + 1, fs.set 1 (.ref x)))) kc ks) = F (hOf (sR s q 1 x)) kc ks := pf_9_1 (F := fun h => F h kc ks) h h16
theorem pp_9_2 {s : zS} {q : Nat} {x : Nat} {F : zH → Nat → Nat → Prop} {kc ks : Nat} (h : gD s q = 13) (h16 : 16 ≤ q) : (zob ((hOf s).1 q) 9 fun fs => 16 ≤ q ∧ 2 < fs.length ∧ zfit (zty 9 2) (.ref x) = true ∧ F (zup (hOf s) q (.inr (9 + 1, fs.set 2 (.ref x)))) kc ks) = F (hOf (sR s q 2 x)) kc ks := pf_9_2 (F := fun h => F h kc ks) h h16
theorem pp_9_3 {s : zS} {q : Nat} {x : Nat} {F : zH → Nat → Nat → Prop} {kc ks : Nat} (h : gD s q = 13) (h16 : 16 ≤ q) : (zob ((hOf s).1 q) 9 fun fs => 16 ≤ q ∧ 3 < fs.length ∧ zfit (zty 9 3) (.ref x) = true ∧ F (zup (hOf s) q (.inr (9 + 1, fs.set 3 (.ref x)))) kc ks) = F (hOf (sR s q 3 x)) kc ks := pf_9_3 (F := fun h => F h kc ks) h h16
theorem pp_9_4 {s : zS} {q : Nat} {x : Nat} {F : zH → Nat → Nat → Prop} {kc ks : Nat} (h : gD s q = 13) (h16 : 16 ≤ q) : (zob ((hOf s).1 q) 9 fun fs => 16 ≤ q ∧ 4 < fs.length ∧ zfit (zty 9 4) (.ref x) = true ∧ F (zup (hOf s) q (.inr (9 + 1, fs.set 4 (.ref x)))) kc ks) = F (hOf (sR s q 4 x)) kc ks := pf_9_4 (F := fun h => F h kc ks) h h16
theorem pp_9_5 {s : zS} {q : Nat} {x : Nat} {F : zH → Nat → Nat → Prop} {kc ks : Nat} (h : gD s q = 13) (h16 : 16 ≤ q) : (zob ((hOf s).1 q) 9 fun fs => 16 ≤ q ∧ 5 < fs.length ∧ zfit (zty 9 5) (.ref x) = true ∧ F (zup (hOf s) q (.inr (9 + 1, fs.set 5 (.ref x)))) kc ks) = F (hOf (sR s q 5 x)) kc ks := pf_9_5 (F := fun h => F h kc ks) h h16
theorem pp_9_6 {s : zS} {q : Nat} {x : Nat} {F : zH → Nat → Nat → Prop} {kc ks : Nat} (h : gD s q = 13) (h16 : 16 ≤ q) : (zob ((hOf s).1 q) 9 fun fs => 16 ≤ q ∧ 6 < fs.length ∧ zfit (zty 9 6) (.ref x) = true ∧ F (zup (hOf s) q (.inr (9 + 1, fs.set 6 (.ref x)))) kc ks) = F (hOf (sR s q 6 x)) kc ks := pf_9_6 (F := fun h => F h kc ks) h h16
theorem pp_9_7 {s : zS} {q : Nat} {x : Nat} {F : zH → Nat → Nat → Prop} {kc ks : Nat} (h : gD s q = 13) (h16 : 16 ≤ q) : (zob ((hOf s).1 q) 9 fun fs => 16 ≤ q ∧ 7 < fs.length ∧ zfit (zty 9 7) (.ref x) = true ∧ F (zup (hOf s) q (.inr (9 + 1, fs.set 7 (.ref x)))) kc ks) = F (hOf (sR s q 7 x)) kc ks := pf_9_7 (F := fun h => F h kc ks) h h16
theorem pp_9_8 {s : zS} {q : Nat} {x : Nat} {F : zH → Nat → Nat → Prop} {kc ks : Nat} (h : gD s q = 13) (h16 : 16 ≤ q) : (zob ((hOf s).1 q) 9 fun fs => 16 ≤ q ∧ 8 < fs.length ∧ zfit (zty 9 8) (.ref x) = true ∧ F (zup (hOf s) q (.inr (9 + 1, fs.set 8 (.ref x)))) kc ks) = F (hOf (sR s q 8 x)) kc ks := pf_9_8 (F := fun h => F h kc ks) h h16
theorem pp_9_9 {s : zS} {q : Nat} {x : Nat} {F : zH → Nat → Nat → Prop} {kc ks : Nat} (h : gD s q = 13) (h16 : 16 ≤ q) : (zob ((hOf s).1 q) 9 fun fs => 16 ≤ q ∧ 9 < fs.length ∧ zfit (zty 9 9) (.ref x) = true ∧ F (zup (hOf s) q (.inr (9 + 1, fs.set 9 (.ref x)))) kc ks) = F (hOf (sR s q 9 x)) kc ks := pf_9_9 (F := fun h => F h kc ks) h h16
theorem gv_9 {s : zS} {q : Nat} {F : Prop} (h : gD s q = 13) : (zob ((hOf s).1 q) 9 fun _ => F) = F := by
  rw [zob_c (c := 9) h]
theorem gf_10_0 {s : zS} {q : Nat} {F : Value → Prop} (h : gD s q = 14) : (zob ((hOf s).1 q) 10 fun fs => zfd fs 0 F) = F (.ref (gR s q 0)) := by
  rw [zob_c (c := 10) h, zfd_c (by decide)]
  rfl
theorem gf_10_1 {s : zS} {q : Nat} {F : Value → Prop} (h : gD s q = 14) : (zob ((hOf s).1 q) 10 fun fs => zfd fs 1 F) = F (.int (gI s q 1)) := by
  rw [zob_c (c := 10) h, zfd_c (by decide)]
  rfl
theorem gf_10_2 {s : zS} {q : Nat} {F : Value → Prop} (h : gD s q = 14) : (zob ((hOf s).1 q) 10 fun fs => zfd fs 2 F) = F (.int (gI s q 2)) := by
  rw [zob_c (c := 10) h, zfd_c (by decide)]
  rfl
theorem gf_10_3 {s : zS} {q : Nat} {F : Value → Prop} (h : gD s q = 14) : (zob ((hOf s).1 q) 10 fun fs => zfd fs 3 F) = F (.ref (gR s q 3)) := by
  rw [zob_c (c := 10) h, zfd_c (by decide)]
  rfl
theorem gf_10_4 {s : zS} {q : Nat} {F : Value → Prop} (h : gD s q = 14) : (zob ((hOf s).1 q) 10 fun fs => zfd fs 4 F) = F (.ref (gR s q 4)) := by
  rw [zob_c (c := 10) h, zfd_c (by decide)]
  rfl
theorem gf_10_5 {s : zS} {q : Nat} {F : Value → Prop} (h : gD s q = 14) : (zob ((hOf s).1 q) 10 fun fs => zfd fs 5 F) = F (.ref (gR s q 5)) := by
  rw [zob_c (c := 10) h, zfd_c (by decide)]
  rfl
theorem gf_10_6 {s : zS} {q : Nat} {F : Value → Prop} (h : gD s q = 14) : (zob ((hOf s).1 q) 10 fun fs => zfd fs 6 F) = F (.ref (gR s q 6)) := by
  rw [zob_c (c := 10) h, zfd_c (by decide)]
  rfl
theorem gf_10_7 {s : zS} {q : Nat} {F : Value → Prop} (h : gD s q = 14) : (zob ((hOf s).1 q) 10 fun fs => zfd fs 7 F) = F (.ref (gR s q 7)) := by
  rw [zob_c (c := 10) h, zfd_c (by decide)]
  rfl
theorem gf_10_8 {s : zS} {q : Nat} {F : Value → Prop} (h : gD s q = 14) : (zob ((hOf s).1 q) 10 fun fs => zfd fs 8 F) = F (.ref (gR s q 8)) := by
  rw [zob_c (c := 10) h, zfd_c (by decide)]
  rfl
theorem gf_10_9 {s : zS} {q : Nat} {F : Value → Prop} (h : gD s q = 14) : (zob ((hOf s).1 q) 10 fun fs => zfd fs 9 F) = F (.ref (gR s q 9)) := by
  rw [zob_c (c := 10) h, zfd_c (by decide)]
  rfl
theorem gf_10_10 {s : zS} {q : Nat} {F : Value → Prop} (h : gD s q = 14) : (zob ((hOf s).1 q) 10 fun fs => zfd fs 10 F) = F (.ref (gR s q 10)) := by
  rw [zob_c (c := 10) h, zfd_c (by decide)]
  rfl
theorem gf_10_11 {s : zS} {q : Nat} {F : Value → Prop} (h : gD s q = 14) : (zob ((hOf s).1 q) 10 fun fs => zfd fs 11 F) = F (.ref (gR s q 11)) := by
  rw [zob_c (c := 10) h, zfd_c (by decide)]
  rfl
theorem gf_10_12 {s : zS} {q : Nat} {F : Value → Prop} (h : gD s q = 14) : (zob ((hOf s).1 q) 10 fun fs => zfd fs 12 F) = F (.ref (gR s q 12)) := by
  rw [zob_c (c := 10) h, zfd_c (by decide)]
  rfl
theorem gf_10_13 {s : zS} {q : Nat} {F : Value → Prop} (h : gD s q = 14) : (zob ((hOf s).1 q) 10 fun fs => zfd fs 13 F) = F (.ref (gR s q 13)) := by
  rw [zob_c (c := 10) h, zfd_c (by decide)]
  rfl
theorem pp_10_0 {s : zS} {q : Nat} {x : Nat} {F : zH → Nat → Nat → Prop} {kc ks : Nat} (h : gD s q = 14) (h16 : 16 ≤ q) : (zob ((hOf s).1 q) 10 fun fs => 16 ≤ q ∧ 0 < fs.length ∧ zfit (zty 10 0) (.ref x) = true ∧ F (zup (hOf s) q (.inr (10 + 1, fs.set 0 (.ref x)))) kc ks) = F (hOf (sR s q 0 x)) kc ks := pf_10_0 (F := fun h => F h kc ks) h h16
theorem pp_10_1 {s : zS} {q : Nat} {x : Int32} {F : zH → Nat → Nat → Prop} {kc ks : Nat} (h : gD s q = 14) (h16 : 16 ≤ q) : (zob ((hOf s).1 q) 10 fun fs => 16 ≤ q ∧ 1 < fs.length ∧ zfit (zty 10 1) (.int x) = true ∧ F (zup (hOf s) q (.inr (10 + 1, fs.set 1 (.int x)))) kc ks) = F (hOf (sI s q 1 x)) kc ks := pf_10_1 (F := fun h => F h kc ks) h h16
theorem pp_10_2 {s : zS} {q : Nat} {x : Int32} {F : zH → Nat → Nat → Prop} {kc ks : Nat} (h : gD s q = 14) (h16 : 16 ≤ q) : (zob ((hOf s).1 q) 10 fun fs => 16 ≤ q ∧ 2 < fs.length ∧ zfit (zty 10 2) (.int x) = true ∧ F (zup (hOf s) q (.inr (10 + 1, fs.set 2 (.int x)))) kc ks) = F (hOf (sI s q 2 x)) kc ks := pf_10_2 (F := fun h => F h kc ks) h h16
theorem pp_10_3 {s : zS} {q : Nat} {x : Nat} {F : zH → Nat → Nat → Prop} {kc ks : Nat} (h : gD s q = 14) (h16 : 16 ≤ q) : (zob ((hOf s).1 q) 10 fun fs => 16 ≤ q ∧ 3 < fs.length ∧ zfit (zty 10 3) (.ref x) = true ∧ F (zup (hOf s) q (.inr (10 + 1, fs.set 3 (.ref x)))) kc ks) = F (hOf (sR s q 3 x)) kc ks := pf_10_3 (F := fun h => F h kc ks) h h16
theorem pp_10_4 {s : zS} {q : Nat} {x : Nat} {F : zH → Nat → Nat → Prop} {kc ks : Nat} (h : gD s q = 14) (h16 : 16 ≤ q) : (zob ((hOf s).1 q) 10 fun fs => 16 ≤ q ∧ 4 < fs.length ∧ zfit (zty 10 4) (.ref x) = true ∧ F (zup (hOf s) q (.inr (10 + 1, fs.set 4 (.ref x)))) kc ks) = F (hOf (sR s q 4 x)) kc ks := pf_10_4 (F := fun h => F h kc ks) h h16
theorem pp_10_5 {s : zS} {q : Nat} {x : Nat} {F : zH → Nat → Nat → Prop} {kc ks : Nat} (h : gD s q = 14) (h16 : 16 ≤ q) : (zob ((hOf s).1 q) 10 fun fs => 16 ≤ q ∧ 5 < fs.length ∧ zfit (zty 10 5) (.ref x) = true ∧ F (zup (hOf s) q (.inr (10 + 1, fs.set 5 (.ref x)))) kc ks) = F (hOf (sR s q 5 x)) kc ks := pf_10_5 (F := fun h => F h kc ks) h h16
theorem pp_10_6 {s : zS} {q : Nat} {x : Nat} {F : zH → Nat → Nat → Prop} {kc ks : Nat} (h : gD s q = 14) (h16 : 16 ≤ q) : (zob ((hOf s).1 q) 10 fun fs => 16 ≤ q ∧ 6 < fs.length ∧ zfit (zty 10 6) (.ref x) = true ∧ F (zup (hOf s) q (.inr (10 + 1, fs.set 6 (.ref x)))) kc ks) = F (hOf (sR s q 6 x)) kc ks := pf_10_6 (F := fun h => F h kc ks) h h16
theorem pp_10_7 {s : zS} {q : Nat} {x : Nat} {F : zH → Nat → Nat → Prop} {kc ks : Nat} (h : gD s q = 14) (h16 : 16 ≤ q) : (zob ((hOf s).1 q) 10 fun fs => 16 ≤ q ∧ 7 < fs.length ∧ zfit (zty 10 7) (.ref x) = true ∧ F (zup (hOf s) q (.inr (10 + 1, fs.set 7 (.ref x)))) kc ks) = F (hOf (sR s q 7 x)) kc ks := pf_10_7 (F := fun h => F h kc ks) h h16
theorem pp_10_8 {s : zS} {q : Nat} {x : Nat} {F : zH → Nat → Nat → Prop} {kc ks : Nat} (h : gD s q = 14) (h16 : 16 ≤ q) : (zob ((hOf s).1 q) 10 fun fs => 16 ≤ q ∧ 8 < fs.length ∧ zfit (zty 10 8) (.ref x) = true ∧ F (zup (hOf s) q (.inr (10 + 1, fs.set 8 (.ref x)))) kc ks) = F (hOf (sR s q 8 x)) kc ks := pf_10_8 (F := fun h => F h kc ks) h h16
theorem pp_10_9 {s : zS} {q : Nat} {x : Nat} {F : zH → Nat → Nat → Prop} {kc ks : Nat} (h : gD s q = 14) (h16 : 16 ≤ q) : (zob ((hOf s).1 q) 10 fun fs => 16 ≤ q ∧ 9 < fs.length ∧ zfit (zty 10 9) (.ref x) = true ∧ F (zup (hOf s) q (.inr (10 + 1, fs.set 9 (.ref x)))) kc ks) = F (hOf (sR s q 9 x)) kc ks := pf_10_9 (F := fun h => F h kc ks) h h16
theorem pp_10_10 {s : zS} {q : Nat} {x : Nat} {F : zH → Nat → Nat → Prop} {kc ks : Nat} (h : gD s q = 14) (h16 : 16 ≤ q) : (zob ((hOf s).1 q) 10 fun fs => 16 ≤ q ∧ 10 < fs.length ∧ zfit (zty 10 10) (.ref x) = true ∧ F (zup (hOf s) q (.inr (10 + 1, fs.set 10 (.ref x)))) kc ks) = F (hOf (sR s q 10 x)) kc ks := pf_10_10 (F := fun h => F h kc ks) h h16
theorem pp_10_11 {s : zS} {q : Nat} {x : Nat} {F : zH → Nat → Nat → Prop} {kc ks : Nat} (h : gD s q = 14) (h16 : 16 ≤ q) : (zob ((hOf s).1 q) 10 fun fs => 16 ≤ q ∧ 11 < fs.length ∧ zfit (zty 10 11) (.ref x) = true ∧ F (zup (hOf s) q (.inr (10 + 1, fs.set 11 (.ref x)))) kc ks) = F (hOf (sR s q 11 x)) kc ks := pf_10_11 (F := fun h => F h kc ks) h h16
theorem pp_10_12 {s : zS} {q : Nat} {x : Nat} {F : zH → Nat → Nat → Prop} {kc ks : Nat} (h : gD s q = 14) (h16 : 16 ≤ q) : (zob ((hOf s).1 q) 10 fun fs => 16 ≤ q ∧ 12 < fs.length ∧ zfit (zty 10 12) (.ref x) = true ∧ F (zup (hOf s) q (.inr (10 + 1, fs.set 12 (.ref x)))) kc ks) = F (hOf (sR s q 12 x)) kc ks := pf_10_12 (F := fun h => F h kc ks) h h16
theorem pp_10_13 {s : zS} {q : Nat} {x : Nat} {F : zH → Nat → Nat → Prop} {kc ks : Nat} (h : gD s q = 14) (h16 : 16 ≤ q) : (zob ((hOf s).1 q) 10 fun fs => 16 ≤ q ∧ 13 < fs.length ∧ zfit (zty 10 13) (.ref x) = true ∧ F (zup (hOf s) q (.inr (10 + 1, fs.set 13 (.ref x)))) kc ks) = F (hOf (sR s q 13 x)) kc ks := pf_10_13 (F := fun h => F h kc ks) h h16
theorem gv_10 {s : zS} {q : Nat} {F : Prop} (h : gD s q = 14) : (zob ((hOf s).1 q) 10 fun _ => F) = F := by
  rw [zob_c (c := 10) h]
theorem gf_11_0 {s : zS} {q : Nat} {F : Value → Prop} (h : gD s q = 15) : (zob ((hOf s).1 q) 11 fun fs => zfd fs 0 F) = F (.int (gI s q 0)) := by
  rw [zob_c (c := 11) h, zfd_c (by decide)]
  rfl
theorem gf_11_1 {s : zS} {q : Nat} {F : Value → Prop} (h : gD s q = 15) : (zob ((hOf s).1 q) 11 fun fs => zfd fs 1 F) = F (.int (gI s q 1)) := by
  rw [zob_c (c := 11) h, zfd_c (by decide)]
  rfl
theorem gf_11_2 {s : zS} {q : Nat} {F : Value → Prop} (h : gD s q = 15) : (zob ((hOf s).1 q) 11 fun fs => zfd fs 2 F) = F (.int (gI s q 2)) := by
  rw [zob_c (c := 11) h, zfd_c (by decide)]
  rfl
theorem gf_11_3 {s : zS} {q : Nat} {F : Value → Prop} (h : gD s q = 15) : (zob ((hOf s).1 q) 11 fun fs => zfd fs 3 F) = F (.int (gI s q 3)) := by
  rw [zob_c (c := 11) h, zfd_c (by decide)]
  rfl
theorem gf_11_4 {s : zS} {q : Nat} {F : Value → Prop} (h : gD s q = 15) : (zob ((hOf s).1 q) 11 fun fs => zfd fs 4 F) = F (.int (gI s q 4)) := by
  rw [zob_c (c := 11) h, zfd_c (by decide)]
  rfl
theorem gf_11_5 {s : zS} {q : Nat} {F : Value → Prop} (h : gD s q = 15) : (zob ((hOf s).1 q) 11 fun fs => zfd fs 5 F) = F (.int (gI s q 5)) := by
  rw [zob_c (c := 11) h, zfd_c (by decide)]
  rfl
theorem gf_11_6 {s : zS} {q : Nat} {F : Value → Prop} (h : gD s q = 15) : (zob ((hOf s).1 q) 11 fun fs => zfd fs 6 F) = F (.int (gI s q 6)) := by
  rw [zob_c (c := 11) h, zfd_c (by decide)]
  rfl
theorem gf_11_7 {s : zS} {q : Nat} {F : Value → Prop} (h : gD s q = 15) : (zob ((hOf s).1 q) 11 fun fs => zfd fs 7 F) = F (.int (gI s q 7)) := by
  rw [zob_c (c := 11) h, zfd_c (by decide)]
  rfl
theorem gf_11_8 {s : zS} {q : Nat} {F : Value → Prop} (h : gD s q = 15) : (zob ((hOf s).1 q) 11 fun fs => zfd fs 8 F) = F (.ref (gR s q 8)) := by
  rw [zob_c (c := 11) h, zfd_c (by decide)]
  rfl
theorem gf_11_9 {s : zS} {q : Nat} {F : Value → Prop} (h : gD s q = 15) : (zob ((hOf s).1 q) 11 fun fs => zfd fs 9 F) = F (.ref (gR s q 9)) := by
  rw [zob_c (c := 11) h, zfd_c (by decide)]
  rfl
theorem gf_11_10 {s : zS} {q : Nat} {F : Value → Prop} (h : gD s q = 15) : (zob ((hOf s).1 q) 11 fun fs => zfd fs 10 F) = F (.ref (gR s q 10)) := by
  rw [zob_c (c := 11) h, zfd_c (by decide)]
  rfl
theorem gf_11_11 {s : zS} {q : Nat} {F : Value → Prop} (h : gD s q = 15) : (zob ((hOf s).1 q) 11 fun fs => zfd fs 11 F) = F (.ref (gR s q 11)) := by
  rw [zob_c (c := 11) h, zfd_c (by decide)]
  rfl
theorem gf_11_12 {s : zS} {q : Nat} {F : Value → Prop} (h : gD s q = 15) : (zob ((hOf s).1 q) 11 fun fs => zfd fs 12 F) = F (.ref (gR s q 12)) := by
  rw [zob_c (c := 11) h, zfd_c (by decide)]
  rfl
theorem gf_11_13 {s : zS} {q : Nat} {F : Value → Prop} (h : gD s q = 15) : (zob ((hOf s).1 q) 11 fun fs => zfd fs 13 F) = F (.ref (gR s q 13)) := by
  rw [zob_c (c := 11) h, zfd_c (by decide)]
  rfl
theorem gf_11_14 {s : zS} {q : Nat} {F : Value → Prop} (h : gD s q = 15) : (zob ((hOf s).1 q) 11 fun fs => zfd fs 14 F) = F (.ref (gR s q 14)) := by
  rw [zob_c (c := 11) h, zfd_c (by decide)]
  rfl
theorem gf_11_15 {s : zS} {q : Nat} {F : Value → Prop} (h : gD s q = 15) : (zob ((hOf s).1 q) 11 fun fs => zfd fs 15 F) = F (.ref (gR s q 15)) := by
  rw [zob_c (c := 11) h, zfd_c (by decide)]
  rfl
theorem gf_11_16 {s : zS} {q : Nat} {F : Value → Prop} (h : gD s q = 15) : (zob ((hOf s).1 q) 11 fun fs => zfd fs 16 F) = F (.ref (gR s q 16)) := by
  rw [zob_c (c := 11) h, zfd_c (by decide)]
  rfl
theorem gf_11_17 {s : zS} {q : Nat} {F : Value → Prop} (h : gD s q = 15) : (zob ((hOf s).1 q) 11 fun fs => zfd fs 17 F) = F (.ref (gR s q 17)) := by
  rw [zob_c (c := 11) h, zfd_c (by decide)]
  rfl
theorem gf_11_18 {s : zS} {q : Nat} {F : Value → Prop} (h : gD s q = 15) : (zob ((hOf s).1 q) 11 fun fs => zfd fs 18 F) = F (.ref (gR s q 18)) := by
  rw [zob_c (c := 11) h, zfd_c (by decide)]
  rfl
theorem gf_11_19 {s : zS} {q : Nat} {F : Value → Prop} (h : gD s q = 15) : (zob ((hOf s).1 q) 11 fun fs => zfd fs 19 F) = F (.int (gI s q 19)) := by
  rw [zob_c (c := 11) h, zfd_c (by decide)]
  rfl
theorem gf_11_20 {s : zS} {q : Nat} {F : Value → Prop} (h : gD s q = 15) : (zob ((hOf s).1 q) 11 fun fs => zfd fs 20 F) = F (.ref (gR s q 20)) := by
  rw [zob_c (c := 11) h, zfd_c (by decide)]
  rfl
theorem gf_11_21 {s : zS} {q : Nat} {F : Value → Prop} (h : gD s q = 15) : (zob ((hOf s).1 q) 11 fun fs => zfd fs 21 F) = F (.ref (gR s q 21)) := by
  rw [zob_c (c := 11) h, zfd_c (by decide)]
  rfl
theorem gf_11_22 {s : zS} {q : Nat} {F : Value → Prop} (h : gD s q = 15) : (zob ((hOf s).1 q) 11 fun fs => zfd fs 22 F) = F (.ref (gR s q 22)) := by
  rw [zob_c (c := 11) h, zfd_c (by decide)]
  rfl
theorem gf_11_23 {s : zS} {q : Nat} {F : Value → Prop} (h : gD s q = 15) : (zob ((hOf s).1 q) 11 fun fs => zfd fs 23 F) = F (.ref (gR s q 23)) := by
  rw [zob_c (c := 11) h, zfd_c (by decide)]
  rfl
theorem gf_11_24 {s : zS} {q : Nat} {F : Value → Prop} (h : gD s q = 15) : (zob ((hOf s).1 q) 11 fun fs => zfd fs 24 F) = F (.ref (gR s q 24)) := by
  rw [zob_c (c := 11) h, zfd_c (by decide)]
  rfl
theorem gf_11_25 {s : zS} {q : Nat} {F : Value → Prop} (h : gD s q = 15) : (zob ((hOf s).1 q) 11 fun fs => zfd fs 25 F) = F (.ref (gR s q 25)) := by
  rw [zob_c (c := 11) h, zfd_c (by decide)]
  rfl
theorem gf_11_26 {s : zS} {q : Nat} {F : Value → Prop} (h : gD s q = 15) : (zob ((hOf s).1 q) 11 fun fs => zfd fs 26 F) = F (.ref (gR s q 26)) := by
  rw [zob_c (c := 11) h, zfd_c (by decide)]
  rfl
theorem gf_11_27 {s : zS} {q : Nat} {F : Value → Prop} (h : gD s q = 15) : (zob ((hOf s).1 q) 11 fun fs => zfd fs 27 F) = F (.int (gI s q 27)) := by
  rw [zob_c (c := 11) h, zfd_c (by decide)]
  rfl
theorem gf_11_28 {s : zS} {q : Nat} {F : Value → Prop} (h : gD s q = 15) : (zob ((hOf s).1 q) 11 fun fs => zfd fs 28 F) = F (.int (gI s q 28)) := by
  rw [zob_c (c := 11) h, zfd_c (by decide)]
  rfl
theorem gf_11_29 {s : zS} {q : Nat} {F : Value → Prop} (h : gD s q = 15) : (zob ((hOf s).1 q) 11 fun fs => zfd fs 29 F) = F (.int (gI s q 29)) := by
  rw [zob_c (c := 11) h, zfd_c (by decide)]
  rfl
theorem gf_11_30 {s : zS} {q : Nat} {F : Value → Prop} (h : gD s q = 15) : (zob ((hOf s).1 q) 11 fun fs => zfd fs 30 F) = F (.ref (gR s q 30)) := by
  rw [zob_c (c := 11) h, zfd_c (by decide)]
  rfl
theorem gf_11_31 {s : zS} {q : Nat} {F : Value → Prop} (h : gD s q = 15) : (zob ((hOf s).1 q) 11 fun fs => zfd fs 31 F) = F (.ref (gR s q 31)) := by
  rw [zob_c (c := 11) h, zfd_c (by decide)]
  rfl
theorem gf_11_32 {s : zS} {q : Nat} {F : Value → Prop} (h : gD s q = 15) : (zob ((hOf s).1 q) 11 fun fs => zfd fs 32 F) = F (.ref (gR s q 32)) := by
  rw [zob_c (c := 11) h, zfd_c (by decide)]
  rfl
theorem gf_11_33 {s : zS} {q : Nat} {F : Value → Prop} (h : gD s q = 15) : (zob ((hOf s).1 q) 11 fun fs => zfd fs 33 F) = F (.int (gI s q 33)) := by
  rw [zob_c (c := 11) h, zfd_c (by decide)]
  rfl
theorem gf_11_34 {s : zS} {q : Nat} {F : Value → Prop} (h : gD s q = 15) : (zob ((hOf s).1 q) 11 fun fs => zfd fs 34 F) = F (.int (gI s q 34)) := by
  rw [zob_c (c := 11) h, zfd_c (by decide)]
  rfl
theorem gf_11_35 {s : zS} {q : Nat} {F : Value → Prop} (h : gD s q = 15) : (zob ((hOf s).1 q) 11 fun fs => zfd fs 35 F) = F (.int (gI s q 35)) := by
  rw [zob_c (c := 11) h, zfd_c (by decide)]
  rfl
theorem gf_11_36 {s : zS} {q : Nat} {F : Value → Prop} (h : gD s q = 15) : (zob ((hOf s).1 q) 11 fun fs => zfd fs 36 F) = F (.ref (gR s q 36)) := by
  rw [zob_c (c := 11) h, zfd_c (by decide)]
  rfl
theorem gf_11_37 {s : zS} {q : Nat} {F : Value → Prop} (h : gD s q = 15) : (zob ((hOf s).1 q) 11 fun fs => zfd fs 37 F) = F (.ref (gR s q 37)) := by
  rw [zob_c (c := 11) h, zfd_c (by decide)]
  rfl
theorem gf_11_38 {s : zS} {q : Nat} {F : Value → Prop} (h : gD s q = 15) : (zob ((hOf s).1 q) 11 fun fs => zfd fs 38 F) = F (.ref (gR s q 38)) := by
  rw [zob_c (c := 11) h, zfd_c (by decide)]
  rfl
theorem gf_11_39 {s : zS} {q : Nat} {F : Value → Prop} (h : gD s q = 15) : (zob ((hOf s).1 q) 11 fun fs => zfd fs 39 F) = F (.ref (gR s q 39)) := by
  rw [zob_c (c := 11) h, zfd_c (by decide)]
  rfl
theorem gf_11_40 {s : zS} {q : Nat} {F : Value → Prop} (h : gD s q = 15) : (zob ((hOf s).1 q) 11 fun fs => zfd fs 40 F) = F (.ref (gR s q 40)) := by
  rw [zob_c (c := 11) h, zfd_c (by decide)]
  rfl
theorem gf_11_41 {s : zS} {q : Nat} {F : Value → Prop} (h : gD s q = 15) : (zob ((hOf s).1 q) 11 fun fs => zfd fs 41 F) = F (.ref (gR s q 41)) := by
  rw [zob_c (c := 11) h, zfd_c (by decide)]
  rfl
theorem gf_11_42 {s : zS} {q : Nat} {F : Value → Prop} (h : gD s q = 15) : (zob ((hOf s).1 q) 11 fun fs => zfd fs 42 F) = F (.ref (gR s q 42)) := by
  rw [zob_c (c := 11) h, zfd_c (by decide)]
  rfl
theorem gf_11_43 {s : zS} {q : Nat} {F : Value → Prop} (h : gD s q = 15) : (zob ((hOf s).1 q) 11 fun fs => zfd fs 43 F) = F (.int (gI s q 43)) := by
  rw [zob_c (c := 11) h, zfd_c (by decide)]
  rfl
theorem gf_11_44 {s : zS} {q : Nat} {F : Value → Prop} (h : gD s q = 15) : (zob ((hOf s).1 q) 11 fun fs => zfd fs 44 F) = F (.ref (gR s q 44)) := by
  rw [zob_c (c := 11) h, zfd_c (by decide)]
  rfl
theorem gf_11_45 {s : zS} {q : Nat} {F : Value → Prop} (h : gD s q = 15) : (zob ((hOf s).1 q) 11 fun fs => zfd fs 45 F) = F (.int (gI s q 45)) := by
  rw [zob_c (c := 11) h, zfd_c (by decide)]
  rfl
theorem gf_11_46 {s : zS} {q : Nat} {F : Value → Prop} (h : gD s q = 15) : (zob ((hOf s).1 q) 11 fun fs => zfd fs 46 F) = F (.ref (gR s q 46)) := by
  rw [zob_c (c := 11) h, zfd_c (by decide)]
  rfl
theorem gf_11_47 {s : zS} {q : Nat} {F : Value → Prop} (h : gD s q = 15) : (zob ((hOf s).1 q) 11 fun fs => zfd fs 47 F) = F (.ref (gR s q 47)) := by
  rw [zob_c (c := 11) h, zfd_c (by decide)]
  rfl
theorem gf_11_48 {s : zS} {q : Nat} {F : Value → Prop} (h : gD s q = 15) : (zob ((hOf s).1 q) 11 fun fs => zfd fs 48 F) = F (.ref (gR s q 48)) := by
  rw [zob_c (c := 11) h, zfd_c (by decide)]
  rfl
theorem gf_11_49 {s : zS} {q : Nat} {F : Value → Prop} (h : gD s q = 15) : (zob ((hOf s).1 q) 11 fun fs => zfd fs 49 F) = F (.ref (gR s q 49)) := by
  rw [zob_c (c := 11) h, zfd_c (by decide)]
  rfl
theorem gf_11_50 {s : zS} {q : Nat} {F : Value → Prop} (h : gD s q = 15) : (zob ((hOf s).1 q) 11 fun fs => zfd fs 50 F) = F (.ref (gR s q 50)) := by
  rw [zob_c (c := 11) h, zfd_c (by decide)]
  rfl
theorem gf_11_51 {s : zS} {q : Nat} {F : Value → Prop} (h : gD s q = 15) : (zob ((hOf s).1 q) 11 fun fs => zfd fs 51 F) = F (.ref (gR s q 51)) := by
  rw [zob_c (c := 11) h, zfd_c (by decide)]
  rfl
theorem gf_11_52 {s : zS} {q : Nat} {F : Value → Prop} (h : gD s q = 15) : (zob ((hOf s).1 q) 11 fun fs => zfd fs 52 F) = F (.ref (gR s q 52)) := by
  rw [zob_c (c := 11) h, zfd_c (by decide)]
  rfl
theorem gf_11_53 {s : zS} {q : Nat} {F : Value → Prop} (h : gD s q = 15) : (zob ((hOf s).1 q) 11 fun fs => zfd fs 53 F) = F (.ref (gR s q 53)) := by
  rw [zob_c (c := 11) h, zfd_c (by decide)]
  rfl
theorem gf_11_54 {s : zS} {q : Nat} {F : Value → Prop} (h : gD s q = 15) : (zob ((hOf s).1 q) 11 fun fs => zfd fs 54 F) = F (.int (gI s q 54)) := by
  rw [zob_c (c := 11) h, zfd_c (by decide)]
  rfl
theorem gf_11_55 {s : zS} {q : Nat} {F : Value → Prop} (h : gD s q = 15) : (zob ((hOf s).1 q) 11 fun fs => zfd fs 55 F) = F (.int (gI s q 55)) := by
  rw [zob_c (c := 11) h, zfd_c (by decide)]
  rfl
theorem gf_11_56 {s : zS} {q : Nat} {F : Value → Prop} (h : gD s q = 15) : (zob ((hOf s).1 q) 11 fun fs => zfd fs 56 F) = F (.int (gI s q 56)) := by
  rw [zob_c (c := 11) h, zfd_c (by decide)]
  rfl
theorem gf_11_57 {s : zS} {q : Nat} {F : Value → Prop} (h : gD s q = 15) : (zob ((hOf s).1 q) 11 fun fs => zfd fs 57 F) = F (.long (gJ s q 57)) := by
  rw [zob_c (c := 11) h, zfd_c (by decide)]
  rfl
theorem gf_11_58 {s : zS} {q : Nat} {F : Value → Prop} (h : gD s q = 15) : (zob ((hOf s).1 q) 11 fun fs => zfd fs 58 F) = F (.int (gI s q 58)) := by
  rw [zob_c (c := 11) h, zfd_c (by decide)]
  rfl
theorem gf_11_59 {s : zS} {q : Nat} {F : Value → Prop} (h : gD s q = 15) : (zob ((hOf s).1 q) 11 fun fs => zfd fs 59 F) = F (.int (gI s q 59)) := by
  rw [zob_c (c := 11) h, zfd_c (by decide)]
  rfl
theorem pp_11_0 {s : zS} {q : Nat} {x : Int32} {F : zH → Nat → Nat → Prop} {kc ks : Nat} (h : gD s q = 15) (h16 : 16 ≤ q) : (zob ((hOf s).1 q) 11 fun fs => 16 ≤ q ∧ 0 < fs.length ∧ zfit (zty 11 0) (.int x) = true ∧ F (zup (hOf s) q (.inr (11 + 1, fs.set 0 (.int x)))) kc ks) = F (hOf (sI s q 0 x)) kc ks := pf_11_0 (F := fun h => F h kc ks) h h16
theorem pp_11_1 {s : zS} {q : Nat} {x : Int32} {F : zH → Nat → Nat → Prop} {kc ks : Nat} (h : gD s q = 15) (h16 : 16 ≤ q) : (zob ((hOf s).1 q) 11 fun fs => 16 ≤ q ∧ 1 < fs.length ∧ zfit (zty 11 1) (.int x) = true ∧ F (zup (hOf s) q (.inr (11 + 1, fs.set 1 (.int x)))) kc ks) = F (hOf (sI s q 1 x)) kc ks := pf_11_1 (F := fun h => F h kc ks) h h16
theorem pp_11_2 {s : zS} {q : Nat} {x : Int32} {F : zH → Nat → Nat → Prop} {kc ks : Nat} (h : gD s q = 15) (h16 : 16 ≤ q) : (zob ((hOf s).1 q) 11 fun fs => 16 ≤ q ∧ 2 < fs.length ∧ zfit (zty 11 2) (.int x) = true ∧ F (zup (hOf s) q (.inr (11 + 1, fs.set 2 (.int x)))) kc ks) = F (hOf (sI s q 2 x)) kc ks := pf_11_2 (F := fun h => F h kc ks) h h16
theorem pp_11_3 {s : zS} {q : Nat} {x : Int32} {F : zH → Nat → Nat → Prop} {kc ks : Nat} (h : gD s q = 15) (h16 : 16 ≤ q) : (zob ((hOf s).1 q) 11 fun fs => 16 ≤ q ∧ 3 < fs.length ∧ zfit (zty 11 3) (.int x) = true ∧ F (zup (hOf s) q (.inr (11 + 1, fs.set 3 (.int x)))) kc ks) = F (hOf (sI s q 3 x)) kc ks := pf_11_3 (F := fun h => F h kc ks) h h16
theorem pp_11_4 {s : zS} {q : Nat} {x : Int32} {F : zH → Nat → Nat → Prop} {kc ks : Nat} (h : gD s q = 15) (h16 : 16 ≤ q) : (zob ((hOf s).1 q) 11 fun fs => 16 ≤ q ∧ 4 < fs.length ∧ zfit (zty 11 4) (.int x) = true ∧ F (zup (hOf s) q (.inr (11 + 1, fs.set 4 (.int x)))) kc ks) = F (hOf (sI s q 4 x)) kc ks := pf_11_4 (F := fun h => F h kc ks) h h16
theorem pp_11_5 {s : zS} {q : Nat} {x : Int32} {F : zH → Nat → Nat → Prop} {kc ks : Nat} (h : gD s q = 15) (h16 : 16 ≤ q) : (zob ((hOf s).1 q) 11 fun fs => 16 ≤ q ∧ 5 < fs.length ∧ zfit (zty 11 5) (.int x) = true ∧ F (zup (hOf s) q (.inr (11 + 1, fs.set 5 (.int x)))) kc ks) = F (hOf (sI s q 5 x)) kc ks := pf_11_5 (F := fun h => F h kc ks) h h16
theorem pp_11_6 {s : zS} {q : Nat} {x : Int32} {F : zH → Nat → Nat → Prop} {kc ks : Nat} (h : gD s q = 15) (h16 : 16 ≤ q) : (zob ((hOf s).1 q) 11 fun fs => 16 ≤ q ∧ 6 < fs.length ∧ zfit (zty 11 6) (.int x) = true ∧ F (zup (hOf s) q (.inr (11 + 1, fs.set 6 (.int x)))) kc ks) = F (hOf (sI s q 6 x)) kc ks := pf_11_6 (F := fun h => F h kc ks) h h16
theorem pp_11_7 {s : zS} {q : Nat} {x : Int32} {F : zH → Nat → Nat → Prop} {kc ks : Nat} (h : gD s q = 15) (h16 : 16 ≤ q) : (zob ((hOf s).1 q) 11 fun fs => 16 ≤ q ∧ 7 < fs.length ∧ zfit (zty 11 7) (.int x) = true ∧ F (zup (hOf s) q (.inr (11 + 1, fs.set 7 (.int x)))) kc ks) = F (hOf (sI s q 7 x)) kc ks := pf_11_7 (F := fun h => F h kc ks) h h16
theorem pp_11_8 {s : zS} {q : Nat} {x : Nat} {F : zH → Nat → Nat → Prop} {kc ks : Nat} (h : gD s q = 15) (h16 : 16 ≤ q) : (zob ((hOf s).1 q) 11 fun fs => 16 ≤ q ∧ 8 < fs.length ∧ zfit (zty 11 8) (.ref x) = true ∧ F (zup (hOf s) q (.inr (11 + 1, fs.set 8 (.ref x)))) kc ks) = F (hOf (sR s q 8 x)) kc ks := pf_11_8 (F := fun h => F h kc ks) h h16
theorem pp_11_9 {s : zS} {q : Nat} {x : Nat} {F : zH → Nat → Nat → Prop} {kc ks : Nat} (h : gD s q = 15) (h16 : 16 ≤ q) : (zob ((hOf s).1 q) 11 fun fs => 16 ≤ q ∧ 9 < fs.length ∧ zfit (zty 11 9) (.ref x) = true ∧ F (zup (hOf s) q (.inr (11 + 1, fs.set 9 (.ref x)))) kc ks) = F (hOf (sR s q 9 x)) kc ks := pf_11_9 (F := fun h => F h kc ks) h h16
theorem pp_11_10 {s : zS} {q : Nat} {x : Nat} {F : zH → Nat → Nat → Prop} {kc ks : Nat} (h : gD s q = 15) (h16 : 16 ≤ q) : (zob ((hOf s).1 q) 11 fun fs => 16 ≤ q ∧ 10 < fs.length ∧ zfit (zty 11 10) (.ref x) = true ∧ F (zup (hOf s) q (.inr (11 + 1, fs.set 10 (.ref x)))) kc ks) = F (hOf (sR s q 10 x)) kc ks := pf_11_10 (F := fun h => F h kc ks) h h16
theorem pp_11_11 {s : zS} {q : Nat} {x : Nat} {F : zH → Nat → Nat → Prop} {kc ks : Nat} (h : gD s q = 15) (h16 : 16 ≤ q) : (zob ((hOf s).1 q) 11 fun fs => 16 ≤ q ∧ 11 < fs.length ∧ zfit (zty 11 11) (.ref x) = true ∧ F (zup (hOf s) q (.inr (11 + 1, fs.set 11 (.ref x)))) kc ks) = F (hOf (sR s q 11 x)) kc ks := pf_11_11 (F := fun h => F h kc ks) h h16
theorem pp_11_12 {s : zS} {q : Nat} {x : Nat} {F : zH → Nat → Nat → Prop} {kc ks : Nat} (h : gD s q = 15) (h16 : 16 ≤ q) : (zob ((hOf s).1 q) 11 fun fs => 16 ≤ q ∧ 12 < fs.length ∧ zfit (zty 11 12) (.ref x) = true ∧ F (zup (hOf s) q (.inr (11 + 1, fs.set 12 (.ref x)))) kc ks) = F (hOf (sR s q 12 x)) kc ks := pf_11_12 (F := fun h => F h kc ks) h h16
theorem pp_11_13 {s : zS} {q : Nat} {x : Nat} {F : zH → Nat → Nat → Prop} {kc ks : Nat} (h : gD s q = 15) (h16 : 16 ≤ q) : (zob ((hOf s).1 q) 11 fun fs => 16 ≤ q ∧ 13 < fs.length ∧ zfit (zty 11 13) (.ref x) = true ∧ F (zup (hOf s) q (.inr (11 + 1, fs.set 13 (.ref x)))) kc ks) = F (hOf (sR s q 13 x)) kc ks := pf_11_13 (F := fun h => F h kc ks) h h16
theorem pp_11_14 {s : zS} {q : Nat} {x : Nat} {F : zH → Nat → Nat → Prop} {kc ks : Nat} (h : gD s q = 15) (h16 : 16 ≤ q) : (zob ((hOf s).1 q) 11 fun fs => 16 ≤ q ∧ 14 < fs.length ∧ zfit (zty 11 14) (.ref x) = true ∧ F (zup (hOf s) q (.inr (11 + 1, fs.set 14 (.ref x)))) kc ks) = F (hOf (sR s q 14 x)) kc ks := pf_11_14 (F := fun h => F h kc ks) h h16
theorem pp_11_15 {s : zS} {q : Nat} {x : Nat} {F : zH → Nat → Nat → Prop} {kc ks : Nat} (h : gD s q = 15) (h16 : 16 ≤ q) : (zob ((hOf s).1 q) 11 fun fs => 16 ≤ q ∧ 15 < fs.length ∧ zfit (zty 11 15) (.ref x) = true ∧ F (zup (hOf s) q (.inr (11 + 1, fs.set 15 (.ref x)))) kc ks) = F (hOf (sR s q 15 x)) kc ks := pf_11_15 (F := fun h => F h kc ks) h h16
theorem pp_11_16 {s : zS} {q : Nat} {x : Nat} {F : zH → Nat → Nat → Prop} {kc ks : Nat} (h : gD s q = 15) (h16 : 16 ≤ q) : (zob ((hOf s).1 q) 11 fun fs => 16 ≤ q ∧ 16 < fs.length ∧ zfit (zty 11 16) (.ref x) = true ∧ F (zup (hOf s) q (.inr (11 + 1, fs.set 16 (.ref x)))) kc ks) = F (hOf (sR s q 16 x)) kc ks := pf_11_16 (F := fun h => F h kc ks) h h16
theorem pp_11_17 {s : zS} {q : Nat} {x : Nat} {F : zH → Nat → Nat → Prop} {kc ks : Nat} (h : gD s q = 15) (h16 : 16 ≤ q) : (zob ((hOf s).1 q) 11 fun fs => 16 ≤ q ∧ 17 < fs.length ∧ zfit (zty 11 17) (.ref x) = true ∧ F (zup (hOf s) q (.inr (11 + 1, fs.set 17 (.ref x)))) kc ks) = F (hOf (sR s q 17 x)) kc ks := pf_11_17 (F := fun h => F h kc ks) h h16
theorem pp_11_18 {s : zS} {q : Nat} {x : Nat} {F : zH → Nat → Nat → Prop} {kc ks : Nat} (h : gD s q = 15) (h16 : 16 ≤ q) : (zob ((hOf s).1 q) 11 fun fs => 16 ≤ q ∧ 18 < fs.length ∧ zfit (zty 11 18) (.ref x) = true ∧ F (zup (hOf s) q (.inr (11 + 1, fs.set 18 (.ref x)))) kc ks) = F (hOf (sR s q 18 x)) kc ks := pf_11_18 (F := fun h => F h kc ks) h h16
theorem pp_11_19 {s : zS} {q : Nat} {x : Int32} {F : zH → Nat → Nat → Prop} {kc ks : Nat} (h : gD s q = 15) (h16 : 16 ≤ q) : (zob ((hOf s).1 q) 11 fun fs => 16 ≤ q ∧ 19 < fs.length ∧ zfit (zty 11 19) (.int x) = true ∧ F (zup (hOf s) q (.inr (11 + 1, fs.set 19 (.int x)))) kc ks) = F (hOf (sI s q 19 x)) kc ks := pf_11_19 (F := fun h => F h kc ks) h h16
theorem pp_11_20 {s : zS} {q : Nat} {x : Nat} {F : zH → Nat → Nat → Prop} {kc ks : Nat} (h : gD s q = 15) (h16 : 16 ≤ q) : (zob ((hOf s).1 q) 11 fun fs => 16 ≤ q ∧ 20 < fs.length ∧ zfit (zty 11 20) (.ref x) = true ∧ F (zup (hOf s) q (.inr (11 + 1, fs.set 20 (.ref x)))) kc ks) = F (hOf (sR s q 20 x)) kc ks := pf_11_20 (F := fun h => F h kc ks) h h16
theorem pp_11_21 {s : zS} {q : Nat} {x : Nat} {F : zH → Nat → Nat → Prop} {kc ks : Nat} (h : gD s q = 15) (h16 : 16 ≤ q) : (zob ((hOf s).1 q) 11 fun fs => 16 ≤ q ∧ 21 < fs.length ∧ zfit (zty 11 21) (.ref x) = true ∧ F (zup (hOf s) q (.inr (11 + 1, fs.set 21 (.ref x)))) kc ks) = F (hOf (sR s q 21 x)) kc ks := pf_11_21 (F := fun h => F h kc ks) h h16
theorem pp_11_22 {s : zS} {q : Nat} {x : Nat} {F : zH → Nat → Nat → Prop} {kc ks : Nat} (h : gD s q = 15) (h16 : 16 ≤ q) : (zob ((hOf s).1 q) 11 fun fs => 16 ≤ q ∧ 22 < fs.length ∧ zfit (zty 11 22) (.ref x) = true ∧ F (zup (hOf s) q (.inr (11 + 1, fs.set 22 (.ref x)))) kc ks) = F (hOf (sR s q 22 x)) kc ks := pf_11_22 (F := fun h => F h kc ks) h h16
theorem pp_11_23 {s : zS} {q : Nat} {x : Nat} {F : zH → Nat → Nat → Prop} {kc ks : Nat} (h : gD s q = 15) (h16 : 16 ≤ q) : (zob ((hOf s).1 q) 11 fun fs => 16 ≤ q ∧ 23 < fs.length ∧ zfit (zty 11 23) (.ref x) = true ∧ F (zup (hOf s) q (.inr (11 + 1, fs.set 23 (.ref x)))) kc ks) = F (hOf (sR s q 23 x)) kc ks := pf_11_23 (F := fun h => F h kc ks) h h16
theorem pp_11_24 {s : zS} {q : Nat} {x : Nat} {F : zH → Nat → Nat → Prop} {kc ks : Nat} (h : gD s q = 15) (h16 : 16 ≤ q) : (zob ((hOf s).1 q) 11 fun fs => 16 ≤ q ∧ 24 < fs.length ∧ zfit (zty 11 24) (.ref x) = true ∧ F (zup (hOf s) q (.inr (11 + 1, fs.set 24 (.ref x)))) kc ks) = F (hOf (sR s q 24 x)) kc ks := pf_11_24 (F := fun h => F h kc ks) h h16
theorem pp_11_25 {s : zS} {q : Nat} {x : Nat} {F : zH → Nat → Nat → Prop} {kc ks : Nat} (h : gD s q = 15) (h16 : 16 ≤ q) : (zob ((hOf s).1 q) 11 fun fs => 16 ≤ q ∧ 25 < fs.length ∧ zfit (zty 11 25) (.ref x) = true ∧ F (zup (hOf s) q (.inr (11 + 1, fs.set 25 (.ref x)))) kc ks) = F (hOf (sR s q 25 x)) kc ks := pf_11_25 (F := fun h => F h kc ks) h h16
theorem pp_11_26 {s : zS} {q : Nat} {x : Nat} {F : zH → Nat → Nat → Prop} {kc ks : Nat} (h : gD s q = 15) (h16 : 16 ≤ q) : (zob ((hOf s).1 q) 11 fun fs => 16 ≤ q ∧ 26 < fs.length ∧ zfit (zty 11 26) (.ref x) = true ∧ F (zup (hOf s) q (.inr (11 + 1, fs.set 26 (.ref x)))) kc ks) = F (hOf (sR s q 26 x)) kc ks := pf_11_26 (F := fun h => F h kc ks) h h16
theorem pp_11_27 {s : zS} {q : Nat} {x : Int32} {F : zH → Nat → Nat → Prop} {kc ks : Nat} (h : gD s q = 15) (h16 : 16 ≤ q) : (zob ((hOf s).1 q) 11 fun fs => 16 ≤ q ∧ 27 < fs.length ∧ zfit (zty 11 27) (.int x) = true ∧ F (zup (hOf s) q (.inr (11 + 1, fs.set 27 (.int x)))) kc ks) = F (hOf (sI s q 27 x)) kc ks := pf_11_27 (F := fun h => F h kc ks) h h16
theorem pp_11_28 {s : zS} {q : Nat} {x : Int32} {F : zH → Nat → Nat → Prop} {kc ks : Nat} (h : gD s q = 15) (h16 : 16 ≤ q) : (zob ((hOf s).1 q) 11 fun fs => 16 ≤ q ∧ 28 < fs.length ∧ zfit (zty 11 28) (.int x) = true ∧ F (zup (hOf s) q (.inr (11 + 1, fs.set 28 (.int x)))) kc ks) = F (hOf (sI s q 28 x)) kc ks := pf_11_28 (F := fun h => F h kc ks) h h16
theorem pp_11_29 {s : zS} {q : Nat} {x : Int32} {F : zH → Nat → Nat → Prop} {kc ks : Nat} (h : gD s q = 15) (h16 : 16 ≤ q) : (zob ((hOf s).1 q) 11 fun fs => 16 ≤ q ∧ 29 < fs.length ∧ zfit (zty 11 29) (.int x) = true ∧ F (zup (hOf s) q (.inr (11 + 1, fs.set 29 (.int x)))) kc ks) = F (hOf (sI s q 29 x)) kc ks := pf_11_29 (F := fun h => F h kc ks) h h16
theorem pp_11_30 {s : zS} {q : Nat} {x : Nat} {F : zH → Nat → Nat → Prop} {kc ks : Nat} (h : gD s q = 15) (h16 : 16 ≤ q) : (zob ((hOf s).1 q) 11 fun fs => 16 ≤ q ∧ 30 < fs.length ∧ zfit (zty 11 30) (.ref x) = true ∧ F (zup (hOf s) q (.inr (11 + 1, fs.set 30 (.ref x)))) kc ks) = F (hOf (sR s q 30 x)) kc ks := pf_11_30 (F := fun h => F h kc ks) h h16
theorem pp_11_31 {s : zS} {q : Nat} {x : Nat} {F : zH → Nat → Nat → Prop} {kc ks : Nat} (h : gD s q = 15) (h16 : 16 ≤ q) : (zob ((hOf s).1 q) 11 fun fs => 16 ≤ q ∧ 31 < fs.length ∧ zfit (zty 11 31) (.ref x) = true ∧ F (zup (hOf s) q (.inr (11 + 1, fs.set 31 (.ref x)))) kc ks) = F (hOf (sR s q 31 x)) kc ks := pf_11_31 (F := fun h => F h kc ks) h h16
theorem pp_11_32 {s : zS} {q : Nat} {x : Nat} {F : zH → Nat → Nat → Prop} {kc ks : Nat} (h : gD s q = 15) (h16 : 16 ≤ q) : (zob ((hOf s).1 q) 11 fun fs => 16 ≤ q ∧ 32 < fs.length ∧ zfit (zty 11 32) (.ref x) = true ∧ F (zup (hOf s) q (.inr (11 + 1, fs.set 32 (.ref x)))) kc ks) = F (hOf (sR s q 32 x)) kc ks := pf_11_32 (F := fun h => F h kc ks) h h16
theorem pp_11_33 {s : zS} {q : Nat} {x : Int32} {F : zH → Nat → Nat → Prop} {kc ks : Nat} (h : gD s q = 15) (h16 : 16 ≤ q) : (zob ((hOf s).1 q) 11 fun fs => 16 ≤ q ∧ 33 < fs.length ∧ zfit (zty 11 33) (.int x) = true ∧ F (zup (hOf s) q (.inr (11 + 1, fs.set 33 (.int x)))) kc ks) = F (hOf (sI s q 33 x)) kc ks := pf_11_33 (F := fun h => F h kc ks) h h16
theorem pp_11_34 {s : zS} {q : Nat} {x : Int32} {F : zH → Nat → Nat → Prop} {kc ks : Nat} (h : gD s q = 15) (h16 : 16 ≤ q) : (zob ((hOf s).1 q) 11 fun fs => 16 ≤ q ∧ 34 < fs.length ∧ zfit (zty 11 34) (.int x) = true ∧ F (zup (hOf s) q (.inr (11 + 1, fs.set 34 (.int x)))) kc ks) = F (hOf (sI s q 34 x)) kc ks := pf_11_34 (F := fun h => F h kc ks) h h16
theorem pp_11_35 {s : zS} {q : Nat} {x : Int32} {F : zH → Nat → Nat → Prop} {kc ks : Nat} (h : gD s q = 15) (h16 : 16 ≤ q) : (zob ((hOf s).1 q) 11 fun fs => 16 ≤ q ∧ 35 < fs.length ∧ zfit (zty 11 35) (.int x) = true ∧ F (zup (hOf s) q (.inr (11 + 1, fs.set 35 (.int x)))) kc ks) = F (hOf (sI s q 35 x)) kc ks := pf_11_35 (F := fun h => F h kc ks) h h16
theorem pp_11_36 {s : zS} {q : Nat} {x : Nat} {F : zH → Nat → Nat → Prop} {kc ks : Nat} (h : gD s q = 15) (h16 : 16 ≤ q) : (zob ((hOf s).1 q) 11 fun fs => 16 ≤ q ∧ 36 < fs.length ∧ zfit (zty 11 36) (.ref x) = true ∧ F (zup (hOf s) q (.inr (11 + 1, fs.set 36 (.ref x)))) kc ks) = F (hOf (sR s q 36 x)) kc ks := pf_11_36 (F := fun h => F h kc ks) h h16
theorem pp_11_37 {s : zS} {q : Nat} {x : Nat} {F : zH → Nat → Nat → Prop} {kc ks : Nat} (h : gD s q = 15) (h16 : 16 ≤ q) : (zob ((hOf s).1 q) 11 fun fs => 16 ≤ q ∧ 37 < fs.length ∧ zfit (zty 11 37) (.ref x) = true ∧ F (zup (hOf s) q (.inr (11 + 1, fs.set 37 (.ref x)))) kc ks) = F (hOf (sR s q 37 x)) kc ks := pf_11_37 (F := fun h => F h kc ks) h h16
theorem pp_11_38 {s : zS} {q : Nat} {x : Nat} {F : zH → Nat → Nat → Prop} {kc ks : Nat} (h : gD s q = 15) (h16 : 16 ≤ q) : (zob ((hOf s).1 q) 11 fun fs => 16 ≤ q ∧ 38 < fs.length ∧ zfit (zty 11 38) (.ref x) = true ∧ F (zup (hOf s) q (.inr (11 + 1, fs.set 38 (.ref x)))) kc ks) = F (hOf (sR s q 38 x)) kc ks := pf_11_38 (F := fun h => F h kc ks) h h16
theorem pp_11_39 {s : zS} {q : Nat} {x : Nat} {F : zH → Nat → Nat → Prop} {kc ks : Nat} (h : gD s q = 15) (h16 : 16 ≤ q) : (zob ((hOf s).1 q) 11 fun fs => 16 ≤ q ∧ 39 < fs.length ∧ zfit (zty 11 39) (.ref x) = true ∧ F (zup (hOf s) q (.inr (11 + 1, fs.set 39 (.ref x)))) kc ks) = F (hOf (sR s q 39 x)) kc ks := pf_11_39 (F := fun h => F h kc ks) h h16
theorem pp_11_40 {s : zS} {q : Nat} {x : Nat} {F : zH → Nat → Nat → Prop} {kc ks : Nat} (h : gD s q = 15) (h16 : 16 ≤ q) : (zob ((hOf s).1 q) 11 fun fs => 16 ≤ q ∧ 40 < fs.length ∧ zfit (zty 11 40) (.ref x) = true ∧ F (zup (hOf s) q (.inr (11 + 1, fs.set 40 (.ref x)))) kc ks) = F (hOf (sR s q 40 x)) kc ks := pf_11_40 (F := fun h => F h kc ks) h h16
theorem pp_11_41 {s : zS} {q : Nat} {x : Nat} {F : zH → Nat → Nat → Prop} {kc ks : Nat} (h : gD s q = 15) (h16 : 16 ≤ q) : (zob ((hOf s).1 q) 11 fun fs => 16 ≤ q ∧ 41 < fs.length ∧ zfit (zty 11 41) (.ref x) = true ∧ F (zup (hOf s) q (.inr (11 + 1, fs.set 41 (.ref x)))) kc ks) = F (hOf (sR s q 41 x)) kc ks := pf_11_41 (F := fun h => F h kc ks) h h16
theorem pp_11_42 {s : zS} {q : Nat} {x : Nat} {F : zH → Nat → Nat → Prop} {kc ks : Nat} (h : gD s q = 15) (h16 : 16 ≤ q) : (zob ((hOf s).1 q) 11 fun fs => 16 ≤ q ∧ 42 < fs.length ∧ zfit (zty 11 42) (.ref x) = true ∧ F (zup (hOf s) q (.inr (11 + 1, fs.set 42 (.ref x)))) kc ks) = F (hOf (sR s q 42 x)) kc ks := pf_11_42 (F := fun h => F h kc ks) h h16
theorem pp_11_43 {s : zS} {q : Nat} {x : Int32} {F : zH → Nat → Nat → Prop} {kc ks : Nat} (h : gD s q = 15) (h16 : 16 ≤ q) : (zob ((hOf s).1 q) 11 fun fs => 16 ≤ q ∧ 43 < fs.length ∧ zfit (zty 11 43) (.int x) = true ∧ F (zup (hOf s) q (.inr (11 + 1, fs.set 43 (.int x)))) kc ks) = F (hOf (sI s q 43 x)) kc ks := pf_11_43 (F := fun h => F h kc ks) h h16
theorem pp_11_44 {s : zS} {q : Nat} {x : Nat} {F : zH → Nat → Nat → Prop} {kc ks : Nat} (h : gD s q = 15) (h16 : 16 ≤ q) : (zob ((hOf s).1 q) 11 fun fs => 16 ≤ q ∧ 44 < fs.length ∧ zfit (zty 11 44) (.ref x) = true ∧ F (zup (hOf s) q (.inr (11 + 1, fs.set 44 (.ref x)))) kc ks) = F (hOf (sR s q 44 x)) kc ks := pf_11_44 (F := fun h => F h kc ks) h h16
theorem pp_11_45 {s : zS} {q : Nat} {x : Int32} {F : zH → Nat → Nat → Prop} {kc ks : Nat} (h : gD s q = 15) (h16 : 16 ≤ q) : (zob ((hOf s).1 q) 11 fun fs => 16 ≤ q ∧ 45 < fs.length ∧ zfit (zty 11 45) (.int x) = true ∧ F (zup (hOf s) q (.inr (11 + 1, fs.set 45 (.int x)))) kc ks) = F (hOf (sI s q 45 x)) kc ks := pf_11_45 (F := fun h => F h kc ks) h h16
theorem pp_11_46 {s : zS} {q : Nat} {x : Nat} {F : zH → Nat → Nat → Prop} {kc ks : Nat} (h : gD s q = 15) (h16 : 16 ≤ q) : (zob ((hOf s).1 q) 11 fun fs => 16 ≤ q ∧ 46 < fs.length ∧ zfit (zty 11 46) (.ref x) = true ∧ F (zup (hOf s) q (.inr (11 + 1, fs.set 46 (.ref x)))) kc ks) = F (hOf (sR s q 46 x)) kc ks := pf_11_46 (F := fun h => F h kc ks) h h16
theorem pp_11_47 {s : zS} {q : Nat} {x : Nat} {F : zH → Nat → Nat → Prop} {kc ks : Nat} (h : gD s q = 15) (h16 : 16 ≤ q) : (zob ((hOf s).1 q) 11 fun fs => 16 ≤ q ∧ 47 < fs.length ∧ zfit (zty 11 47) (.ref x) = true ∧ F (zup (hOf s) q (.inr (11 + 1, fs.set 47 (.ref x)))) kc ks) = F (hOf (sR s q 47 x)) kc ks := pf_11_47 (F := fun h => F h kc ks) h h16
theorem pp_11_48 {s : zS} {q : Nat} {x : Nat} {F : zH → Nat → Nat → Prop} {kc ks : Nat} (h : gD s q = 15) (h16 : 16 ≤ q) : (zob ((hOf s).1 q) 11 fun fs => 16 ≤ q ∧ 48 < fs.length ∧ zfit (zty 11 48) (.ref x) = true ∧ F (zup (hOf s) q (.inr (11 + 1, fs.set 48 (.ref x)))) kc ks) = F (hOf (sR s q 48 x)) kc ks := pf_11_48 (F := fun h => F h kc ks) h h16
theorem pp_11_49 {s : zS} {q : Nat} {x : Nat} {F : zH → Nat → Nat → Prop} {kc ks : Nat} (h : gD s q = 15) (h16 : 16 ≤ q) : (zob ((hOf s).1 q) 11 fun fs => 16 ≤ q ∧ 49 < fs.length ∧ zfit (zty 11 49) (.ref x) = true ∧ F (zup (hOf s) q (.inr (11 + 1, fs.set 49 (.ref x)))) kc ks) = F (hOf (sR s q 49 x)) kc ks := pf_11_49 (F := fun h => F h kc ks) h h16
theorem pp_11_50 {s : zS} {q : Nat} {x : Nat} {F : zH → Nat → Nat → Prop} {kc ks : Nat} (h : gD s q = 15) (h16 : 16 ≤ q) : (zob ((hOf s).1 q) 11 fun fs => 16 ≤ q ∧ 50 < fs.length ∧ zfit (zty 11 50) (.ref x) = true ∧ F (zup (hOf s) q (.inr (11 + 1, fs.set 50 (.ref x)))) kc ks) = F (hOf (sR s q 50 x)) kc ks := pf_11_50 (F := fun h => F h kc ks) h h16
theorem pp_11_51 {s : zS} {q : Nat} {x : Nat} {F : zH → Nat → Nat → Prop} {kc ks : Nat} (h : gD s q = 15) (h16 : 16 ≤ q) : (zob ((hOf s).1 q) 11 fun fs => 16 ≤ q ∧ 51 < fs.length ∧ zfit (zty 11 51) (.ref x) = true ∧ F (zup (hOf s) q (.inr (11 + 1, fs.set 51 (.ref x)))) kc ks) = F (hOf (sR s q 51 x)) kc ks := pf_11_51 (F := fun h => F h kc ks) h h16
theorem pp_11_52 {s : zS} {q : Nat} {x : Nat} {F : zH → Nat → Nat → Prop} {kc ks : Nat} (h : gD s q = 15) (h16 : 16 ≤ q) : (zob ((hOf s).1 q) 11 fun fs => 16 ≤ q ∧ 52 < fs.length ∧ zfit (zty 11 52) (.ref x) = true ∧ F (zup (hOf s) q (.inr (11 + 1, fs.set 52 (.ref x)))) kc ks) = F (hOf (sR s q 52 x)) kc ks := pf_11_52 (F := fun h => F h kc ks) h h16
theorem pp_11_53 {s : zS} {q : Nat} {x : Nat} {F : zH → Nat → Nat → Prop} {kc ks : Nat} (h : gD s q = 15) (h16 : 16 ≤ q) : (zob ((hOf s).1 q) 11 fun fs => 16 ≤ q ∧ 53 < fs.length ∧ zfit (zty 11 53) (.ref x) = true ∧ F (zup (hOf s) q (.inr (11 + 1, fs.set 53 (.ref x)))) kc ks) = F (hOf (sR s q 53 x)) kc ks := pf_11_53 (F := fun h => F h kc ks) h h16
theorem pp_11_54 {s : zS} {q : Nat} {x : Int32} {F : zH → Nat → Nat → Prop} {kc ks : Nat} (h : gD s q = 15) (h16 : 16 ≤ q) : (zob ((hOf s).1 q) 11 fun fs => 16 ≤ q ∧ 54 < fs.length ∧ zfit (zty 11 54) (.int x) = true ∧ F (zup (hOf s) q (.inr (11 + 1, fs.set 54 (.int x)))) kc ks) = F (hOf (sI s q 54 x)) kc ks := pf_11_54 (F := fun h => F h kc ks) h h16
theorem pp_11_55 {s : zS} {q : Nat} {x : Int32} {F : zH → Nat → Nat → Prop} {kc ks : Nat} (h : gD s q = 15) (h16 : 16 ≤ q) : (zob ((hOf s).1 q) 11 fun fs => 16 ≤ q ∧ 55 < fs.length ∧ zfit (zty 11 55) (.int x) = true ∧ F (zup (hOf s) q (.inr (11 + 1, fs.set 55 (.int x)))) kc ks) = F (hOf (sI s q 55 x)) kc ks := pf_11_55 (F := fun h => F h kc ks) h h16
theorem pp_11_56 {s : zS} {q : Nat} {x : Int32} {F : zH → Nat → Nat → Prop} {kc ks : Nat} (h : gD s q = 15) (h16 : 16 ≤ q) : (zob ((hOf s).1 q) 11 fun fs => 16 ≤ q ∧ 56 < fs.length ∧ zfit (zty 11 56) (.int x) = true ∧ F (zup (hOf s) q (.inr (11 + 1, fs.set 56 (.int x)))) kc ks) = F (hOf (sI s q 56 x)) kc ks := pf_11_56 (F := fun h => F h kc ks) h h16
theorem pp_11_57 {s : zS} {q : Nat} {x : Int64} {F : zH → Nat → Nat → Prop} {kc ks : Nat} (h : gD s q = 15) (h16 : 16 ≤ q) : (zob ((hOf s).1 q) 11 fun fs => 16 ≤ q ∧ 57 < fs.length ∧ zfit (zty 11 57) (.long x) = true ∧ F (zup (hOf s) q (.inr (11 + 1, fs.set 57 (.long x)))) kc ks) = F (hOf (sJ s q 57 x)) kc ks := pf_11_57 (F := fun h => F h kc ks) h h16
theorem pp_11_58 {s : zS} {q : Nat} {x : Int32} {F : zH → Nat → Nat → Prop} {kc ks : Nat} (h : gD s q = 15) (h16 : 16 ≤ q) : (zob ((hOf s).1 q) 11 fun fs => 16 ≤ q ∧ 58 < fs.length ∧ zfit (zty 11 58) (.int x) = true ∧ F (zup (hOf s) q (.inr (11 + 1, fs.set 58 (.int x)))) kc ks) = F (hOf (sI s q 58 x)) kc ks := pf_11_58 (F := fun h => F h kc ks) h h16
theorem pp_11_59 {s : zS} {q : Nat} {x : Int32} {F : zH → Nat → Nat → Prop} {kc ks : Nat} (h : gD s q = 15) (h16 : 16 ≤ q) : (zob ((hOf s).1 q) 11 fun fs => 16 ≤ q ∧ 59 < fs.length ∧ zfit (zty 11 59) (.int x) = true ∧ F (zup (hOf s) q (.inr (11 + 1, fs.set 59 (.int x)))) kc ks) = F (hOf (sI s q 59 x)) kc ks := pf_11_59 (F := fun h => F h kc ks) h h16
theorem gv_11 {s : zS} {q : Nat} {F : Prop} (h : gD s q = 15) : (zob ((hOf s).1 q) 11 fun _ => F) = F := by
  rw [zob_c (c := 11) h]
theorem ar_c {s : zS} {q : Nat} {j : Int32} {F : Value → Prop} (h : gD s q = 3) : (zaR ((hOf s).1 q) fun n f => vp_in j n ∧ F (va_rf (f j.toNatClampNeg))) = (vp_in j (gN s q) ∧ F (.ref (q + 1 + j.toNatClampNeg))) := by
  rw [zaR_c h]
  apply propext
  constructor
  · intro z
    have h2 : j.toNatClampNeg < gN s q := by
      have := z.1
      unfold vp_in at this
      omega
    have h3 : F (va_rf (if j.toNatClampNeg < gN s q then some (q + 1 + j.toNatClampNeg) else none)) := z.2
    rw [if_pos h2] at h3
    exact ⟨z.1, h3⟩
  · intro z
    have h2 : j.toNatClampNeg < gN s q := by
      have := z.1
      unfold vp_in at this
      omega
    refine ⟨z.1, ?_⟩
    show F (va_rf (if j.toNatClampNeg < gN s q then some (q + 1 + j.toNatClampNeg) else none))
    rw [if_pos h2]
    exact z.2
theorem ar_k {s : zS} {q : Nat} {j : Int32} {F : zL → List Value → zH → Nat → Nat → Prop} {L : zL} {S : List Value} {h2 : zH} {kc ks : Nat} (h : gD s q = 3) : (zaR ((hOf s).1 q) fun n f => vp_in j n ∧ F L (va_rf (f j.toNatClampNeg) :: S) h2 kc ks) = (vp_in j (gN s q) ∧ F L (.ref (q + 1 + j.toNatClampNeg) :: S) h2 kc ks) := ar_c (F := fun v => F L (v :: S) h2 kc ks) h
theorem stI {s : zS} {q : Nat} {j x : Int32} {F : zH → Nat → Nat → Prop} {kc ks : Nat} (h : gD s q = 1) (h16 : 16 ≤ q) : (zaI ((hOf s).1 q) fun n f => 16 ≤ q ∧ vp_in j n ∧ F (zup (hOf s) q (.inl (0, n, .inl (upd f j.toNatClampNeg x)))) kc ks) = (vp_in j (gN s q) ∧ F (hOf (sA s q (upd (gA s q) j.toNatClampNeg x))) kc ks) := sa_c (n := 0) (F := fun h => F h kc ks) h h16
theorem stL {s : zS} {q : Nat} {j : Int32} {x : Int64} {F : zH → Nat → Nat → Prop} {kc ks : Nat} (h : gD s q = 2) (h16 : 16 ≤ q) : (zaL ((hOf s).1 q) fun n f => 16 ≤ q ∧ vp_in j n ∧ F (zup (hOf s) q (.inl (1, n, .inr (.inl (vp_updL f j.toNatClampNeg x))))) kc ks) = (vp_in j (gN s q) ∧ F (hOf (sB s q (vp_updL (gB s q) j.toNatClampNeg x))) kc ks) := sb_c (n := 0) (F := fun h => F h kc ks) h h16
def LChanges (σ : zS) : Prop := gD σ 48 = 4 ∧ gR σ 48 1 = 49 ∧ gD σ 49 = 1 ∧ gN σ 49 = 200 ∧ gR σ 48 2 = 50 ∧ gD σ 50 = 1 ∧ gN σ 50 = 200 ∧ gR σ 48 3 = 51 ∧ gD σ 51 = 1 ∧ gN σ 51 = 200
theorem LChanges_d {σ : zS} (h : LChanges σ) : gD σ 48 = 4 := h.1
theorem LChanges_r1 {σ : zS} (h : LChanges σ) : gR σ 48 1 = 49 := h.2.1
theorem LChanges_k1 {σ : zS} (h : LChanges σ) : gD σ 49 = 1 := h.2.2.1
theorem LChanges_n1 {σ : zS} (h : LChanges σ) : gN σ 49 = 200 := h.2.2.2.1
theorem LChanges_r2 {σ : zS} (h : LChanges σ) : gR σ 48 2 = 50 := h.2.2.2.2.1
theorem LChanges_k2 {σ : zS} (h : LChanges σ) : gD σ 50 = 1 := h.2.2.2.2.2.1
theorem LChanges_n2 {σ : zS} (h : LChanges σ) : gN σ 50 = 200 := h.2.2.2.2.2.2.1
theorem LChanges_r3 {σ : zS} (h : LChanges σ) : gR σ 48 3 = 51 := h.2.2.2.2.2.2.2.1
theorem LChanges_k3 {σ : zS} (h : LChanges σ) : gD σ 51 = 1 := h.2.2.2.2.2.2.2.2.1
theorem LChanges_n3 {σ : zS} (h : LChanges σ) : gN σ 51 = 200 := h.2.2.2.2.2.2.2.2.2
def LChoices (σ : zS) : Prop := gD σ 59 = 5 ∧ gR σ 59 3 = 60 ∧ gD σ 60 = 1 ∧ gN σ 60 = 14 ∧ gR σ 59 4 = 61 ∧ gD σ 61 = 1 ∧ gN σ 61 = 14 ∧ gR σ 59 5 = 62 ∧ gD σ 62 = 2 ∧ gN σ 62 = 48
theorem LChoices_d {σ : zS} (h : LChoices σ) : gD σ 59 = 5 := h.1
theorem LChoices_r3 {σ : zS} (h : LChoices σ) : gR σ 59 3 = 60 := h.2.1
theorem LChoices_k3 {σ : zS} (h : LChoices σ) : gD σ 60 = 1 := h.2.2.1
theorem LChoices_n3 {σ : zS} (h : LChoices σ) : gN σ 60 = 14 := h.2.2.2.1
theorem LChoices_r4 {σ : zS} (h : LChoices σ) : gR σ 59 4 = 61 := h.2.2.2.2.1
theorem LChoices_k4 {σ : zS} (h : LChoices σ) : gD σ 61 = 1 := h.2.2.2.2.2.1
theorem LChoices_n4 {σ : zS} (h : LChoices σ) : gN σ 61 = 14 := h.2.2.2.2.2.2.1
theorem LChoices_r5 {σ : zS} (h : LChoices σ) : gR σ 59 5 = 62 := h.2.2.2.2.2.2.2.1
theorem LChoices_k5 {σ : zS} (h : LChoices σ) : gD σ 62 = 2 := h.2.2.2.2.2.2.2.2.1
theorem LChoices_n5 {σ : zS} (h : LChoices σ) : gN σ 62 = 48 := h.2.2.2.2.2.2.2.2.2
def LImages (σ : zS) : Prop := gD σ 84 = 6 ∧ gR σ 84 1 = 85 ∧ gD σ 85 = 1 ∧ gN σ 85 = 3 ∧ gR σ 84 2 = 86 ∧ gD σ 86 = 1 ∧ gN σ 86 = 3 ∧ gR σ 84 3 = 87 ∧ gD σ 87 = 1 ∧ gN σ 87 = 36
theorem LImages_d {σ : zS} (h : LImages σ) : gD σ 84 = 6 := h.1
theorem LImages_r1 {σ : zS} (h : LImages σ) : gR σ 84 1 = 85 := h.2.1
theorem LImages_k1 {σ : zS} (h : LImages σ) : gD σ 85 = 1 := h.2.2.1
theorem LImages_n1 {σ : zS} (h : LImages σ) : gN σ 85 = 3 := h.2.2.2.1
theorem LImages_r2 {σ : zS} (h : LImages σ) : gR σ 84 2 = 86 := h.2.2.2.2.1
theorem LImages_k2 {σ : zS} (h : LImages σ) : gD σ 86 = 1 := h.2.2.2.2.2.1
theorem LImages_n2 {σ : zS} (h : LImages σ) : gN σ 86 = 3 := h.2.2.2.2.2.2.1
theorem LImages_r3 {σ : zS} (h : LImages σ) : gR σ 84 3 = 87 := h.2.2.2.2.2.2.2.1
theorem LImages_k3 {σ : zS} (h : LImages σ) : gD σ 87 = 1 := h.2.2.2.2.2.2.2.2.1
theorem LImages_n3 {σ : zS} (h : LImages σ) : gN σ 87 = 36 := h.2.2.2.2.2.2.2.2.2
def LPost (σ : zS) : Prop := gD σ 63 = 7 ∧ gR σ 63 2 = 66 ∧ gD σ 66 = 1 ∧ gN σ 66 = 11 ∧ gR σ 63 4 = 67 ∧ gD σ 67 = 1 ∧ gN σ 67 = 48 ∧ gR σ 63 5 = 68 ∧ gD σ 68 = 1 ∧ gN σ 68 = 48
theorem LPost_d {σ : zS} (h : LPost σ) : gD σ 63 = 7 := h.1
theorem LPost_r2 {σ : zS} (h : LPost σ) : gR σ 63 2 = 66 := h.2.1
theorem LPost_k2 {σ : zS} (h : LPost σ) : gD σ 66 = 1 := h.2.2.1
theorem LPost_n2 {σ : zS} (h : LPost σ) : gN σ 66 = 11 := h.2.2.2.1
theorem LPost_r4 {σ : zS} (h : LPost σ) : gR σ 63 4 = 67 := h.2.2.2.2.1
theorem LPost_k4 {σ : zS} (h : LPost σ) : gD σ 67 = 1 := h.2.2.2.2.2.1
theorem LPost_n4 {σ : zS} (h : LPost σ) : gN σ 67 = 48 := h.2.2.2.2.2.2.1
theorem LPost_r5 {σ : zS} (h : LPost σ) : gR σ 63 5 = 68 := h.2.2.2.2.2.2.2.1
theorem LPost_k5 {σ : zS} (h : LPost σ) : gD σ 68 = 1 := h.2.2.2.2.2.2.2.2.1
theorem LPost_n5 {σ : zS} (h : LPost σ) : gN σ 68 = 48 := h.2.2.2.2.2.2.2.2.2
def LRoutes (σ : zS) : Prop := gD σ 56 = 9 ∧ gR σ 56 0 = 57 ∧ gD σ 57 = 1 ∧ gN σ 57 = 48 ∧ gR σ 56 1 = 58 ∧ gD σ 58 = 1 ∧ gN σ 58 = 48
theorem LRoutes_d {σ : zS} (h : LRoutes σ) : gD σ 56 = 9 := h.1
theorem LRoutes_r0 {σ : zS} (h : LRoutes σ) : gR σ 56 0 = 57 := h.2.1
theorem LRoutes_k0 {σ : zS} (h : LRoutes σ) : gD σ 57 = 1 := h.2.2.1
theorem LRoutes_n0 {σ : zS} (h : LRoutes σ) : gN σ 57 = 48 := h.2.2.2.1
theorem LRoutes_r1 {σ : zS} (h : LRoutes σ) : gR σ 56 1 = 58 := h.2.2.2.2.1
theorem LRoutes_k1 {σ : zS} (h : LRoutes σ) : gD σ 58 = 1 := h.2.2.2.2.2.1
theorem LRoutes_n1 {σ : zS} (h : LRoutes σ) : gN σ 58 = 48 := h.2.2.2.2.2.2
def LRules (σ : zS) : Prop := gD σ 52 = 10 ∧ gR σ 52 0 = 53 ∧ gD σ 53 = 2 ∧ gN σ 53 = 24 ∧ gR σ 52 1 = 54 ∧ gD σ 54 = 2 ∧ gN σ 54 = 24 ∧ gR σ 52 2 = 55 ∧ gD σ 55 = 2 ∧ gN σ 55 = 48
theorem LRules_d {σ : zS} (h : LRules σ) : gD σ 52 = 10 := h.1
theorem LRules_r0 {σ : zS} (h : LRules σ) : gR σ 52 0 = 53 := h.2.1
theorem LRules_k0 {σ : zS} (h : LRules σ) : gD σ 53 = 2 := h.2.2.1
theorem LRules_n0 {σ : zS} (h : LRules σ) : gN σ 53 = 24 := h.2.2.2.1
theorem LRules_r1 {σ : zS} (h : LRules σ) : gR σ 52 1 = 54 := h.2.2.2.2.1
theorem LRules_k1 {σ : zS} (h : LRules σ) : gD σ 54 = 2 := h.2.2.2.2.2.1
theorem LRules_n1 {σ : zS} (h : LRules σ) : gN σ 54 = 24 := h.2.2.2.2.2.2.1
theorem LRules_r2 {σ : zS} (h : LRules σ) : gR σ 52 2 = 55 := h.2.2.2.2.2.2.2.1
theorem LRules_k2 {σ : zS} (h : LRules σ) : gD σ 55 = 2 := h.2.2.2.2.2.2.2.2.1
theorem LRules_n2 {σ : zS} (h : LRules σ) : gN σ 55 = 48 := h.2.2.2.2.2.2.2.2.2
def LStory (σ : zS) : Prop := gD σ 79 = 11 ∧ gR σ 79 1 = 80 ∧ gD σ 80 = 1 ∧ gN σ 80 = 12 ∧ gR σ 79 2 = 81 ∧ gD σ 81 = 1 ∧ gN σ 81 = 576 ∧ gR σ 79 3 = 82 ∧ gD σ 82 = 2 ∧ gN σ 82 = 48 ∧ gR σ 79 4 = 83 ∧ gD σ 83 = 1 ∧ gN σ 83 = 12
theorem LStory_d {σ : zS} (h : LStory σ) : gD σ 79 = 11 := h.1
theorem LStory_r1 {σ : zS} (h : LStory σ) : gR σ 79 1 = 80 := h.2.1
theorem LStory_k1 {σ : zS} (h : LStory σ) : gD σ 80 = 1 := h.2.2.1
theorem LStory_n1 {σ : zS} (h : LStory σ) : gN σ 80 = 12 := h.2.2.2.1
theorem LStory_r2 {σ : zS} (h : LStory σ) : gR σ 79 2 = 81 := h.2.2.2.2.1
theorem LStory_k2 {σ : zS} (h : LStory σ) : gD σ 81 = 1 := h.2.2.2.2.2.1
theorem LStory_n2 {σ : zS} (h : LStory σ) : gN σ 81 = 576 := h.2.2.2.2.2.2.1
theorem LStory_r3 {σ : zS} (h : LStory σ) : gR σ 79 3 = 82 := h.2.2.2.2.2.2.2.1
theorem LStory_k3 {σ : zS} (h : LStory σ) : gD σ 82 = 2 := h.2.2.2.2.2.2.2.2.1
theorem LStory_n3 {σ : zS} (h : LStory σ) : gN σ 82 = 48 := h.2.2.2.2.2.2.2.2.2.1
theorem LStory_r4 {σ : zS} (h : LStory σ) : gR σ 79 4 = 83 := h.2.2.2.2.2.2.2.2.2.2.1
theorem LStory_k4 {σ : zS} (h : LStory σ) : gD σ 83 = 1 := h.2.2.2.2.2.2.2.2.2.2.2.1
theorem LStory_n4 {σ : zS} (h : LStory σ) : gN σ 83 = 12 := h.2.2.2.2.2.2.2.2.2.2.2.2
def LTown (σ : zS) (q : Nat) : Prop := 16 ≤ q ∧ gD σ q = 12 ∧ gR σ q 6 = q + 1 ∧ gD σ (q + 1) = 1 ∧ gN σ (q + 1) = 16 ∧ gR σ q 7 = q + 2 ∧ gD σ (q + 2) = 1 ∧ gN σ (q + 2) = 16 ∧ gR σ q 8 = q + 3 ∧ gD σ (q + 3) = 1 ∧ gN σ (q + 3) = 48 ∧ gR σ q 9 = q + 4 ∧ gD σ (q + 4) = 1 ∧ gN σ (q + 4) = 48 ∧ gR σ q 10 = q + 5 ∧ gD σ (q + 5) = 1 ∧ gN σ (q + 5) = 48 ∧ gR σ q 11 = q + 6 ∧ gD σ (q + 6) = 2 ∧ gN σ (q + 6) = 24 ∧ gR σ q 12 = q + 7 ∧ gD σ (q + 7) = 2 ∧ gN σ (q + 7) = 24 ∧ gR σ q 13 = q + 8 ∧ gD σ (q + 8) = 1 ∧ gN σ (q + 8) = 36 ∧ gR σ q 14 = q + 9 ∧ gD σ (q + 9) = 2 ∧ gN σ (q + 9) = 16 ∧ gR σ q 15 = q + 10 ∧ gD σ (q + 10) = 2 ∧ gN σ (q + 10) = 16 ∧ gR σ q 16 = q + 11 ∧ gD σ (q + 11) = 2 ∧ gN σ (q + 11) = 48 ∧ gR σ q 17 = q + 12 ∧ gD σ (q + 12) = 2 ∧ gN σ (q + 12) = 48 ∧ gR σ q 18 = q + 13 ∧ gD σ (q + 13) = 1 ∧ gN σ (q + 13) = 552
theorem LTown_g {σ : zS} {q : Nat} (h : LTown σ q) : 16 ≤ q := h.1
theorem LTown_d {σ : zS} {q : Nat} (h : LTown σ q) : gD σ q = 12 := h.2.1
theorem LTown_r6 {σ : zS} {q : Nat} (h : LTown σ q) : gR σ q 6 = q + 1 := h.2.2.1
theorem LTown_k6 {σ : zS} {q : Nat} (h : LTown σ q) : gD σ (q + 1) = 1 := h.2.2.2.1
theorem LTown_n6 {σ : zS} {q : Nat} (h : LTown σ q) : gN σ (q + 1) = 16 := h.2.2.2.2.1
theorem LTown_r7 {σ : zS} {q : Nat} (h : LTown σ q) : gR σ q 7 = q + 2 := h.2.2.2.2.2.1
theorem LTown_k7 {σ : zS} {q : Nat} (h : LTown σ q) : gD σ (q + 2) = 1 := h.2.2.2.2.2.2.1
theorem LTown_n7 {σ : zS} {q : Nat} (h : LTown σ q) : gN σ (q + 2) = 16 := h.2.2.2.2.2.2.2.1
theorem LTown_r8 {σ : zS} {q : Nat} (h : LTown σ q) : gR σ q 8 = q + 3 := h.2.2.2.2.2.2.2.2.1
theorem LTown_k8 {σ : zS} {q : Nat} (h : LTown σ q) : gD σ (q + 3) = 1 := h.2.2.2.2.2.2.2.2.2.1
theorem LTown_n8 {σ : zS} {q : Nat} (h : LTown σ q) : gN σ (q + 3) = 48 := h.2.2.2.2.2.2.2.2.2.2.1
theorem LTown_r9 {σ : zS} {q : Nat} (h : LTown σ q) : gR σ q 9 = q + 4 := h.2.2.2.2.2.2.2.2.2.2.2.1
theorem LTown_k9 {σ : zS} {q : Nat} (h : LTown σ q) : gD σ (q + 4) = 1 := h.2.2.2.2.2.2.2.2.2.2.2.2.1
theorem LTown_n9 {σ : zS} {q : Nat} (h : LTown σ q) : gN σ (q + 4) = 48 := h.2.2.2.2.2.2.2.2.2.2.2.2.2.1
theorem LTown_r10 {σ : zS} {q : Nat} (h : LTown σ q) : gR σ q 10 = q + 5 := h.2.2.2.2.2.2.2.2.2.2.2.2.2.2.1
theorem LTown_k10 {σ : zS} {q : Nat} (h : LTown σ q) : gD σ (q + 5) = 1 := h.2.2.2.2.2.2.2.2.2.2.2.2.2.2.2.1
theorem LTown_n10 {σ : zS} {q : Nat} (h : LTown σ q) : gN σ (q + 5) = 48 := h.2.2.2.2.2.2.2.2.2.2.2.2.2.2.2.2.1
theorem LTown_r11 {σ : zS} {q : Nat} (h : LTown σ q) : gR σ q 11 = q + 6 := h.2.2.2.2.2.2.2.2.2.2.2.2.2.2.2.2.2.1
theorem LTown_k11 {σ : zS} {q : Nat} (h : LTown σ q) : gD σ (q + 6) = 2 := h.2.2.2.2.2.2.2.2.2.2.2.2.2.2.2.2.2.2.1
theorem LTown_n11 {σ : zS} {q : Nat} (h : LTown σ q) : gN σ (q + 6) = 24 := h.2.2.2.2.2.2.2.2.2.2.2.2.2.2.2.2.2.2.2.1
theorem LTown_r12 {σ : zS} {q : Nat} (h : LTown σ q) : gR σ q 12 = q + 7 := h.2.2.2.2.2.2.2.2.2.2.2.2.2.2.2.2.2.2.2.2.1
theorem LTown_k12 {σ : zS} {q : Nat} (h : LTown σ q) : gD σ (q + 7) = 2 := h.2.2.2.2.2.2.2.2.2.2.2.2.2.2.2.2.2.2.2.2.2.1
theorem LTown_n12 {σ : zS} {q : Nat} (h : LTown σ q) : gN σ (q + 7) = 24 := h.2.2.2.2.2.2.2.2.2.2.2.2.2.2.2.2.2.2.2.2.2.2.1
theorem LTown_r13 {σ : zS} {q : Nat} (h : LTown σ q) : gR σ q 13 = q + 8 := h.2.2.2.2.2.2.2.2.2.2.2.2.2.2.2.2.2.2.2.2.2.2.2.1
theorem LTown_k13 {σ : zS} {q : Nat} (h : LTown σ q) : gD σ (q + 8) = 1 := h.2.2.2.2.2.2.2.2.2.2.2.2.2.2.2.2.2.2.2.2.2.2.2.2.1
theorem LTown_n13 {σ : zS} {q : Nat} (h : LTown σ q) : gN σ (q + 8) = 36 := h.2.2.2.2.2.2.2.2.2.2.2.2.2.2.2.2.2.2.2.2.2.2.2.2.2.1
theorem LTown_r14 {σ : zS} {q : Nat} (h : LTown σ q) : gR σ q 14 = q + 9 := h.2.2.2.2.2.2.2.2.2.2.2.2.2.2.2.2.2.2.2.2.2.2.2.2.2.2.1
theorem LTown_k14 {σ : zS} {q : Nat} (h : LTown σ q) : gD σ (q + 9) = 2 := h.2.2.2.2.2.2.2.2.2.2.2.2.2.2.2.2.2.2.2.2.2.2.2.2.2.2.2.1
theorem LTown_n14 {σ : zS} {q : Nat} (h : LTown σ q) : gN σ (q + 9) = 16 := h.2.2.2.2.2.2.2.2.2.2.2.2.2.2.2.2.2.2.2.2.2.2.2.2.2.2.2.2.1
theorem LTown_r15 {σ : zS} {q : Nat} (h : LTown σ q) : gR σ q 15 = q + 10 := h.2.2.2.2.2.2.2.2.2.2.2.2.2.2.2.2.2.2.2.2.2.2.2.2.2.2.2.2.2.1
theorem LTown_k15 {σ : zS} {q : Nat} (h : LTown σ q) : gD σ (q + 10) = 2 := h.2.2.2.2.2.2.2.2.2.2.2.2.2.2.2.2.2.2.2.2.2.2.2.2.2.2.2.2.2.2.1
theorem LTown_n15 {σ : zS} {q : Nat} (h : LTown σ q) : gN σ (q + 10) = 16 := h.2.2.2.2.2.2.2.2.2.2.2.2.2.2.2.2.2.2.2.2.2.2.2.2.2.2.2.2.2.2.2.1
theorem LTown_r16 {σ : zS} {q : Nat} (h : LTown σ q) : gR σ q 16 = q + 11 := h.2.2.2.2.2.2.2.2.2.2.2.2.2.2.2.2.2.2.2.2.2.2.2.2.2.2.2.2.2.2.2.2.1
theorem LTown_k16 {σ : zS} {q : Nat} (h : LTown σ q) : gD σ (q + 11) = 2 := h.2.2.2.2.2.2.2.2.2.2.2.2.2.2.2.2.2.2.2.2.2.2.2.2.2.2.2.2.2.2.2.2.2.1
theorem LTown_n16 {σ : zS} {q : Nat} (h : LTown σ q) : gN σ (q + 11) = 48 := h.2.2.2.2.2.2.2.2.2.2.2.2.2.2.2.2.2.2.2.2.2.2.2.2.2.2.2.2.2.2.2.2.2.2.1
theorem LTown_r17 {σ : zS} {q : Nat} (h : LTown σ q) : gR σ q 17 = q + 12 := h.2.2.2.2.2.2.2.2.2.2.2.2.2.2.2.2.2.2.2.2.2.2.2.2.2.2.2.2.2.2.2.2.2.2.2.1
theorem LTown_k17 {σ : zS} {q : Nat} (h : LTown σ q) : gD σ (q + 12) = 2 := h.2.2.2.2.2.2.2.2.2.2.2.2.2.2.2.2.2.2.2.2.2.2.2.2.2.2.2.2.2.2.2.2.2.2.2.2.1
theorem LTown_n17 {σ : zS} {q : Nat} (h : LTown σ q) : gN σ (q + 12) = 48 := h.2.2.2.2.2.2.2.2.2.2.2.2.2.2.2.2.2.2.2.2.2.2.2.2.2.2.2.2.2.2.2.2.2.2.2.2.2.1
theorem LTown_r18 {σ : zS} {q : Nat} (h : LTown σ q) : gR σ q 18 = q + 13 := h.2.2.2.2.2.2.2.2.2.2.2.2.2.2.2.2.2.2.2.2.2.2.2.2.2.2.2.2.2.2.2.2.2.2.2.2.2.2.1
theorem LTown_k18 {σ : zS} {q : Nat} (h : LTown σ q) : gD σ (q + 13) = 1 := h.2.2.2.2.2.2.2.2.2.2.2.2.2.2.2.2.2.2.2.2.2.2.2.2.2.2.2.2.2.2.2.2.2.2.2.2.2.2.2.1
theorem LTown_n18 {σ : zS} {q : Nat} (h : LTown σ q) : gN σ (q + 13) = 552 := h.2.2.2.2.2.2.2.2.2.2.2.2.2.2.2.2.2.2.2.2.2.2.2.2.2.2.2.2.2.2.2.2.2.2.2.2.2.2.2.2
def LTraffic (σ : zS) : Prop := gD σ 69 = 13 ∧ gR σ 69 1 = 70 ∧ gD σ 70 = 1 ∧ gN σ 70 = 12 ∧ gR σ 69 2 = 71 ∧ gD σ 71 = 1 ∧ gN σ 71 = 24 ∧ gR σ 69 3 = 72 ∧ gD σ 72 = 1 ∧ gN σ 72 = 576 ∧ gR σ 69 4 = 73 ∧ gD σ 73 = 1 ∧ gN σ 73 = 12 ∧ gR σ 69 5 = 74 ∧ gD σ 74 = 1 ∧ gN σ 74 = 12 ∧ gR σ 69 6 = 75 ∧ gD σ 75 = 1 ∧ gN σ 75 = 12 ∧ gR σ 69 7 = 76 ∧ gD σ 76 = 1 ∧ gN σ 76 = 12 ∧ gR σ 69 8 = 77 ∧ gD σ 77 = 1 ∧ gN σ 77 = 12 ∧ gR σ 69 9 = 78 ∧ gD σ 78 = 1 ∧ gN σ 78 = 16
theorem LTraffic_d {σ : zS} (h : LTraffic σ) : gD σ 69 = 13 := h.1
theorem LTraffic_r1 {σ : zS} (h : LTraffic σ) : gR σ 69 1 = 70 := h.2.1
theorem LTraffic_k1 {σ : zS} (h : LTraffic σ) : gD σ 70 = 1 := h.2.2.1
theorem LTraffic_n1 {σ : zS} (h : LTraffic σ) : gN σ 70 = 12 := h.2.2.2.1
theorem LTraffic_r2 {σ : zS} (h : LTraffic σ) : gR σ 69 2 = 71 := h.2.2.2.2.1
theorem LTraffic_k2 {σ : zS} (h : LTraffic σ) : gD σ 71 = 1 := h.2.2.2.2.2.1
theorem LTraffic_n2 {σ : zS} (h : LTraffic σ) : gN σ 71 = 24 := h.2.2.2.2.2.2.1
theorem LTraffic_r3 {σ : zS} (h : LTraffic σ) : gR σ 69 3 = 72 := h.2.2.2.2.2.2.2.1
theorem LTraffic_k3 {σ : zS} (h : LTraffic σ) : gD σ 72 = 1 := h.2.2.2.2.2.2.2.2.1
theorem LTraffic_n3 {σ : zS} (h : LTraffic σ) : gN σ 72 = 576 := h.2.2.2.2.2.2.2.2.2.1
theorem LTraffic_r4 {σ : zS} (h : LTraffic σ) : gR σ 69 4 = 73 := h.2.2.2.2.2.2.2.2.2.2.1
theorem LTraffic_k4 {σ : zS} (h : LTraffic σ) : gD σ 73 = 1 := h.2.2.2.2.2.2.2.2.2.2.2.1
theorem LTraffic_n4 {σ : zS} (h : LTraffic σ) : gN σ 73 = 12 := h.2.2.2.2.2.2.2.2.2.2.2.2.1
theorem LTraffic_r5 {σ : zS} (h : LTraffic σ) : gR σ 69 5 = 74 := h.2.2.2.2.2.2.2.2.2.2.2.2.2.1
theorem LTraffic_k5 {σ : zS} (h : LTraffic σ) : gD σ 74 = 1 := h.2.2.2.2.2.2.2.2.2.2.2.2.2.2.1
theorem LTraffic_n5 {σ : zS} (h : LTraffic σ) : gN σ 74 = 12 := h.2.2.2.2.2.2.2.2.2.2.2.2.2.2.2.1
theorem LTraffic_r6 {σ : zS} (h : LTraffic σ) : gR σ 69 6 = 75 := h.2.2.2.2.2.2.2.2.2.2.2.2.2.2.2.2.1
theorem LTraffic_k6 {σ : zS} (h : LTraffic σ) : gD σ 75 = 1 := h.2.2.2.2.2.2.2.2.2.2.2.2.2.2.2.2.2.1
theorem LTraffic_n6 {σ : zS} (h : LTraffic σ) : gN σ 75 = 12 := h.2.2.2.2.2.2.2.2.2.2.2.2.2.2.2.2.2.2.1
theorem LTraffic_r7 {σ : zS} (h : LTraffic σ) : gR σ 69 7 = 76 := h.2.2.2.2.2.2.2.2.2.2.2.2.2.2.2.2.2.2.2.1
theorem LTraffic_k7 {σ : zS} (h : LTraffic σ) : gD σ 76 = 1 := h.2.2.2.2.2.2.2.2.2.2.2.2.2.2.2.2.2.2.2.2.1
theorem LTraffic_n7 {σ : zS} (h : LTraffic σ) : gN σ 76 = 12 := h.2.2.2.2.2.2.2.2.2.2.2.2.2.2.2.2.2.2.2.2.2.1
theorem LTraffic_r8 {σ : zS} (h : LTraffic σ) : gR σ 69 8 = 77 := h.2.2.2.2.2.2.2.2.2.2.2.2.2.2.2.2.2.2.2.2.2.2.1
theorem LTraffic_k8 {σ : zS} (h : LTraffic σ) : gD σ 77 = 1 := h.2.2.2.2.2.2.2.2.2.2.2.2.2.2.2.2.2.2.2.2.2.2.2.1
theorem LTraffic_n8 {σ : zS} (h : LTraffic σ) : gN σ 77 = 12 := h.2.2.2.2.2.2.2.2.2.2.2.2.2.2.2.2.2.2.2.2.2.2.2.2.1
theorem LTraffic_r9 {σ : zS} (h : LTraffic σ) : gR σ 69 9 = 78 := h.2.2.2.2.2.2.2.2.2.2.2.2.2.2.2.2.2.2.2.2.2.2.2.2.2.1
theorem LTraffic_k9 {σ : zS} (h : LTraffic σ) : gD σ 78 = 1 := h.2.2.2.2.2.2.2.2.2.2.2.2.2.2.2.2.2.2.2.2.2.2.2.2.2.2.1
theorem LTraffic_n9 {σ : zS} (h : LTraffic σ) : gN σ 78 = 16 := h.2.2.2.2.2.2.2.2.2.2.2.2.2.2.2.2.2.2.2.2.2.2.2.2.2.2.2
def LMain (σ : zS) : Prop := gD σ 16 = 14 ∧ gD σ 17 = 1 ∧ gN σ 17 = 500 ∧ gD σ 46 = 8 ∧ gR σ 16 0 = 17 ∧ gR σ 16 5 = 46 ∧ gR σ 16 6 = 48 ∧ gR σ 16 7 = 52 ∧ gR σ 16 8 = 56 ∧ gR σ 16 9 = 59 ∧ gR σ 16 10 = 63 ∧ gR σ 16 11 = 69 ∧ gR σ 16 12 = 79 ∧ gR σ 16 13 = 84
theorem LMain_d {σ : zS} (h : LMain σ) : gD σ 16 = 14 := h.1
theorem LMain_d17 {σ : zS} (h : LMain σ) : gD σ 17 = 1 := h.2.1
theorem LMain_n17 {σ : zS} (h : LMain σ) : gN σ 17 = 500 := h.2.2.1
theorem LMain_d46 {σ : zS} (h : LMain σ) : gD σ 46 = 8 := h.2.2.2.1
theorem LMain_r0 {σ : zS} (h : LMain σ) : gR σ 16 0 = 17 := h.2.2.2.2.1
theorem LMain_r5 {σ : zS} (h : LMain σ) : gR σ 16 5 = 46 := h.2.2.2.2.2.1
theorem LMain_r6 {σ : zS} (h : LMain σ) : gR σ 16 6 = 48 := h.2.2.2.2.2.2.1
theorem LMain_r7 {σ : zS} (h : LMain σ) : gR σ 16 7 = 52 := h.2.2.2.2.2.2.2.1
theorem LMain_r8 {σ : zS} (h : LMain σ) : gR σ 16 8 = 56 := h.2.2.2.2.2.2.2.2.1
theorem LMain_r9 {σ : zS} (h : LMain σ) : gR σ 16 9 = 59 := h.2.2.2.2.2.2.2.2.2.1
theorem LMain_r10 {σ : zS} (h : LMain σ) : gR σ 16 10 = 63 := h.2.2.2.2.2.2.2.2.2.2.1
theorem LMain_r11 {σ : zS} (h : LMain σ) : gR σ 16 11 = 69 := h.2.2.2.2.2.2.2.2.2.2.2.1
theorem LMain_r12 {σ : zS} (h : LMain σ) : gR σ 16 12 = 79 := h.2.2.2.2.2.2.2.2.2.2.2.2.1
theorem LMain_r13 {σ : zS} (h : LMain σ) : gR σ 16 13 = 84 := h.2.2.2.2.2.2.2.2.2.2.2.2.2
