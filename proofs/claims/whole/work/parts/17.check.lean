/-! A CHECK OF EVERY INSTRUCTION, BY PROGRAM -/
def zctB : List Nat := [0, 1, 2, 3, 4, 5, 6, 7, 8, 9, 10, 203]
def zfin (ci k : Nat) : Bool := match zcl[ci]? with
  | some r => (r.2.1 k).2.2.2
  | none => true
def zroB (k a : Nat) : Bool := Nat.ble (zfr (zP a) + 1) (zfr (zP k)) && Nat.ble (8 + (zml (zP a) + 11) + zlo (zP a)) (zlo (zP k))
def zxtB (k : Nat) (i : Instr) (pc a b : Nat) (d : Int) : Bool := match i with
  | .istore_n j => Nat.blt j (zml (zP k))
  | .istore j => Nat.blt j (zml (zP k))
  | .astore_n j => Nat.blt j (zml (zP k))
  | .astore j => Nat.blt j (zml (zP k))
  | .iinc j _ => Nat.blt j (zml (zP k))
  | .lstore_n j => Nat.blt (j + 1) (zml (zP k))
  | .lstore j => Nat.blt (j + 1) (zml (zP k))
  | .goto off => decide (0 ≤ (pc : Int) + off)
  | .ifCond _ off => decide (0 ≤ (pc : Int) + off)
  | .if_icmp _ off => decide (0 ≤ (pc : Int) + off)
  | .getfield j => zFLb.contains (zown (zP k), j, a, b)
  | .putfield j => zFLb.contains (zown (zP k), j, a, b) && (!(zfin a b) || (zown (zP k) == a && zctB.contains k))
  | .multianewarray j dd => dd == 2 && (j == 23 && zown (zP k) == 11)
  | .new j => zNLb.contains (zown (zP k), j, a)
  | .invokevirtual j => if d = 5 then zown (zP k) == 4 && (j == 165 && (Nat.ble 5 (zfr (zP k)) && Nat.ble 130 (zlo (zP k)))) else if d = 6 then zown (zP k) == 4 && (j == 170 && (Nat.ble 5 (zfr (zP k)) && Nat.ble 130 (zlo (zP k)))) else zVLb.contains (zown (zP k), j, a) && (zCBb.contains (a, b - 1) && zroB k a)
  | .invokestatic j => if d = 2 then zALb.contains (zown (zP k), j) && (Nat.ble 1 (zfr (zP k)) && Nat.ble 26 (zlo (zP k))) else zSLb.contains (zown (zP k), j, a) && (zroB k a && (zCBb.contains (a, b) || (zCWb.contains (a, b) && zown (zP k) == 13)))
  | .invokespecial j => if d = 3 then zOLb.contains (zown (zP k), j) && (Nat.ble 1 (zfr (zP k)) && Nat.ble 20 (zlo (zP k))) else zILb.contains (zown (zP k), j, a) && (zCBb.contains (a, b - 1) && zroB k a)
  | .ireturn => decide (zrt (zP k) = some (if a = 1 then .boolean else .int))
  | .lreturn => decide (zrt (zP k) = some .long)
  | .areturn => decide (zrt (zP k) = some (.object "java/lang/String"))
  | .return_ => decide (zrt (zP k) = none)
  | .ldc j => if a = 1 then zown (zP k) == 4 && (Nat.blt (b - 1) 7 && (Nat.ble 1 b && j == 151 + 2 * (b - 1))) else zKIb.contains (zown (zP k), j, d)
  | .ldc_w j => zKIb.contains (zown (zP k), j, d)
  | .ldc2_w j => zKLb.contains (zown (zP k), j, d)
  | _ => true
def zTHb : List (Nat × Nat) := [(97, 101), (374, 378), (369, 373)]
def zSTb : List Nat := [99, 144, 302, 367, 371, 376, 379, 388]
def zthB (k pc a b : Nat) (d : Int) : Bool := zown (zP k) == 10 && (Nat.blt a 3 && (zSTb.contains b && (Nat.blt 5 (zfr (zP k)) && (Nat.ble 90 (zlo (zP k)) && (decide (zhh (zP k) = none) && (decide (decode (zcc (zP k)) pc = .ok (.new (zTHb.getD a (0, 0)).1, 3)) && (decide (decode (zcc (zP k)) (pc + 3) = .ok (.dup, 1)) && (if d = 1 then decide (decode (zcc (zP k)) (pc + 4) = .ok (.ldc_w b, 3)) && (decide (decode (zcc (zP k)) (pc + 7) = .ok (.invokespecial (zTHb.getD a (0, 0)).2, 3)) && decide (decode (zcc (zP k)) (pc + 10) = .ok (.athrow, 1))) else decide (decode (zcc (zP k)) (pc + 4) = .ok (.ldc b, 2)) && (decide (decode (zcc (zP k)) (pc + 6) = .ok (.invokespecial (zTHb.getD a (0, 0)).2, 3)) && decide (decode (zcc (zP k)) (pc + 9) = .ok (.athrow, 1)))))))))))
def zopB (k : Nat) (o : zOp) : Bool := match o with
  | (pc, i, len, a, b, d) => match i with
    | .athrow => zthB k pc a b d
    | .tableswitch dflt lo hi offs => decide (decode (zcc (zP k)) pc = .ok (.tableswitch dflt lo hi offs, len)) && (decide (0 ≤ (pc : Int) + dflt) && (offs.toList.all (fun off => decide (0 ≤ (pc : Int) + off)) && decide (lo + offs.size = hi + 1)))
    | i => decide (decode (zcc (zP k)) pc = .ok (i, len)) && (len == zln i && zxtB k i pc a b d)
theorem ztg_ok {pc : Nat} {off : Int} (h : 0 ≤ (pc : Int) + off) : (pc : Int) + off = (ztg pc off : Int) := by
  unfold ztg
  omega
theorem zroB_ok {k a : Nat} (h : zroB k a = true) : zfr (zP a) + 1 ≤ (zroom (zP k)).frames ∧ 8 + (zml (zP a) + 11) + zlo (zP a) ≤ (zroom (zP k)).locals := by
  unfold zroB at h
  rw [Bool.and_eq_true] at h
  exact ⟨Nat.le_of_ble_eq_true h.1, Nat.le_of_ble_eq_true h.2⟩
theorem zblt {a b : Nat} (h : Nat.blt a b = true) : a < b := Nat.le_of_ble_eq_true h
theorem zctB_ok : ∀ k ∈ zctB, (zy (zP k)).name = "<init>" := by decide +kernel
theorem zdecl_ok : ∀ ci, ci < 12 → ∀ r : vw_C, zcl[ci]? = some r → ∀ b, b < r.2.2 → (r.2.1 b).1 = zcn ci := by
  have h : ∀ ci, ci < 12 → (match zcl[ci]? with
    | some r => (List.range r.2.2).all (fun b => decide ((r.2.1 b).1 = zcn ci))
    | none => true) = true := by decide +kernel
  intro ci hci r hr b hb
  have h1 := h ci hci
  rw [hr] at h1
  have h2 := List.all_eq_true.mp h1 b (List.mem_range.mpr hb)
  exact of_decide_eq_true h2
def zatX (a : Nat) : List Cond := if a = 1 then (zatN (zcn 10) 378 (zex 1)).filter vx_no else vx_atS (zcn 10) (zTHb.getD a (0, 0)).2 (zex a) zNm
theorem zth_w : ∀ a, a < 3 → (Bundle.fit (zex a) = true ∧ ∀ w ∈ Cond.classLink (zcn 10) (zTHb.getD a (0, 0)).1 (zex a) :: Cond.initialized (zex a) :: zatX a, vx_ot w = true) := by decide +kernel
/-- the words of a throw stand in the tables -/
theorem zth_in : ∀ a, a < 3 → ∀ w ∈ zatX a, (goodWord w = true ∧ w ∈ lw_tbl) ∨ (zXgood w = true ∧ w ∈ tables_1) := by decide +kernel
theorem zth_l : ∀ a, a < 3 → (goodWord (Cond.classLink (zcn 10) (zTHb.getD a (0, 0)).1 (zex a)) = true ∧ Cond.classLink (zcn 10) (zTHb.getD a (0, 0)).1 (zex a) ∈ lw_tbl) ∧ (goodWord (Cond.initialized (zex a)) = true ∧ Cond.initialized (zex a) ∈ lw_tbl) := by decide +kernel
theorem zth_ok {a : Nat} (ha : a < 3) : zTh (zcn 10) (zTHb.getD a (0, 0)).1 (zTHb.getD a (0, 0)).2 (zex a) := by
  obtain ⟨h1, h2⟩ := zth_w a ha
  obtain ⟨⟨g1, g2⟩, g3, g4⟩ := zth_l a ha
  have h3 : ∀ w ∈ zatX a, w ∈ zGW ∨ w ∈ zXW := fun w hw => by
    rcases zth_in a ha w hw with ⟨q1, q2⟩ | ⟨q1, q2⟩
    · exact Or.inl (zGW_in q2 q1)
    · exact Or.inr (List.mem_filter.mpr ⟨q2, q1⟩)
  refine ⟨h1, zGW_in g2 g1, zGW_in g4 g3, ?_⟩
  by_cases h : a = 1
  · subst h
    exact Or.inr ⟨h3, h2⟩
  · have e : zatX a = vx_atS (zcn 10) (zTHb.getD a (0, 0)).2 (zex a) zNm := by unfold zatX; rw [if_neg h]
    rw [e] at h2 h3
    exact Or.inl ⟨h3, h2⟩
theorem zst_ok : ∀ b ∈ zSTb, ∃ text, Cond.stringRef (zcn 10) b text ∈ tables_1 := by
  have h : ∀ b ∈ zSTb, ∃ text ∈ ["not so many bytes on the tape", "no such what", "no such rider", "no such time", "no such corner", "no such street", "no such arc", "no two streets with a corner in common"], Cond.stringRef (zcn 10) b text ∈ tables_1 := by decide +kernel
  intro b hb
  obtain ⟨t, -, ht⟩ := h b hb
  exact ⟨t, ht⟩
theorem zcon {α : Type} [BEq α] [LawfulBEq α] {l : List α} {a : α} (h : l.contains a = true) : a ∈ l := by simpa using h
set_option maxHeartbeats 2000000 in
theorem zopB_ok {k : Nat} {o : zOp} (h : zopB k o = true) : zopP zP k o := by
  obtain ⟨pc, i, len, a, b, d⟩ := o
  cases i
  case athrow =>
    have h1 : zthB k pc a b d = true := h
    unfold zthB at h1
    simp only [Bool.and_eq_true, beq_iff_eq, decide_eq_true_eq] at h1
    obtain ⟨g1, g2, g3, g4, g5, g6, g7, g8, g9⟩ := h1
    obtain ⟨text, ht⟩ := zst_ok b (zcon g3)
    refine ⟨(zTHb.getD a (0, 0)).1, (zTHb.getD a (0, 0)).2, b, text, by rw [g1]; exact zth_ok (zblt g2), by rw [g1]; exact ht, zblt g4, Nat.le_of_ble_eq_true g5, g6, ?_⟩
    by_cases hd : d = 1
    · rw [if_pos hd] at g9
      simp only [Bool.and_eq_true, decide_eq_true_eq] at g9
      exact Or.inr ⟨g7, g8, g9.1, g9.2.1, g9.2.2⟩
    · rw [if_neg hd] at g9
      simp only [Bool.and_eq_true, decide_eq_true_eq] at g9
      exact Or.inl ⟨g7, g8, g9.1, g9.2.1, g9.2.2⟩
  case tableswitch dflt lo hi offs =>
    have h1 : (decide (decode (zcc (zP k)) pc = .ok (.tableswitch dflt lo hi offs, len)) && (decide (0 ≤ (pc : Int) + dflt) && (offs.toList.all (fun off => decide (0 ≤ (pc : Int) + off)) && decide (lo + offs.size = hi + 1)))) = true := h
    simp only [Bool.and_eq_true, decide_eq_true_eq, List.all_eq_true] at h1
    obtain ⟨g1, g2, g3, g4⟩ := h1
    exact ⟨g1, ztg_ok g2, fun j off hj => ztg_ok (g3 off (List.mem_of_getElem? hj)), g4⟩
  case istore_n x =>
    have h1 : (decide (decode (zcc (zP k)) pc = .ok (.istore_n x, len)) && (len == zln (.istore_n x) && zxtB k (.istore_n x) pc a b d)) = true := h
    simp only [Bool.and_eq_true, decide_eq_true_eq, beq_iff_eq] at h1
    obtain ⟨g1, g2, g3⟩ := h1
    refine ⟨g1, g2, ?_⟩
    exact zblt g3
  case istore x =>
    have h1 : (decide (decode (zcc (zP k)) pc = .ok (.istore x, len)) && (len == zln (.istore x) && zxtB k (.istore x) pc a b d)) = true := h
    simp only [Bool.and_eq_true, decide_eq_true_eq, beq_iff_eq] at h1
    obtain ⟨g1, g2, g3⟩ := h1
    refine ⟨g1, g2, ?_⟩
    exact zblt g3
  case astore_n x =>
    have h1 : (decide (decode (zcc (zP k)) pc = .ok (.astore_n x, len)) && (len == zln (.astore_n x) && zxtB k (.astore_n x) pc a b d)) = true := h
    simp only [Bool.and_eq_true, decide_eq_true_eq, beq_iff_eq] at h1
    obtain ⟨g1, g2, g3⟩ := h1
    refine ⟨g1, g2, ?_⟩
    exact zblt g3
  case astore x =>
    have h1 : (decide (decode (zcc (zP k)) pc = .ok (.astore x, len)) && (len == zln (.astore x) && zxtB k (.astore x) pc a b d)) = true := h
    simp only [Bool.and_eq_true, decide_eq_true_eq, beq_iff_eq] at h1
    obtain ⟨g1, g2, g3⟩ := h1
    refine ⟨g1, g2, ?_⟩
    exact zblt g3
  case lstore_n x =>
    have h1 : (decide (decode (zcc (zP k)) pc = .ok (.lstore_n x, len)) && (len == zln (.lstore_n x) && zxtB k (.lstore_n x) pc a b d)) = true := h
    simp only [Bool.and_eq_true, decide_eq_true_eq, beq_iff_eq] at h1
    obtain ⟨g1, g2, g3⟩ := h1
    refine ⟨g1, g2, ?_⟩
    exact zblt g3
  case lstore x =>
    have h1 : (decide (decode (zcc (zP k)) pc = .ok (.lstore x, len)) && (len == zln (.lstore x) && zxtB k (.lstore x) pc a b d)) = true := h
    simp only [Bool.and_eq_true, decide_eq_true_eq, beq_iff_eq] at h1
    obtain ⟨g1, g2, g3⟩ := h1
    refine ⟨g1, g2, ?_⟩
    exact zblt g3
  case iinc x y =>
    have h1 : (decide (decode (zcc (zP k)) pc = .ok (.iinc x y, len)) && (len == zln (.iinc x y) && zxtB k (.iinc x y) pc a b d)) = true := h
    simp only [Bool.and_eq_true, decide_eq_true_eq, beq_iff_eq] at h1
    obtain ⟨g1, g2, g3⟩ := h1
    refine ⟨g1, g2, ?_⟩
    exact zblt g3
  case goto x =>
    have h1 : (decide (decode (zcc (zP k)) pc = .ok (.goto x, len)) && (len == zln (.goto x) && zxtB k (.goto x) pc a b d)) = true := h
    simp only [Bool.and_eq_true, decide_eq_true_eq, beq_iff_eq] at h1
    obtain ⟨g1, g2, g3⟩ := h1
    refine ⟨g1, g2, ?_⟩
    exact ztg_ok (of_decide_eq_true g3)
  case ifCond x y =>
    have h1 : (decide (decode (zcc (zP k)) pc = .ok (.ifCond x y, len)) && (len == zln (.ifCond x y) && zxtB k (.ifCond x y) pc a b d)) = true := h
    simp only [Bool.and_eq_true, decide_eq_true_eq, beq_iff_eq] at h1
    obtain ⟨g1, g2, g3⟩ := h1
    refine ⟨g1, g2, ?_⟩
    exact ztg_ok (of_decide_eq_true g3)
  case if_icmp x y =>
    have h1 : (decide (decode (zcc (zP k)) pc = .ok (.if_icmp x y, len)) && (len == zln (.if_icmp x y) && zxtB k (.if_icmp x y) pc a b d)) = true := h
    simp only [Bool.and_eq_true, decide_eq_true_eq, beq_iff_eq] at h1
    obtain ⟨g1, g2, g3⟩ := h1
    refine ⟨g1, g2, ?_⟩
    exact ztg_ok (of_decide_eq_true g3)
  case getfield x =>
    have h1 : (decide (decode (zcc (zP k)) pc = .ok (.getfield x, len)) && (len == zln (.getfield x) && zxtB k (.getfield x) pc a b d)) = true := h
    simp only [Bool.and_eq_true, decide_eq_true_eq, beq_iff_eq] at h1
    obtain ⟨g1, g2, g3⟩ := h1
    refine ⟨g1, g2, ?_⟩
    exact zFLb_ok _ (zcon g3)
  case putfield x =>
    have h1 : (decide (decode (zcc (zP k)) pc = .ok (.putfield x, len)) && (len == zln (.putfield x) && zxtB k (.putfield x) pc a b d)) = true := h
    simp only [Bool.and_eq_true, decide_eq_true_eq, beq_iff_eq] at h1
    obtain ⟨g1, g2, g3⟩ := h1
    refine ⟨g1, g2, ?_⟩
    have g3 : (zFLb.contains (zown (zP k), x, a, b) && (!(zfin a b) || (zown (zP k) == a && zctB.contains k))) = true := g3
    rw [Bool.and_eq_true] at g3
    have g4 := zFLb_ok _ (zcon g3.1)
    refine ⟨g4, fun r hr => ?_⟩
    obtain ⟨r2, q1, q2, q3⟩ := g4
    cases hr.symm.trans q1
    have g5 := g3.2
    simp only [Bool.or_eq_true, Bool.and_eq_true, beq_iff_eq] at g5
    rcases g5 with g5 | ⟨g5, g6⟩
    · left
      unfold zfin at g5
      rw [hr] at g5
      simpa using g5
    · right
      have ha : a < 12 := (List.getElem?_eq_some_iff.mp hr).1
      exact ⟨zctB_ok k (zcon g6), by rw [g5]; exact zdecl_ok a ha r hr b q2⟩
  case multianewarray x y =>
    have h1 : (decide (decode (zcc (zP k)) pc = .ok (.multianewarray x y, len)) && (len == zln (.multianewarray x y) && zxtB k (.multianewarray x y) pc a b d)) = true := h
    simp only [Bool.and_eq_true, decide_eq_true_eq, beq_iff_eq] at h1
    obtain ⟨g1, g2, g3⟩ := h1
    refine ⟨g1, g2, ?_⟩
    have g3 : (y == 2 && (x == 23 && zown (zP k) == 11)) = true := g3
    simp only [Bool.and_eq_true, beq_iff_eq] at g3
    obtain ⟨rfl, rfl, g5⟩ := g3
    exact ⟨rfl, by rw [g5]; exact zmul⟩
  case new x =>
    have h1 : (decide (decode (zcc (zP k)) pc = .ok (.new x, len)) && (len == zln (.new x) && zxtB k (.new x) pc a b d)) = true := h
    simp only [Bool.and_eq_true, decide_eq_true_eq, beq_iff_eq] at h1
    obtain ⟨g1, g2, g3⟩ := h1
    refine ⟨g1, g2, ?_⟩
    exact zNLb_ok _ (zcon g3)
  case invokevirtual x =>
    have h1 : (decide (decode (zcc (zP k)) pc = .ok (.invokevirtual x, len)) && (len == zln (.invokevirtual x) && zxtB k (.invokevirtual x) pc a b d)) = true := h
    simp only [Bool.and_eq_true, decide_eq_true_eq, beq_iff_eq] at h1
    obtain ⟨g1, g2, g3⟩ := h1
    refine ⟨g1, g2, ?_⟩
    show (if d = 5 then _ else if d = 6 then _ else _)
    have g3 : (if d = 5 then zown (zP k) == 4 && (x == 165 && (Nat.ble 5 (zfr (zP k)) && Nat.ble 130 (zlo (zP k)))) else if d = 6 then zown (zP k) == 4 && (x == 170 && (Nat.ble 5 (zfr (zP k)) && Nat.ble 130 (zlo (zP k)))) else zVLb.contains (zown (zP k), x, a) && (zCBb.contains (a, b - 1) && zroB k a)) = true := g3
    by_cases hd5 : d = 5
    · rw [if_pos hd5] at g3 ⊢
      simp only [Bool.and_eq_true, beq_iff_eq] at g3
      exact ⟨g3.1, g3.2.1, Nat.le_of_ble_eq_true g3.2.2.1, Nat.le_of_ble_eq_true g3.2.2.2⟩
    by_cases hd6 : d = 6
    · rw [if_neg hd5, if_pos hd6] at g3 ⊢
      simp only [Bool.and_eq_true, beq_iff_eq] at g3
      exact ⟨g3.1, g3.2.1, Nat.le_of_ble_eq_true g3.2.2.1, Nat.le_of_ble_eq_true g3.2.2.2⟩
    rw [if_neg hd5, if_neg hd6] at g3 ⊢
    simp only [Bool.and_eq_true] at g3
    obtain ⟨q1, q2, q3, q4⟩ := zVLb_ok _ (zcon g3.1)
    obtain ⟨c1, c2, c3, c4⟩ := zCBb_ok _ (zcon g3.2.1)
    exact ⟨⟨c1, c2, c3, c4, zroB_ok g3.2.2⟩, q1, q2, q3, q4⟩
  case invokestatic x =>
    have h1 : (decide (decode (zcc (zP k)) pc = .ok (.invokestatic x, len)) && (len == zln (.invokestatic x) && zxtB k (.invokestatic x) pc a b d)) = true := h
    simp only [Bool.and_eq_true, decide_eq_true_eq, beq_iff_eq] at h1
    obtain ⟨g1, g2, g3⟩ := h1
    refine ⟨g1, g2, ?_⟩
    show (if d = 2 then _ else _)
    have g3 : (if d = 2 then zALb.contains (zown (zP k), x) && (Nat.ble 1 (zfr (zP k)) && Nat.ble 26 (zlo (zP k))) else zSLb.contains (zown (zP k), x, a) && (zroB k a && (zCBb.contains (a, b) || (zCWb.contains (a, b) && zown (zP k) == 13)))) = true := g3
    by_cases hd2 : d = 2
    · rw [if_pos hd2] at g3 ⊢
      simp only [Bool.and_eq_true] at g3
      exact ⟨zALb_ok _ (zcon g3.1), Nat.le_of_ble_eq_true g3.2.1, Nat.le_of_ble_eq_true g3.2.2⟩
    rw [if_neg hd2] at g3 ⊢
    simp only [Bool.and_eq_true, Bool.or_eq_true, beq_iff_eq] at g3
    obtain ⟨q1, q2⟩ := zSLb_ok _ (zcon g3.1)
    refine ⟨?_, q2⟩
    rcases g3.2.2 with g4 | ⟨g4, g5⟩
    · obtain ⟨c1, c2, c3, c4⟩ := zCBb_ok _ (zcon g4)
      exact Or.inl ⟨⟨c1, c2, c3, c4, zroB_ok g3.2.1⟩, q1⟩
    · obtain ⟨hh, c1, c2, c3, c4⟩ := zCWb_ok _ (zcon g4)
      refine Or.inr ⟨⟨hh, c1, c2, c3, c4, zroB_ok g3.2.1⟩, ?_⟩
      rcases q1 with q1 | ⟨host, q1⟩
      · exact q1
      · exfalso
        rw [g5] at q1
        have h9 : ∀ w ∈ zXW, (match w with
          | .methodLinkNest o _ _ _ => decide (o ≠ RL)
          | _ => true) = true := by decide +kernel
        have h8 := h9 _ q1
        exact absurd rfl (of_decide_eq_true h8)
  case invokespecial x =>
    have h1 : (decide (decode (zcc (zP k)) pc = .ok (.invokespecial x, len)) && (len == zln (.invokespecial x) && zxtB k (.invokespecial x) pc a b d)) = true := h
    simp only [Bool.and_eq_true, decide_eq_true_eq, beq_iff_eq] at h1
    obtain ⟨g1, g2, g3⟩ := h1
    refine ⟨g1, g2, ?_⟩
    show (if d = 3 then _ else _)
    have g3 : (if d = 3 then zOLb.contains (zown (zP k), x) && (Nat.ble 1 (zfr (zP k)) && Nat.ble 20 (zlo (zP k))) else zILb.contains (zown (zP k), x, a) && (zCBb.contains (a, b - 1) && zroB k a)) = true := g3
    by_cases hd2 : d = 3
    · rw [if_pos hd2] at g3 ⊢
      simp only [Bool.and_eq_true] at g3
      exact ⟨zOLb_ok _ (zcon g3.1), Nat.le_of_ble_eq_true g3.2.1, Nat.le_of_ble_eq_true g3.2.2⟩
    rw [if_neg hd2] at g3 ⊢
    simp only [Bool.and_eq_true] at g3
    obtain ⟨q1, q2, q3, q4⟩ := zILb_ok _ (zcon g3.1)
    obtain ⟨c1, c2, c3, c4⟩ := zCBb_ok _ (zcon g3.2.1)
    exact ⟨⟨c1, c2, c3, c4, zroB_ok g3.2.2⟩, q1, q2, q3, q4⟩
  case ireturn =>
    have h1 : (decide (decode (zcc (zP k)) pc = .ok (.ireturn, len)) && (len == zln (.ireturn) && zxtB k (.ireturn) pc a b d)) = true := h
    simp only [Bool.and_eq_true, decide_eq_true_eq, beq_iff_eq] at h1
    obtain ⟨g1, g2, g3⟩ := h1
    refine ⟨g1, g2, ?_⟩
    exact of_decide_eq_true g3
  case lreturn =>
    have h1 : (decide (decode (zcc (zP k)) pc = .ok (.lreturn, len)) && (len == zln (.lreturn) && zxtB k (.lreturn) pc a b d)) = true := h
    simp only [Bool.and_eq_true, decide_eq_true_eq, beq_iff_eq] at h1
    obtain ⟨g1, g2, g3⟩ := h1
    refine ⟨g1, g2, ?_⟩
    exact of_decide_eq_true g3
  case areturn =>
    have h1 : (decide (decode (zcc (zP k)) pc = .ok (.areturn, len)) && (len == zln (.areturn) && zxtB k (.areturn) pc a b d)) = true := h
    simp only [Bool.and_eq_true, decide_eq_true_eq, beq_iff_eq] at h1
    obtain ⟨g1, g2, g3⟩ := h1
    refine ⟨g1, g2, ?_⟩
    exact ⟨_, of_decide_eq_true g3⟩
  case return_ =>
    have h1 : (decide (decode (zcc (zP k)) pc = .ok (.return_, len)) && (len == zln (.return_) && zxtB k (.return_) pc a b d)) = true := h
    simp only [Bool.and_eq_true, decide_eq_true_eq, beq_iff_eq] at h1
    obtain ⟨g1, g2, g3⟩ := h1
    refine ⟨g1, g2, ?_⟩
    exact of_decide_eq_true g3
  case ldc x =>
    have h1 : (decide (decode (zcc (zP k)) pc = .ok (.ldc x, len)) && (len == zln (.ldc x) && zxtB k (.ldc x) pc a b d)) = true := h
    simp only [Bool.and_eq_true, decide_eq_true_eq, beq_iff_eq] at h1
    obtain ⟨g1, g2, g3⟩ := h1
    refine ⟨g1, g2, ?_⟩
    show (if a = 1 then _ else _)
    have g3 : (if a = 1 then zown (zP k) == 4 && (Nat.blt (b - 1) 7 && (Nat.ble 1 b && x == 151 + 2 * (b - 1))) else zKIb.contains (zown (zP k), x, d)) = true := g3
    by_cases ha : a = 1
    · rw [if_pos ha] at g3 ⊢
      simp only [Bool.and_eq_true, beq_iff_eq] at g3
      have h1b := Nat.le_of_ble_eq_true g3.2.2.1
      exact ⟨g3.1, b - 1, zblt g3.2.1, g3.2.2.2, by omega⟩
    rw [if_neg ha] at g3 ⊢
    exact zKIb_ok _ (zcon g3)
  case ldc_w x =>
    have h1 : (decide (decode (zcc (zP k)) pc = .ok (.ldc_w x, len)) && (len == zln (.ldc_w x) && zxtB k (.ldc_w x) pc a b d)) = true := h
    simp only [Bool.and_eq_true, decide_eq_true_eq, beq_iff_eq] at h1
    obtain ⟨g1, g2, g3⟩ := h1
    refine ⟨g1, g2, ?_⟩
    exact zKIb_ok _ (zcon g3)
  case ldc2_w x =>
    have h1 : (decide (decode (zcc (zP k)) pc = .ok (.ldc2_w x, len)) && (len == zln (.ldc2_w x) && zxtB k (.ldc2_w x) pc a b d)) = true := h
    simp only [Bool.and_eq_true, decide_eq_true_eq, beq_iff_eq] at h1
    obtain ⟨g1, g2, g3⟩ := h1
    refine ⟨g1, g2, ?_⟩
    exact zKLb_ok _ (zcon g3)
  all_goals
    have h1 : (decide (decode (zcc (zP k)) pc = .ok (_, len)) && (len == zln _ && true)) = true := h
    simp only [Bool.and_eq_true, decide_eq_true_eq, beq_iff_eq] at h1
    exact ⟨h1.1, h1.2.1, trivial⟩
