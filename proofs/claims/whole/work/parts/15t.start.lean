/-! THE CLAIM'S START -/
def zFl9 : List Cond := flatC (Jvm.Cond.and given_1 narrow_1)
theorem zf_1 : ∀ i, i < 7 → Cond.exactly (.string RX5 (151 + 2 * i)) "java/lang/String" ∈ zFl9 := by decide +kernel
theorem zf_2 : ∀ i, i < 7 → Cond.eq (.field (.string RX5 (151 + 2 * i)) "java/lang/String" "coder" "B") (.int 0) ∈ zFl9 := by decide +kernel
theorem zf_3 : ∀ i, i < 7 → Cond.arrayOf (.field (.string RX5 (151 + 2 * i)) "java/lang/String" "value" "[B") .byte ∈ zFl9 := by decide +kernel
theorem zf_4 : ∀ i, i < 7 → Cond.eq (.length (.field (.string RX5 (151 + 2 * i)) "java/lang/String" "value" "[B")) (.int (Int32.ofNat (zLenW.getD i 0))) ∈ zFl9 := by decide +kernel
theorem zf_5 : ∀ i, i < 7 → ∀ j, j < zLenW.getD i 0 → Cond.eq (.elem (.field (.string RX5 (151 + 2 * i)) "java/lang/String" "value" "[B") (.int (Int32.ofNat j))) (.int ((zBytW.getD i []).getD j 0)) ∈ zFl9 := by decide +kernel
theorem zf_6 : ∀ i, i < 7 → ∀ j, j < 7 → i ≠ j → Cond.not (Cond.eq (.string RX5 (151 + 2 * i)) (.string RX5 (151 + 2 * j))) ∈ zFl9 ∨ Cond.not (Cond.eq (.string RX5 (151 + 2 * j)) (.string RX5 (151 + 2 * i))) ∈ zFl9 := by decide +kernel
theorem zf_7 : ∀ q ∈ zNC, Cond.not (.castable q.1 q.2) ∈ zFl9 := by decide +kernel
theorem zf_8 : Cond.isRef (.static Bundle.tN "UNASSIGNED_STACK" Bundle.steD) ∈ zFl9 := by decide +kernel
theorem zf_9 : Cond.isRef (.static Bundle.tN "SUPPRESSED_SENTINEL" Bundle.listD) ∈ zFl9 := by decide +kernel
theorem zf_10 : Cond.eq (.static "java/lang/String" "COMPACT_STRINGS" "Z") (.int 1) ∈ zFl9 := by decide +kernel
theorem zf_11 : Cond.isRef (.static "jdk/internal/util/Preconditions" "SIOOBE_FORMATTER" "Ljava/util/function/BiFunction;") ∈ zFl9 := by decide +kernel
def zSx (w : Cond) : Bool := match w with
  | .stringRef o i _ => decide (Cond.exactly (.string o i) "java/lang/String" ∈ zFl9)
  | _ => true
theorem zf_12 : tables_1.all zSx = true := by decide +kernel
theorem zf_13 : ∀ i, i < 7 → Cond.stringRef RX5 (151 + 2 * i) (zWord.getD i "") ∈ tables_1 := by decide +kernel
theorem zf_14 : Cond.arrayOver (.array .int) ∈ tables_1 := by decide +kernel
theorem zf_15 : Cond.laysStatic Bundle.tN "UNASSIGNED_STACK" Bundle.steD ∈ tables_1 ∧ Cond.laysStatic Bundle.tN "SUPPRESSED_SENTINEL" Bundle.listD ∈ tables_1 ∧ Cond.laysStatic "java/lang/String" "COMPACT_STRINGS" "Z" ∈ tables_1 ∧ Cond.laysStatic "jdk/internal/util/Preconditions" "SIOOBE_FORMATTER" "Ljava/util/function/BiFunction;" ∈ tables_1 := by decide +kernel
theorem zf_16 : Cond.initialized Bundle.tN ∈ tables_1 ∧ Cond.initialized "java/lang/String" ∈ tables_1 ∧ Cond.initialized "jdk/internal/util/Preconditions" ∈ tables_1 := by decide +kernel
theorem zf_17 : ∀ k, k < 12 → Cond.instantiable (zcl.getD k ("", fun _ => ("", "", "", false), 0)).1 (zcl.getD k ("", fun _ => ("", "", "", false), 0)).2.2 ∈ tables_1 := by decide +kernel
theorem zarr {args : Array Value} {s : State} {ty : FieldType} (h : (Cond.arrayClass ty).before args s = true) (hty : ∀ C, ty ≠ .object C) : ∃ cA : ClassId, ArrOfT s cA ty ∧ va_RA s cA ty := by
  obtain ⟨c, k, comp, h1, h2, h3⟩ := Cond.arrayClass_spec h
  refine ⟨c, fun n z => ⟨fun k h => (by cases h), k, h2, comp, h3⟩, ?_⟩
  cases ty with
  | object C => exact (hty C rfl).elim
  | _ => exact h1
theorem zover {args : Array Value} {s : State} (h : (Cond.arrayOver (.array .int)).before args s = true) : ∃ cA : ClassId, ArrOfT s cA (.array .int) ∧ va_RA s cA (.array .int) := by
  simp only [Cond.before, Cond.holds, Cond.value, beq_iff_eq] at h
  cases hc : s.vm.findClass (FieldType.array .int).toString with
  | none => simp [hc] at h
  | some comp =>
    simp only [hc, Option.bind_some, Option.bind_eq_some_iff, Option.map_eq_some_iff] at h
    obtain ⟨c, hi, k, hk, hb⟩ := h
    cases hkind : k.kind with
    | array component ty =>
      rw [hkind] at hb
      simp at hb
      exact ⟨c, fun n z => ⟨fun k h => (by cases h), k, hk, component, by rw [hkind, hb.1]⟩, hb.2⟩
    | _ => rw [hkind] at hb; simp at hb
