/-! INTS AND MASKS -/
theorem ii_lt {a b : Int} (h1 : -2147483648 ≤ a ∧ a < 2147483648) (h2 : -2147483648 ≤ b ∧ b < 2147483648) : (Int32.ofInt a < Int32.ofInt b) = (a < b) := by
  rw [Int32.lt_iff_toInt_lt, Int32.toInt_ofInt_of_le h1.1 h1.2, Int32.toInt_ofInt_of_le h2.1 h2.2]
theorem ii_le {a b : Int} (h1 : -2147483648 ≤ a ∧ a < 2147483648) (h2 : -2147483648 ≤ b ∧ b < 2147483648) : (Int32.ofInt a ≤ Int32.ofInt b) = (a ≤ b) := by
  rw [Int32.le_iff_toInt_le, Int32.toInt_ofInt_of_le h1.1 h1.2, Int32.toInt_ofInt_of_le h2.1 h2.2]
theorem ii_eq {a b : Int} (h1 : -2147483648 ≤ a ∧ a < 2147483648) (h2 : -2147483648 ≤ b ∧ b < 2147483648) : (Int32.ofInt a = Int32.ofInt b) = (a = b) := by
  rw [← Int32.toInt_inj, Int32.toInt_ofInt_of_le h1.1 h1.2, Int32.toInt_ofInt_of_le h2.1 h2.2]
theorem ii_eq0 {a : Int} (h1 : -2147483648 ≤ a ∧ a < 2147483648) : (Int32.ofInt a = 0) = (a = 0) := ii_eq (b := 0) h1 ⟨by decide, by decide⟩
theorem ii_lt0 {a : Int} (h1 : -2147483648 ≤ a ∧ a < 2147483648) : (Int32.ofInt a < 0) = (a < 0) := ii_lt (b := 0) h1 ⟨by decide, by decide⟩
theorem ii_0lt {a : Int} (h1 : -2147483648 ≤ a ∧ a < 2147483648) : (0 < Int32.ofInt a) = (0 < a) := ii_lt (a := 0) ⟨by decide, by decide⟩ h1
theorem ii_le0 {a : Int} (h1 : -2147483648 ≤ a ∧ a < 2147483648) : (Int32.ofInt a ≤ 0) = (a ≤ 0) := ii_le (b := 0) h1 ⟨by decide, by decide⟩
theorem ii_0le {a : Int} (h1 : -2147483648 ≤ a ∧ a < 2147483648) : (0 ≤ Int32.ofInt a) = (0 ≤ a) := ii_le (a := 0) ⟨by decide, by decide⟩ h1
theorem ia_add {a b : Int} : Int32.ofInt a + Int32.ofInt b = Int32.ofInt (a + b) := (Int32.ofInt_add a b).symm
theorem ia_sub {a b : Int} : Int32.ofInt a - Int32.ofInt b = Int32.ofInt (a - b) := (Int32.ofInt_sub a b).symm
theorem ia_mul {a b : Int} : Int32.ofInt a * Int32.ofInt b = Int32.ofInt (a * b) := (Int32.ofInt_mul a b).symm
theorem ia_neg {a : Int} : -Int32.ofInt a = Int32.ofInt (-a) := (Int32.ofInt_neg a).symm
theorem ia_div {a b : Int} (h1 : 0 ≤ a ∧ a < 2147483648) (h2 : 0 < b ∧ b < 2147483648) : Int32.ofInt a / Int32.ofInt b = Int32.ofInt (a / b) := by
  have e1 : Int32.minValue.toInt = -2147483648 := by decide
  have e2 : Int32.maxValue.toInt = 2147483647 := by decide
  rw [← Int.tdiv_eq_ediv_of_nonneg h1.1]
  exact (Int32.ofInt_tdiv (by rw [e1]; omega) (by rw [e2]; omega) (by rw [e1]; omega) (by rw [e2]; omega)).symm
theorem ia_rem {a b : Int} (h1 : 0 ≤ a ∧ a < 2147483648) (h2 : 0 < b ∧ b < 2147483648) : Int32.ofInt a - Int32.ofInt a / Int32.ofInt b * Int32.ofInt b = Int32.ofInt (a % b) := by
  rw [ia_div h1 h2, ia_mul, ia_sub, Int.emod_def, Int.mul_comm b]
theorem i8_c {n : Int} (h : -128 ≤ n ∧ n < 128) : (Int8.ofInt n).toInt32 = Int32.ofInt n := by
  rw [← Int32.ofInt_int8ToInt, Int8.toInt_ofInt_of_le h.1 h.2]
theorem i16_c {n : Int} (h : -32768 ≤ n ∧ n < 32768) : (Int16.ofInt n).toInt32 = Int32.ofInt n := by
  rw [← Int32.ofInt_int16ToInt, Int16.toInt_ofInt_of_le h.1 h.2]
theorem i_nI {n : Nat} : nI n = Int32.ofInt n := (Int32.ofInt_eq_ofNat).symm
theorem i_len {n : Nat} : n.toInt32 = Int32.ofInt n := (Int32.ofInt_eq_ofNat).symm
theorem i_nat {a : Int} (h1 : -2147483648 ≤ a ∧ a < 2147483648) : (Int32.ofInt a).toNatClampNeg = a.toNat := Int32.toNatClampNeg_ofInt_of_le h1.1 h1.2
theorem i_in {a : Int} {n : Nat} (h1 : -2147483648 ≤ a ∧ a < 2147483648) : vp_in (Int32.ofInt a) n = (0 ≤ a ∧ a < n) := by
  unfold vp_in
  rw [ii_lt0 h1, i_nat h1]
  apply propext
  omega
theorem i_self (x : Int32) : x = Int32.ofInt x.toInt := (Int32.ofInt_toInt x).symm
theorem i_rg (x : Int32) : -2147483648 ≤ x.toInt ∧ x.toInt < 2147483648 := ⟨x.le_toInt, x.toInt_lt⟩
/-- a truth as an int -/
def bI (b : Bool) : Int32 := if b then 1 else 0
theorem bI_t : bI true = 1 := rfl
theorem bI_f : bI false = 0 := rfl
theorem bI_0 {b : Bool} : (bI b = 0) = (b = false) := by cases b <;> exact propext ⟨fun _ => by first | rfl | contradiction, fun _ => by first | rfl | contradiction⟩
theorem bI_1 {b : Bool} : (bI b = 1) = (b = true) := by cases b <;> exact propext ⟨fun _ => by first | rfl | contradiction, fun _ => by first | rfl | contradiction⟩
theorem bI_01 {b : Bool} : bI b = 0 ∨ bI b = 1 := by cases b <;> first | exact .inl rfl | exact .inr rfl
theorem bI_i {b : Bool} : bI b = Int32.ofInt (if b then 1 else 0) := by cases b <;> rfl
theorem bI_dec {p : Prop} [Decidable p] : bI (decide p) = if p then 1 else 0 := by
  unfold bI
  by_cases h : p
  · rw [decide_eq_true h, if_pos rfl, if_pos h]
  · rw [decide_eq_false h, if_neg h, if_neg (by decide)]
/-! int masks, by their numbers -/
theorem i_and31 {i : Nat} (h : i < 32) : Int32.ofInt i &&& 31 = Int32.ofInt i := by
  have hh : ∀ j : Fin 32, Int32.ofInt ((j : Nat) : Int) &&& 31 = Int32.ofInt ((j : Nat) : Int) := by decide
  exact hh ⟨i, h⟩
theorem i_bv {n : Nat} : (Int32.ofInt n).toBitVec = BitVec.ofNat 32 n := by
  rw [Int32.ofInt_eq_ofNat]
  rfl
theorem i_or {a b : Nat} : Int32.ofInt a ||| Int32.ofInt b = Int32.ofInt ((a ||| b : Nat) : Int) := by
  apply Int32.toBitVec.inj
  rw [Int32.toBitVec_or, i_bv, i_bv, i_bv, BitVec.ofNat_or]
theorem i_and {a b : Nat} : Int32.ofInt a &&& Int32.ofInt b = Int32.ofInt ((a &&& b : Nat) : Int) := by
  apply Int32.toBitVec.inj
  rw [Int32.toBitVec_and, i_bv, i_bv, i_bv, BitVec.ofNat_and]
theorem i_xor {a b : Nat} : Int32.ofInt a ^^^ Int32.ofInt b = Int32.ofInt ((a ^^^ b : Nat) : Int) := by
  apply Int32.toBitVec.inj
  rw [Int32.toBitVec_xor, i_bv, i_bv, i_bv, BitVec.ofNat_xor]
theorem i_andn {a b : Nat} : Int32.ofInt a &&& (Int32.ofInt b ^^^ Int32.ofInt (-1)) = Int32.ofInt ((a ^^^ (a &&& b) : Nat) : Int) := by
  have e : (Int32.ofInt (-1)).toBitVec = BitVec.allOnes 32 := by decide
  apply Int32.toBitVec.inj
  rw [Int32.toBitVec_and, Int32.toBitVec_xor, i_bv, i_bv, i_bv, e, BitVec.ofNat_xor, BitVec.ofNat_and]
  apply BitVec.eq_of_getLsbD_eq
  intro i hi
  simp only [BitVec.getLsbD_and, BitVec.getLsbD_xor, BitVec.getLsbD_allOnes, hi, decide_true]
  cases (BitVec.ofNat 32 a).getLsbD i <;> cases (BitVec.ofNat 32 b).getLsbD i <;> rfl
theorem i_shl {a i : Nat} (h : i < 32) : Int32.ofInt a <<< (Int32.ofInt i &&& 31) = Int32.ofInt ((a <<< i : Nat) : Int) := by
  rw [i_and31 h]
  apply Int32.toBitVec.inj
  rw [Int32.toBitVec_shiftLeft, i_bv, i_bv, i_bv]
  apply BitVec.eq_of_toNat_eq
  have e : (BitVec.smod (BitVec.ofNat 32 i) 32#32) = BitVec.ofNat 32 i := by
    have hh : ∀ j : Fin 32, BitVec.smod (BitVec.ofNat 32 (j : Nat)) 32#32 = BitVec.ofNat 32 (j : Nat) := by decide
    exact hh ⟨i, h⟩
  rw [show (32 : BitVec 32) = 32#32 from rfl, e]
  rw [BitVec.shiftLeft_eq', BitVec.toNat_shiftLeft, BitVec.toNat_ofNat, BitVec.toNat_ofNat, BitVec.toNat_ofNat, Nat.mod_eq_of_lt (a := i) (by omega), Nat.shiftLeft_eq, Nat.shiftLeft_eq, Nat.mod_mul_mod]
theorem i_shr {a i : Nat} (ha : a < 2147483648) (h : i < 32) : Int32.ofInt a >>> (Int32.ofInt i &&& 31) = Int32.ofInt ((a >>> i : Nat) : Int) := by
  rw [i_and31 h]
  apply Int32.toBitVec.inj
  rw [Int32.toBitVec_shiftRight, i_bv, i_bv, i_bv]
  have e : (BitVec.smod (BitVec.ofNat 32 i) 32#32) = BitVec.ofNat 32 i := by
    have hh : ∀ j : Fin 32, BitVec.smod (BitVec.ofNat 32 (j : Nat)) 32#32 = BitVec.ofNat 32 (j : Nat) := by decide
    exact hh ⟨i, h⟩
  rw [show (32 : BitVec 32) = 32#32 from rfl, e]
  apply BitVec.eq_of_toNat_eq
  have hm : (BitVec.ofNat 32 a).msb = false := by
    rw [BitVec.msb_eq_false_iff_two_mul_lt, BitVec.toNat_ofNat, Nat.mod_eq_of_lt (by omega)]
    omega
  rw [BitVec.sshiftRight_eq', BitVec.sshiftRight_eq_of_msb_false hm, BitVec.toNat_ushiftRight, BitVec.toNat_ofNat, BitVec.toNat_ofNat, BitVec.toNat_ofNat, Nat.mod_eq_of_lt (a := i) (by omega), Nat.mod_eq_of_lt (a := a) (by omega), Nat.mod_eq_of_lt]
  exact Nat.lt_of_le_of_lt (Nat.shiftRight_le a i) (by omega)
theorem i_bit {a i : Nat} (ha : a < 2147483648) (h : i < 32) : (Int32.ofInt a >>> (Int32.ofInt i &&& 31)) &&& Int32.ofInt 1 = bI (a.testBit i) := by
  rw [i_shr ha h, show (1 : Int) = ((1 : Nat) : Int) from rfl, i_and, Nat.and_comm]
  unfold Nat.testBit
  rw [bI_i]
  have : 1 &&& a >>> i < 2 := by
    rw [Nat.one_and_eq_mod_two]
    omega
  by_cases e : 1 &&& a >>> i = 0
  · rw [e]
    rfl
  · have e1 : 1 &&& a >>> i = 1 := by omega
    rw [e1]
    rfl
/-! long masks, by their bits -/
def bt (m : Int64) (j : Nat) : Bool := m.toBitVec.getLsbD j
theorem bt_lt {m : Int64} {j : Nat} (h : bt m j = true) : j < 64 := BitVec.lt_of_getLsbD h
theorem bt_ge {m : Int64} {j : Nat} (h : 64 ≤ j) : bt m j = false := BitVec.getLsbD_of_ge _ _ h
theorem bt_ext {m n : Int64} (h : ∀ j, j < 64 → bt m j = bt n j) : m = n := Int64.toBitVec.inj (BitVec.eq_of_getLsbD_eq h)
theorem bt_and {m n : Int64} {j : Nat} : bt (m &&& n) j = (bt m j && bt n j) := by
  unfold bt
  rw [Int64.toBitVec_and, BitVec.getLsbD_and]
theorem bt_or {m n : Int64} {j : Nat} : bt (m ||| n) j = (bt m j || bt n j) := by
  unfold bt
  rw [Int64.toBitVec_or, BitVec.getLsbD_or]
theorem bt_xor {m n : Int64} {j : Nat} : bt (m ^^^ n) j = (bt m j ^^ bt n j) := by
  unfold bt
  rw [Int64.toBitVec_xor, BitVec.getLsbD_xor]
theorem bt_ones {j : Nat} : bt (Int64.ofInt (-1)) j = decide (j < 64) := by
  unfold bt
  have e : (Int64.ofInt (-1)).toBitVec = BitVec.allOnes 64 := by decide
  rw [e, BitVec.getLsbD_allOnes]
theorem bt_not {m : Int64} {j : Nat} (h : j < 64) : bt (m ^^^ Int64.ofInt (-1)) j = !bt m j := by
  rw [bt_xor, bt_ones, decide_eq_true h]
  cases bt m j <;> rfl
theorem bt_andn {m n : Int64} {j : Nat} : bt (m &&& (n ^^^ Int64.ofInt (-1))) j = (bt m j && !bt n j) := by
  rw [bt_and]
  by_cases h : j < 64
  · rw [bt_not h]
  · rw [bt_ge (m := m) (by omega)]
    rfl
theorem bt_0 {j : Nat} : bt 0 j = false := by
  unfold bt
  show (BitVec.ofInt 64 0).getLsbD j = false
  rw [show BitVec.ofInt 64 0 = 0#64 from by decide, BitVec.getLsbD_zero]
theorem bt_eq0 {m : Int64} : (m = 0) = ∀ j, bt m j = false := by
  apply propext
  constructor
  · intro h j
    rw [h, bt_0]
  · intro h
    exact bt_ext (fun j _ => by rw [h j, bt_0])
theorem bt_ne0 {m : Int64} : (¬ m = 0) = ∃ j, bt m j = true := by
  rw [bt_eq0]
  apply propext
  constructor
  · intro h
    apply Classical.byContradiction
    intro hn
    exact h (fun j => by
      cases e : bt m j with
      | false => rfl
      | true => exact absurd ⟨j, e⟩ hn)
  · intro ⟨j, e⟩ h
    rw [h j] at e
    cases e
theorem l_and63 {i : Nat} (h : i < 64) : (Int32.ofInt i).toInt64 &&& 63 = Int64.ofInt i := by
  have hh : ∀ j : Fin 64, (Int32.ofInt ((j : Nat) : Int)).toInt64 &&& 63 = Int64.ofInt ((j : Nat) : Int) := by decide
  exact hh ⟨i, h⟩
theorem l_bv {n : Nat} : (Int64.ofInt n).toBitVec = BitVec.ofNat 64 n := by
  rw [Int64.ofInt_eq_ofNat]
  rfl
theorem bt_shl {m : Int64} {i j : Nat} (h : i < 64) : bt (m <<< ((Int32.ofInt i).toInt64 &&& 63)) j = (decide (j < 64) && (decide (i ≤ j) && bt m (j - i))) := by
  unfold bt
  rw [l_and63 h, Int64.toBitVec_shiftLeft, l_bv]
  have e : (BitVec.smod (BitVec.ofNat 64 i) 64#64) = BitVec.ofNat 64 i := by
    have hh : ∀ j : Fin 64, BitVec.smod (BitVec.ofNat 64 (j : Nat)) 64#64 = BitVec.ofNat 64 (j : Nat) := by decide
    exact hh ⟨i, h⟩
  rw [show (64 : BitVec 64) = 64#64 from rfl, e, BitVec.shiftLeft_eq', BitVec.getLsbD_shiftLeft, BitVec.toNat_ofNat, Nat.mod_eq_of_lt (a := i) (by omega)]
  by_cases h1 : j < i
  · simp [h1, Nat.not_le.2 h1]
  · simp [h1, Nat.le_of_not_lt h1]
theorem bt_1 {j : Nat} : bt (Int64.ofNat 1) j = decide (j = 0) := by
  unfold bt
  show (BitVec.ofNat 64 1).getLsbD j = _
  by_cases h : j = 0
  · subst h
    rfl
  · rw [BitVec.getLsbD_ofNat]
    have h2 : Nat.testBit 1 j = false := by
      cases e : Nat.testBit 1 j with
      | false => rfl
      | true => exact absurd (Nat.testBit_one_eq_true_iff_self_eq_zero.1 e) h
    simp [h2, h]
theorem bt_3 {j : Nat} : bt (Int64.ofInt 3) j = decide (j < 2) := by
  by_cases h64 : j < 64
  · have hh : ∀ j : Fin 64, bt (Int64.ofInt 3) (j : Nat) = decide ((j : Nat) < 2) := by decide
    exact hh ⟨j, h64⟩
  · rw [bt_ge (by omega), decide_eq_false (by omega)]
/-- one bit -/
theorem bt_one {i j : Nat} (h : i < 64) : bt (Int64.ofNat 1 <<< ((Int32.ofInt i).toInt64 &&& 63)) j = decide (j = i) := by
  rw [bt_shl h, bt_1]
  by_cases e : j = i
  · subst e
    simp [h]
  · rw [decide_eq_false e]
    by_cases h1 : i ≤ j
    · rw [decide_eq_false (p := j - i = 0) (by omega)]
      simp
    · rw [decide_eq_false h1]
      simp
theorem l_has {m : Int64} {i : Nat} (h : i < 64) : ((m.toUInt64 >>> ((Int32.ofInt i).toInt64.toUInt64 &&& Int64.toUInt64 63)).toInt64 &&& Int64.ofNat 1 = 0) = (bt m i = false) := by
  have e1 : (Int32.ofInt i).toInt64.toUInt64 &&& Int64.toUInt64 63 = UInt64.ofNat i := by
    have hh : ∀ j : Fin 64, (Int32.ofInt ((j : Nat) : Int)).toInt64.toUInt64 &&& Int64.toUInt64 63 = UInt64.ofNat (j : Nat) := by decide
    exact hh ⟨i, h⟩
  rw [e1, bt_eq0]
  have e2 : ∀ j, bt ((m.toUInt64 >>> UInt64.ofNat i).toInt64) j = bt m (i + j) := by
    intro j
    unfold bt
    show (m.toUInt64 >>> UInt64.ofNat i).toBitVec.getLsbD j = _
    rw [UInt64.toBitVec_shiftRight]
    have e : (UInt64.ofNat i).toBitVec % 64 = BitVec.ofNat 64 i := by
      have hh : ∀ j : Fin 64, (UInt64.ofNat (j : Nat)).toBitVec % 64 = BitVec.ofNat 64 (j : Nat) := by decide
      exact hh ⟨i, h⟩
    rw [e, BitVec.ushiftRight_eq', BitVec.getLsbD_ushiftRight, BitVec.toNat_ofNat, Nat.mod_eq_of_lt (a := i) (by omega)]
    rfl
  apply propext
  constructor
  · intro z
    have := z 0
    rw [bt_and, e2, bt_1, Nat.add_zero] at this
    simpa using this
  · intro z j
    rw [bt_and, e2, bt_1]
    by_cases hj : j = 0
    · subst hj
      rw [Nat.add_zero, z]
      rfl
    · rw [decide_eq_false hj]
      simp
/-- the lowest bit -/
def lo (m : Int64) (i : Nat) : Prop := bt m i = true ∧ ∀ j, j < i → bt m j = false
theorem lo_ex {m : Int64} : ∀ n, bt m n = true → ∃ i, lo m i := by
  intro n
  induction n using Nat.strongRecOn with
  | ind n ih =>
    intro hn
    by_cases h : ∃ j, j < n ∧ bt m j = true
    · obtain ⟨j, h1, h2⟩ := h
      exact ih j h1 h2
    · refine ⟨n, hn, fun j hj => ?_⟩
      cases e : bt m j with
      | false => rfl
      | true => exact absurd ⟨j, hj, e⟩ h
theorem bt_neg {m : Int64} {j : Nat} (h : j < 64) : bt (-m) j = (bt m j ^^ decide (∃ k, k < j ∧ bt m k = true)) := by
  unfold bt
  rw [Int64.toBitVec_neg, BitVec.getLsbD_neg]
  rw [decide_eq_true h, Bool.true_and]
theorem lo_and {m : Int64} {i : Nat} (h : lo m i) : m &&& -m = Int64.ofNat 1 <<< ((Int32.ofInt i).toInt64 &&& 63) := by
  have hi := bt_lt h.1
  apply bt_ext
  intro j hj
  rw [bt_and, bt_neg hj, bt_one hi]
  by_cases e : j = i
  · subst e
    rw [h.1, decide_eq_false (p := ∃ k, k < j ∧ bt m k = true) (by
      intro ⟨k, h1, h2⟩
      rw [h.2 k h1] at h2
      cases h2), decide_eq_true rfl]
    rfl
  · rw [decide_eq_false e]
    by_cases h1 : j < i
    · rw [h.2 j h1]
      rfl
    · rw [decide_eq_true (p := ∃ k, k < j ∧ bt m k = true) ⟨i, by omega, h.1⟩]
      cases bt m j <;> rfl
theorem bt_pred {m : Int64} {j : Nat} (h : j < 64) : bt (m - Int64.ofNat 1) j = !(bt m j ^^ decide (∃ k, k < j ∧ bt m k = true)) := by
  rw [← bt_neg h]
  unfold bt
  have e : (Int64.ofNat 1).toBitVec = 1#64 := rfl
  rw [Int64.toBitVec_sub, e, ← BitVec.not_neg, BitVec.getLsbD_not, decide_eq_true h, Bool.true_and, Int64.toBitVec_neg]
/-- without its lowest bit -/
theorem bt_rest {m : Int64} {i j : Nat} (h : lo m i) : bt (m &&& (m - Int64.ofNat 1)) j = (bt m j && decide (j ≠ i)) := by
  rw [bt_and]
  by_cases hj : j < 64
  · rw [bt_pred hj]
    by_cases e : j = i
    · subst e
      rw [h.1, decide_eq_false (p := ∃ k, k < j ∧ bt m k = true) (by
        intro ⟨k, h1, h2⟩
        rw [h.2 k h1] at h2
        cases h2), decide_eq_false (by simp)]
      rfl
    · rw [decide_eq_true e]
      by_cases h1 : j < i
      · rw [h.2 j h1]
        rfl
      · rw [decide_eq_true (p := ∃ k, k < j ∧ bt m k = true) ⟨i, by omega, h.1⟩]
        cases bt m j <;> rfl
  · rw [bt_ge (m := m) (by omega)]
    rfl
