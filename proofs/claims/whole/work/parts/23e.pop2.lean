/-! the library's counts of bits -/
def uI (x : Int32) (n : Int32) : Int32 := (x.toUInt32 >>> (n.toUInt32 &&& Int32.toUInt32 31)).toInt32
def pI1 (m : Int32) : Int32 := m - (uI m (Int32.ofInt 1) &&& Int32.ofInt 1431655765)
def pI2 (m : Int32) : Int32 := (m &&& Int32.ofInt 858993459) + (uI m (Int32.ofInt 2) &&& Int32.ofInt 858993459)
def pI3 (m : Int32) : Int32 := (m + uI m (Int32.ofInt 4)) &&& Int32.ofInt 252645135
def pI4 (m : Int32) : Int32 := m + uI m ((Int8.ofInt 8).toInt32)
def pI5 (m : Int32) : Int32 := m + uI m ((Int8.ofInt 16).toInt32)
def pcI (m : Int32) : Int32 := pI5 (pI4 (pI3 (pI2 (pI1 m)))) &&& (Int8.ofInt 63).toInt32
theorem pcI_run {m : Int32} {h : zH} {Q : zQ} {C : Nat → List Value → zH → zQ → Prop} {J : Nat → zK} : zrun zP C 59 J Q zb59_0 53 [(0, .int m)] [] h 0 0 = (0 ≤ zmc (zP 59) ∧ 0 ≤ zms (zP 59) ∧ (0 = 1 → pcI m = 0 ∨ pcI m = 1) ∧ Q (.inl (some (.int (pcI m)))) h) := rfl
theorem e_pcI {m : Int32} {h : zH} {Q : zQ} : zW zP 59 [.int m] h Q = Q (.inl (some (.int (pcI m)))) h := by
  rw [zWE, zg59_0]
  show (_ ∧ zrun zP (zcall zP 59) 59 _ Q zb59_0 53 [(0, .int m)] [] h 0 0) = _
  rw [pcI_run]
  exact propext ⟨fun z => z.2.2.2.2, fun z => ⟨Nat.le_of_ble_eq_true rfl, Nat.zero_le _, Nat.zero_le _, fun h => (by cases h), z⟩⟩
def uL (x : Int64) (n : Int32) : Int64 := (x.toUInt64 >>> (n.toInt64.toUInt64 &&& Int64.toUInt64 63)).toInt64
def pL1 (m : Int64) : Int64 := m - (uL m (Int32.ofInt 1) &&& Int64.ofInt 6148914691236517205)
def pL2 (m : Int64) : Int64 := (m &&& Int64.ofInt 3689348814741910323) + (uL m (Int32.ofInt 2) &&& Int64.ofInt 3689348814741910323)
def pL3 (m : Int64) : Int64 := (m + uL m (Int32.ofInt 4)) &&& Int64.ofInt 1085102592571150095
def pL4 (m : Int64) : Int64 := m + uL m ((Int8.ofInt 8).toInt32)
def pL5 (m : Int64) : Int64 := m + uL m ((Int8.ofInt 16).toInt32)
def pL6 (m : Int64) : Int64 := m + uL m ((Int8.ofInt 32).toInt32)
def pcL (m : Int64) : Int32 := (pL6 (pL5 (pL4 (pL3 (pL2 (pL1 m)))))).toInt32 &&& (Int8.ofInt 127).toInt32
theorem pcL_run {m : Int64} {h : zH} {Q : zQ} {C : Nat → List Value → zH → zQ → Prop} {J : Nat → zK} : zrun zP C 41 J Q zb41_0 61 [(0, .long m)] [] h 0 0 = (0 ≤ zmc (zP 41) ∧ 0 ≤ zms (zP 41) ∧ (0 = 1 → pcL m = 0 ∨ pcL m = 1) ∧ Q (.inl (some (.int (pcL m)))) h) := rfl
theorem e_pcL {m : Int64} {h : zH} {Q : zQ} : zW zP 41 [.long m] h Q = Q (.inl (some (.int (pcL m)))) h := by
  rw [zWE, zg41_0]
  show (_ ∧ zrun zP (zcall zP 41) 41 _ Q zb41_0 61 [(0, .long m)] [] h 0 0) = _
  rw [pcL_run]
  exact propext ⟨fun z => z.2.2.2.2, fun z => ⟨Nat.le_of_ble_eq_true rfl, Nat.zero_le _, Nat.zero_le _, fun h => (by cases h), z⟩⟩
def n32 (m : Int32) : Nat := m.toBitVec.toNat
def n64 (m : Int64) : Nat := m.toBitVec.toNat
theorem n32_lt {m : Int32} : n32 m < 4294967296 := m.toBitVec.isLt
theorem n64_lt {m : Int64} : n64 m < 18446744073709551616 := m.toBitVec.isLt
theorem n32_of {n : Nat} (h : n < 4294967296) : n32 (Int32.ofInt n) = n := by
  unfold n32
  rw [i_bv, BitVec.toNat_ofNat, Nat.mod_eq_of_lt h]
theorem n64_of {n : Nat} (h : n < 18446744073709551616) : n64 (Int64.ofInt n) = n := by
  unfold n64
  rw [l_bv, BitVec.toNat_ofNat, Nat.mod_eq_of_lt h]
theorem n32_and {x y : Int32} : n32 (x &&& y) = n32 x &&& n32 y := by
  unfold n32
  rw [Int32.toBitVec_and, BitVec.toNat_and]
theorem n64_and {x y : Int64} : n64 (x &&& y) = n64 x &&& n64 y := by
  unfold n64
  rw [Int64.toBitVec_and, BitVec.toNat_and]
theorem n32_add {x y : Int32} (h : n32 x + n32 y < 4294967296) : n32 (x + y) = n32 x + n32 y := by
  unfold n32 at *
  rw [Int32.toBitVec_add, BitVec.toNat_add, Nat.mod_eq_of_lt h]
theorem n64_add {x y : Int64} (h : n64 x + n64 y < 18446744073709551616) : n64 (x + y) = n64 x + n64 y := by
  unfold n64 at *
  rw [Int64.toBitVec_add, BitVec.toNat_add, Nat.mod_eq_of_lt h]
theorem n32_sub {x y : Int32} (h : n32 y ≤ n32 x) : n32 (x - y) = n32 x - n32 y := by
  unfold n32 at *
  rw [Int32.toBitVec_sub, BitVec.toNat_sub_of_le h]
theorem n64_sub {x y : Int64} (h : n64 y ≤ n64 x) : n64 (x - y) = n64 x - n64 y := by
  unfold n64 at *
  rw [Int64.toBitVec_sub, BitVec.toNat_sub_of_le h]
theorem n32_sh {x : Int32} {n : Int32} {k : Nat} (hk : (n.toUInt32 &&& Int32.toUInt32 31).toBitVec % 32 = BitVec.ofNat 32 k) (h : k < 32) : n32 (uI x n) = n32 x / 2 ^ k := by
  unfold n32 uI
  show (x.toUInt32 >>> (n.toUInt32 &&& Int32.toUInt32 31)).toBitVec.toNat = _
  rw [UInt32.toBitVec_shiftRight, hk, BitVec.ushiftRight_eq', BitVec.toNat_ushiftRight, BitVec.toNat_ofNat, Nat.mod_eq_of_lt (a := k) (by omega), Nat.shiftRight_eq_div_pow]
  rfl
theorem n64_sh {x : Int64} {n : Int32} {k : Nat} (hk : (n.toInt64.toUInt64 &&& Int64.toUInt64 63).toBitVec % 64 = BitVec.ofNat 64 k) (h : k < 64) : n64 (uL x n) = n64 x / 2 ^ k := by
  unfold n64 uL
  show (x.toUInt64 >>> (n.toInt64.toUInt64 &&& Int64.toUInt64 63)).toBitVec.toNat = _
  rw [UInt64.toBitVec_shiftRight, hk, BitVec.ushiftRight_eq', BitVec.toNat_ushiftRight, BitVec.toNat_ofNat, Nat.mod_eq_of_lt (a := k) (by omega), Nat.shiftRight_eq_div_pow]
  rfl
theorem s2_lt {M x : Nat} {B : Nat} (h : 2 * M < B) : s2 M x < B := by
  unfold s2
  have h1 : x &&& M ≤ M := Nat.and_le_right
  have h2 : x / 4 &&& M ≤ M := Nat.and_le_right
  omega
theorem pcI_eq {m : Int32} : pcI m = Int32.ofInt (cn (n32 m) 32) := by
  have c1 : mk 85 4 = 1431655765 := by decide
  have c2 : mk 51 4 = 858993459 := by decide
  have c3 : mk 15 4 = 252645135 := by decide
  have hm := n32_lt (m := m)
  have e1 : n32 (pI1 m) = s1 (mk 85 4) (n32 m) := by
    unfold pI1 s1
    have ea : n32 (uI m (Int32.ofInt 1) &&& Int32.ofInt 1431655765) = n32 m / 2 &&& mk 85 4 := by
      rw [n32_and, n32_sh (k := 1) (by decide) (by decide), c1]
      rfl
    rw [n32_sub, ea]
    rw [ea]
    exact Nat.le_trans Nat.and_le_left (Nat.div_le_self _ 2)
  have e2 : n32 (pI2 (pI1 m)) = s2 (mk 51 4) (s1 (mk 85 4) (n32 m)) := by
    unfold pI2
    have ea : n32 (pI1 m &&& Int32.ofInt 858993459) = s1 (mk 85 4) (n32 m) &&& mk 51 4 := by
      rw [n32_and, e1, c2]
      rfl
    have eb : n32 (uI (pI1 m) (Int32.ofInt 2) &&& Int32.ofInt 858993459) = s1 (mk 85 4) (n32 m) / 4 &&& mk 51 4 := by
      rw [n32_and, n32_sh (k := 2) (by decide) (by decide), e1, c2]
      rfl
    rw [n32_add, ea, eb]
    · rfl
    · rw [ea, eb]
      exact s2_lt (by rw [c2]; decide)
  obtain ⟨l1, l2⟩ := lanes 4 (n32 m) hm
  have l3 : s2 (mk 51 4) (s1 (mk 85 4) (n32 m)) < 1717986919 := s2_lt (by rw [c2]; decide)
  have e3 : n32 (pI3 (pI2 (pI1 m))) = cb (n32 m) 4 := by
    rw [← l2]
    unfold pI3 s3
    rw [n32_and, n32_add, n32_sh (k := 4) (by decide) (by decide), e2, c3]
    · rfl
    · rw [n32_sh (k := 4) (by decide) (by decide), e2]
      omega
  obtain ⟨k1, k2, k3, k4⟩ := cb_4 hm
  have e4 : n32 (pI4 (pI3 (pI2 (pI1 m)))) = cb (n32 m) 4 + cb (n32 m) 4 / 256 := by
    unfold pI4
    rw [n32_add, n32_sh (k := 8) (by decide) (by decide), e3]
    rw [n32_sh (k := 8) (by decide) (by decide), e3]
    exact k2
  have e5 : n32 (pI5 (pI4 (pI3 (pI2 (pI1 m))))) = cb (n32 m) 4 + cb (n32 m) 4 / 256 + (cb (n32 m) 4 + cb (n32 m) 4 / 256) / 65536 := by
    unfold pI5
    rw [n32_add, n32_sh (k := 16) (by decide) (by decide), e4]
    rw [n32_sh (k := 16) (by decide) (by decide), e4]
    exact k3
  apply Int32.toBitVec.inj
  apply BitVec.eq_of_toNat_eq
  show n32 (pcI m) = n32 _
  have hc := cn_le (x := n32 m) 32
  unfold pcI
  rw [n32_and, e5, n32_of (by omega), show n32 ((Int8.ofInt 63).toInt32) = 2 ^ 6 - 1 from by decide, Nat.and_two_pow_sub_one_eq_mod]
  exact k4
theorem pcL_eq {m : Int64} : pcL m = Int32.ofInt (cn (n64 m) 64) := by
  have c1 : mk 85 8 = 6148914691236517205 := by decide
  have c2 : mk 51 8 = 3689348814741910323 := by decide
  have c3 : mk 15 8 = 1085102592571150095 := by decide
  have hm := n64_lt (m := m)
  have e1 : n64 (pL1 m) = s1 (mk 85 8) (n64 m) := by
    unfold pL1 s1
    have ea : n64 (uL m (Int32.ofInt 1) &&& Int64.ofInt 6148914691236517205) = n64 m / 2 &&& mk 85 8 := by
      rw [n64_and, n64_sh (k := 1) (by decide) (by decide), c1]
      rfl
    rw [n64_sub, ea]
    rw [ea]
    exact Nat.le_trans Nat.and_le_left (Nat.div_le_self _ 2)
  have e2 : n64 (pL2 (pL1 m)) = s2 (mk 51 8) (s1 (mk 85 8) (n64 m)) := by
    unfold pL2
    have ea : n64 (pL1 m &&& Int64.ofInt 3689348814741910323) = s1 (mk 85 8) (n64 m) &&& mk 51 8 := by
      rw [n64_and, e1, c2]
      rfl
    have eb : n64 (uL (pL1 m) (Int32.ofInt 2) &&& Int64.ofInt 3689348814741910323) = s1 (mk 85 8) (n64 m) / 4 &&& mk 51 8 := by
      rw [n64_and, n64_sh (k := 2) (by decide) (by decide), e1, c2]
      rfl
    rw [n64_add, ea, eb]
    · rfl
    · rw [ea, eb]
      exact s2_lt (by rw [c2]; decide)
  obtain ⟨l1, l2⟩ := lanes 8 (n64 m) hm
  have l3 : s2 (mk 51 8) (s1 (mk 85 8) (n64 m)) < 7378697629483820647 := s2_lt (by rw [c2]; decide)
  have e3 : n64 (pL3 (pL2 (pL1 m))) = cb (n64 m) 8 := by
    rw [← l2]
    unfold pL3 s3
    rw [n64_and, n64_add, n64_sh (k := 4) (by decide) (by decide), e2, c3]
    · rfl
    · rw [n64_sh (k := 4) (by decide) (by decide), e2]
      omega
  obtain ⟨k1, k2, k3, k4, k5⟩ := cb_8 hm
  have e4 : n64 (pL4 (pL3 (pL2 (pL1 m)))) = cb (n64 m) 8 + cb (n64 m) 8 / 256 := by
    unfold pL4
    rw [n64_add, n64_sh (k := 8) (by decide) (by decide), e3]
    rw [n64_sh (k := 8) (by decide) (by decide), e3]
    exact k2
  have e5 : n64 (pL5 (pL4 (pL3 (pL2 (pL1 m))))) = cb (n64 m) 8 + cb (n64 m) 8 / 256 + (cb (n64 m) 8 + cb (n64 m) 8 / 256) / 65536 := by
    unfold pL5
    rw [n64_add, n64_sh (k := 16) (by decide) (by decide), e4]
    rw [n64_sh (k := 16) (by decide) (by decide), e4]
    exact k3
  have e6 : n64 (pL6 (pL5 (pL4 (pL3 (pL2 (pL1 m)))))) = cb (n64 m) 8 + cb (n64 m) 8 / 256 + (cb (n64 m) 8 + cb (n64 m) 8 / 256) / 65536 + (cb (n64 m) 8 + cb (n64 m) 8 / 256 + (cb (n64 m) 8 + cb (n64 m) 8 / 256) / 65536) / 4294967296 := by
    unfold pL6
    rw [n64_add, n64_sh (k := 32) (by decide) (by decide), e5]
    rw [n64_sh (k := 32) (by decide) (by decide), e5]
    exact k4
  apply Int32.toBitVec.inj
  apply BitVec.eq_of_toNat_eq
  show n32 (pcL m) = n32 _
  have hc := cn_le (x := n64 m) 64
  unfold pcL
  have et : ∀ y : Int64, n32 y.toInt32 = n64 y % 4294967296 := by
    intro y
    unfold n32 n64
    rw [Int64.toBitVec_toInt32, BitVec.signExtend_eq_setWidth_of_le _ (by decide), BitVec.toNat_setWidth]
  rw [n32_and, et, e6, n32_of (by omega), show n32 ((Int8.ofInt 127).toInt32) = 2 ^ 7 - 1 from by decide, Nat.and_two_pow_sub_one_eq_mod, show (4294967296 : Nat) = 2 ^ 32 from rfl, Nat.mod_mod_of_dvd _ (by decide)]
  exact k5
theorem bt_n64 {m : Int64} {j : Nat} : bt m j = (n64 m).testBit j := rfl
theorem cn_pred {i : Nat} (h : i < 64) : cn (2 ^ i - 1) 64 = i := by
  have : ∀ j : Fin 64, cn (2 ^ (j : Nat) - 1) 64 = (j : Nat) := by decide +kernel
  exact this ⟨i, h⟩
theorem pcL_lo {m : Int64} {i : Nat} (h : lo m i) : pcL ((m &&& -m) - Int64.ofNat 1) = Int32.ofInt i := by
  have hi := bt_lt h.1
  have e1 : n64 (m &&& -m) = 2 ^ i := by
    rw [lo_and h]
    have hh : ∀ j : Fin 64, n64 (Int64.ofNat 1 <<< ((Int32.ofInt ((j : Nat) : Int)).toInt64 &&& 63)) = 2 ^ (j : Nat) := by decide +kernel
    exact hh ⟨i, hi⟩
  have e2 : n64 (Int64.ofNat 1) = 1 := by decide
  rw [pcL_eq, n64_sub, e1, e2, cn_pred hi]
  rw [e1, e2]
  exact Nat.one_le_two_pow
