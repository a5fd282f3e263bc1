/-! THE PROGRAM'S TABLE, WHOLE -/
set_option maxRecDepth 10000 in
theorem zcl13 : Cond.classLink (zcn 13) 13 "java/lang/IllegalArgumentException" ∈ zGW := zw (zt2 (i := 239) rfl) rfl
set_option maxRecDepth 10000 in
theorem zcl22 : Cond.classLink (zcn 13) 22 "java/util/NoSuchElementException" ∈ zGW := zw (zt4 (i := 33) rfl) rfl
set_option maxRecDepth 10000 in
theorem zcl49 : Cond.classLink (zcn 13) 49 "java/lang/IndexOutOfBoundsException" ∈ zGW := zw (zt4 (i := 162) rfl) rfl
set_option maxRecDepth 10000 in
theorem zca13 : Cond.castable "java/lang/IllegalArgumentException" "java/lang/IllegalArgumentException" ∈ zXW := zxw (zt3 (i := 6) rfl) rfl
set_option maxRecDepth 10000 in
theorem zca22 : Cond.castable "java/util/NoSuchElementException" "java/util/NoSuchElementException" ∈ zXW := zxw (zt4 (i := 44) rfl) rfl
set_option maxRecDepth 10000 in
theorem zca49 : Cond.castable "java/lang/IndexOutOfBoundsException" "java/lang/IndexOutOfBoundsException" ∈ zXW := zxw (zt4 (i := 173) rfl) rfl
theorem zH_no {M : zM} (h1 : zhh M = none) (h2 : zhd M = []) : zHok M := by
  refine ⟨fun _ => h2, fun c hc => ⟨fun pc E t pl h => ?_, fun _ x hx => ?_⟩⟩
  · rw [h2] at h
    cases h
  · rw [h1] at hc
    have hc : c.exceptionTable.toList = [] := hc
    rw [hc] at hx
    cases hx
/-- the decode of a handler's first instruction -/
def zAs (cc : ByteArray) (hp t pl : Nat) : Prop := (∃ k : Fin 4, (k : Nat) = pl ∧ decode cc hp = .ok (.astore_n k, 1) ∧ t = hp + 1) ∨ (decode cc hp = .ok (.astore pl, 2) ∧ t = hp + 2)
theorem zcov {a b hp ct pc : Nat} (h1 : a ≤ pc) (h2 : pc < b) : covers ⟨a, b, hp, ct⟩ pc = true := by
  unfold covers
  simp [h1, h2]
theorem zH_1 {M : zM} {a b hp ct t pl : Nat} {E : String} (h1 : zhh M = some [(a, b, hp, ct)]) (h2 : zhd M = [(a, b, t, E, pl)]) (w1 : Cond.classLink (zcn (zown M)) ct E ∈ zGW) (hct : ct ≠ 0) (w2 : Cond.castable E E ∈ zXW) (hd : zAs (zcc M) hp t pl) (hpl : pl < zml M) : zHok M := by
  refine ⟨fun h => (by rw [h1] at h; cases h), fun c hc => ⟨fun pc E2 t2 pl2 h => ?_, fun h => (by rw [h2] at h; cases h)⟩⟩
  rw [h1] at hc
  have hc : c.exceptionTable.toList = [⟨a, b, hp, ct⟩] := hc
  rw [h2] at h
  unfold zthr at h
  rw [List.find?_cons] at h
  cases hq : (decide (a ≤ pc) && (decide (pc < b) && decide (E = E2))) with
  | false =>
    rw [hq] at h
    cases h
  | true =>
    rw [hq] at h
    have h : some (t, pl) = some (t2, pl2) := h
    cases h
    rw [Bool.and_eq_true, Bool.and_eq_true, decide_eq_true_eq, decide_eq_true_eq, decide_eq_true_eq] at hq
    obtain ⟨q1, q2, q3⟩ := hq
    subst q3
    exact ⟨[], ⟨a, b, hp, ct⟩, [], hc, fun z hz => (by cases hz), zcov q1 q2, hct, w1, w2, hd, hpl⟩
theorem zH_2 {M : zM} {a b hp ct t pl hp2 ct2 t3 pl3 : Nat} {E F : String} (h1 : zhh M = some [(a, b, hp, ct), (a, b, hp2, ct2)]) (h2 : zhd M = [(a, b, t, E, pl), (a, b, t3, F, pl3)]) (w1 : Cond.classLink (zcn (zown M)) ct E ∈ zGW) (hct : ct ≠ 0) (w2 : Cond.castable E E ∈ zXW) (hd : zAs (zcc M) hp t pl) (hpl : pl < zml M) (v1 : Cond.classLink (zcn (zown M)) ct2 F ∈ zGW) (hct2 : ct2 ≠ 0) (v2 : Cond.castable F F ∈ zXW) (hd2 : zAs (zcc M) hp2 t3 pl3) (hpl2 : pl3 < zml M) (hEF : (F, E) ∈ zNC) : zHok M := by
  refine ⟨fun h => (by rw [h1] at h; cases h), fun c hc => ⟨fun pc E2 t2 pl2 h => ?_, fun h => (by rw [h2] at h; cases h)⟩⟩
  rw [h1] at hc
  have hc : c.exceptionTable.toList = [⟨a, b, hp, ct⟩, ⟨a, b, hp2, ct2⟩] := hc
  rw [h2] at h
  unfold zthr at h
  rw [List.find?_cons] at h
  cases hq : (decide (a ≤ pc) && (decide (pc < b) && decide (E = E2))) with
  | true =>
    rw [hq] at h
    have h : some (t, pl) = some (t2, pl2) := h
    cases h
    rw [Bool.and_eq_true, Bool.and_eq_true, decide_eq_true_eq, decide_eq_true_eq, decide_eq_true_eq] at hq
    obtain ⟨q1, q2, q3⟩ := hq
    subst q3
    exact ⟨[], ⟨a, b, hp, ct⟩, [⟨a, b, hp2, ct2⟩], hc, fun z hz => (by cases hz), zcov q1 q2, hct, w1, w2, hd, hpl⟩
  | false =>
    rw [hq] at h
    dsimp only at h
    rw [List.find?_cons] at h
    cases hq2 : (decide (a ≤ pc) && (decide (pc < b) && decide (F = E2))) with
    | false =>
      rw [hq2] at h
      cases h
    | true =>
      rw [hq2] at h
      have h : some (t3, pl3) = some (t2, pl2) := h
      cases h
      rw [Bool.and_eq_true, Bool.and_eq_true, decide_eq_true_eq, decide_eq_true_eq, decide_eq_true_eq] at hq2
      obtain ⟨q1, q2, q3⟩ := hq2
      subst q3
      exact ⟨[⟨a, b, hp, ct⟩], ⟨a, b, hp2, ct2⟩, [], hc, fun z hz => .inr (by
        rw [List.mem_singleton] at hz
        subst hz
        exact ⟨hct, E, w1, hEF⟩), zcov q1 q2, hct2, v1, v2, hd2, hpl2⟩
theorem zHk36 : zHok zm36 := zH_2 rfl rfl zcl22 (by decide) zca22 (.inr ⟨by decide +kernel, rfl⟩) (Nat.le_of_ble_eq_true rfl) zcl13 (by decide) zca13 (.inr ⟨by decide +kernel, rfl⟩) (Nat.le_of_ble_eq_true rfl) (by decide)
theorem zHk38 : zHok zm38 := zH_1 rfl rfl zcl13 (by decide) zca13 (.inl ⟨3, rfl, by decide +kernel, rfl⟩) (Nat.le_of_ble_eq_true rfl)
theorem zHk52 : zHok zm52 := zH_1 rfl rfl zcl13 (by decide) zca13 (.inr ⟨by decide +kernel, rfl⟩) (Nat.le_of_ble_eq_true rfl)
theorem zHk64 : zHok zm64 := zH_2 rfl rfl zcl49 (by decide) zca49 (.inr ⟨by decide +kernel, rfl⟩) (Nat.le_of_ble_eq_true rfl) zcl13 (by decide) zca13 (.inr ⟨by decide +kernel, rfl⟩) (Nat.le_of_ble_eq_true rfl) (by decide)
theorem zHk72 : zHok zm72 := zH_1 rfl rfl zcl13 (by decide) zca13 (.inr ⟨by decide +kernel, rfl⟩) (Nat.le_of_ble_eq_true rfl)
theorem zHk77 : zHok zm77 := zH_1 rfl rfl zcl13 (by decide) zca13 (.inl ⟨3, rfl, by decide +kernel, rfl⟩) (Nat.le_of_ble_eq_true rfl)
theorem zHk86 : zHok zm86 := zH_1 rfl rfl zcl13 (by decide) zca13 (.inr ⟨by decide +kernel, rfl⟩) (Nat.le_of_ble_eq_true rfl)
theorem zHk90 : zHok zm90 := zH_1 rfl rfl zcl22 (by decide) zca22 (.inl ⟨3, rfl, by decide +kernel, rfl⟩) (Nat.le_of_ble_eq_true rfl)
theorem zHk95 : zHok zm95 := zH_1 rfl rfl zcl13 (by decide) zca13 (.inl ⟨3, rfl, by decide +kernel, rfl⟩) (Nat.le_of_ble_eq_true rfl)
theorem zHk97 : zHok zm97 := zH_2 rfl rfl zcl49 (by decide) zca49 (.inr ⟨by decide +kernel, rfl⟩) (Nat.le_of_ble_eq_true rfl) zcl13 (by decide) zca13 (.inr ⟨by decide +kernel, rfl⟩) (Nat.le_of_ble_eq_true rfl) (by decide)
theorem zHk103 : zHok zm103 := zH_1 rfl rfl zcl13 (by decide) zca13 (.inr ⟨by decide +kernel, rfl⟩) (Nat.le_of_ble_eq_true rfl)
theorem zHk105 : zHok zm105 := zH_1 rfl rfl zcl13 (by decide) zca13 (.inr ⟨by decide +kernel, rfl⟩) (Nat.le_of_ble_eq_true rfl)
theorem zHk108 : zHok zm108 := zH_1 rfl rfl zcl13 (by decide) zca13 (.inr ⟨by decide +kernel, rfl⟩) (Nat.le_of_ble_eq_true rfl)
theorem zHk118 : zHok zm118 := zH_1 rfl rfl zcl13 (by decide) zca13 (.inl ⟨3, rfl, by decide +kernel, rfl⟩) (Nat.le_of_ble_eq_true rfl)
theorem zHk122 : zHok zm122 := zH_2 rfl rfl zcl22 (by decide) zca22 (.inr ⟨by decide +kernel, rfl⟩) (Nat.le_of_ble_eq_true rfl) zcl13 (by decide) zca13 (.inr ⟨by decide +kernel, rfl⟩) (Nat.le_of_ble_eq_true rfl) (by decide)
theorem zHk124 : zHok zm124 := zH_1 rfl rfl zcl13 (by decide) zca13 (.inr ⟨by decide +kernel, rfl⟩) (Nat.le_of_ble_eq_true rfl)
theorem zHk127 : zHok zm127 := zH_1 rfl rfl zcl13 (by decide) zca13 (.inr ⟨by decide +kernel, rfl⟩) (Nat.le_of_ble_eq_true rfl)
theorem zHk130 : zHok zm130 := zH_2 rfl rfl zcl49 (by decide) zca49 (.inr ⟨by decide +kernel, rfl⟩) (Nat.le_of_ble_eq_true rfl) zcl13 (by decide) zca13 (.inr ⟨by decide +kernel, rfl⟩) (Nat.le_of_ble_eq_true rfl) (by decide)
theorem zHk132 : zHok zm132 := zH_2 rfl rfl zcl49 (by decide) zca49 (.inr ⟨by decide +kernel, rfl⟩) (Nat.le_of_ble_eq_true rfl) zcl13 (by decide) zca13 (.inr ⟨by decide +kernel, rfl⟩) (Nat.le_of_ble_eq_true rfl) (by decide)
theorem zHk141 : zHok zm141 := zH_2 rfl rfl zcl49 (by decide) zca49 (.inr ⟨by decide +kernel, rfl⟩) (Nat.le_of_ble_eq_true rfl) zcl13 (by decide) zca13 (.inr ⟨by decide +kernel, rfl⟩) (Nat.le_of_ble_eq_true rfl) (by decide)
theorem zHk143 : zHok zm143 := zH_2 rfl rfl zcl22 (by decide) zca22 (.inr ⟨by decide +kernel, rfl⟩) (Nat.le_of_ble_eq_true rfl) zcl13 (by decide) zca13 (.inr ⟨by decide +kernel, rfl⟩) (Nat.le_of_ble_eq_true rfl) (by decide)
theorem zHk145 : zHok zm145 := zH_2 rfl rfl zcl49 (by decide) zca49 (.inr ⟨by decide +kernel, rfl⟩) (Nat.le_of_ble_eq_true rfl) zcl13 (by decide) zca13 (.inr ⟨by decide +kernel, rfl⟩) (Nat.le_of_ble_eq_true rfl) (by decide)
theorem zHk147 : zHok zm147 := zH_2 rfl rfl zcl22 (by decide) zca22 (.inr ⟨by decide +kernel, rfl⟩) (Nat.le_of_ble_eq_true rfl) zcl13 (by decide) zca13 (.inr ⟨by decide +kernel, rfl⟩) (Nat.le_of_ble_eq_true rfl) (by decide)
theorem zHk149 : zHok zm149 := zH_2 rfl rfl zcl49 (by decide) zca49 (.inr ⟨by decide +kernel, rfl⟩) (Nat.le_of_ble_eq_true rfl) zcl13 (by decide) zca13 (.inr ⟨by decide +kernel, rfl⟩) (Nat.le_of_ble_eq_true rfl) (by decide)
theorem zHk151 : zHok zm151 := zH_2 rfl rfl zcl22 (by decide) zca22 (.inr ⟨by decide +kernel, rfl⟩) (Nat.le_of_ble_eq_true rfl) zcl13 (by decide) zca13 (.inr ⟨by decide +kernel, rfl⟩) (Nat.le_of_ble_eq_true rfl) (by decide)
theorem zHk158 : zHok zm158 := zH_1 rfl rfl zcl13 (by decide) zca13 (.inr ⟨by decide +kernel, rfl⟩) (Nat.le_of_ble_eq_true rfl)
theorem zHk161 : zHok zm161 := zH_1 rfl rfl zcl49 (by decide) zca49 (.inl ⟨3, rfl, by decide +kernel, rfl⟩) (Nat.le_of_ble_eq_true rfl)
theorem zHk163 : zHok zm163 := zH_2 rfl rfl zcl22 (by decide) zca22 (.inr ⟨by decide +kernel, rfl⟩) (Nat.le_of_ble_eq_true rfl) zcl13 (by decide) zca13 (.inr ⟨by decide +kernel, rfl⟩) (Nat.le_of_ble_eq_true rfl) (by decide)
theorem zHk165 : zHok zm165 := zH_1 rfl rfl zcl13 (by decide) zca13 (.inl ⟨3, rfl, by decide +kernel, rfl⟩) (Nat.le_of_ble_eq_true rfl)
theorem zHk196 : zHok zm196 := zH_1 rfl rfl zcl13 (by decide) zca13 (.inl ⟨3, rfl, by decide +kernel, rfl⟩) (Nat.le_of_ble_eq_true rfl)
theorem zHk200 : zHok zm200 := zH_1 rfl rfl zcl13 (by decide) zca13 (.inl ⟨3, rfl, by decide +kernel, rfl⟩) (Nat.le_of_ble_eq_true rfl)
theorem zHk202 : zHok zm202 := zH_1 rfl rfl zcl22 (by decide) zca22 (.inr ⟨by decide +kernel, rfl⟩) (Nat.le_of_ble_eq_true rfl)
theorem zcw_0 : ∀ w ∈ u_ws RX0 TX0 4, w ∈ zGW := by decide +kernel
theorem zcw_1 : ∀ w ∈ u_ws RX1 TX1 7, w ∈ zGW := by decide +kernel
theorem zcw_2 : ∀ w ∈ u_ws RX2 TX2 4, w ∈ zGW := by decide +kernel
theorem zcw_3 : ∀ w ∈ u_ws RX3 TX3 7, w ∈ zGW := by decide +kernel
theorem zcw_4 : ∀ w ∈ u_ws RX5 TX5 6, w ∈ zGW := by decide +kernel
theorem zcw_5 : ∀ w ∈ u_ws RX6 TX6 3, w ∈ zGW := by decide +kernel
theorem zcw_6 : ∀ w ∈ u_ws RX7 TX7 3, w ∈ zGW := by decide +kernel
theorem zcw_7 : ∀ w ∈ u_ws RX8 TX8 6, w ∈ zGW := by decide +kernel
theorem zcw_8 : ∀ w ∈ u_ws RX9 TX9 19, w ∈ zGW := by decide +kernel
theorem zcw_9 : ∀ w ∈ u_ws RX10 TX10 10, w ∈ zGW := by decide +kernel
theorem zcw_10 : ∀ w ∈ u_ws RX11 TX11 14, w ∈ zGW := by decide +kernel
theorem zcw_11 : ∀ w ∈ u_ws RX12 TX12 60, w ∈ zGW := by decide +kernel
theorem zCL : zCLok := by
  intro ci r h
  have hc : ci < 12 := by
    apply Classical.byContradiction
    intro c
    rw [List.getElem?_eq_none (by show 12 ≤ ci; omega)] at h
    cases h
  have hs : ci = 0 ∨ ci = 1 ∨ ci = 2 ∨ ci = 3 ∨ ci = 4 ∨ ci = 5 ∨ ci = 6 ∨ ci = 7 ∨ ci = 8 ∨ ci = 9 ∨ ci = 10 ∨ ci = 11 := by omega
  rcases hs with e | e | e | e | e | e | e | e | e | e | e | e <;> subst e
  · have h : some (RX0, TX0, 4) = some r := h
    cases h
    exact ⟨zcw_0, tyX0_ok, nmX0, rfl, by decide +kernel⟩
  · have h : some (RX1, TX1, 7) = some r := h
    cases h
    exact ⟨zcw_1, tyX1_ok, nmX1, rfl, by decide +kernel⟩
  · have h : some (RX2, TX2, 4) = some r := h
    cases h
    exact ⟨zcw_2, tyX2_ok, nmX2, rfl, by decide +kernel⟩
  · have h : some (RX3, TX3, 7) = some r := h
    cases h
    exact ⟨zcw_3, tyX3_ok, nmX3, rfl, by decide +kernel⟩
  · have h : some (RX5, TX5, 6) = some r := h
    cases h
    exact ⟨zcw_4, tyX5_ok, nmX5, rfl, by decide +kernel⟩
  · have h : some (RX6, TX6, 3) = some r := h
    cases h
    exact ⟨zcw_5, tyX6_ok, nmX6, rfl, by decide +kernel⟩
  · have h : some (RX7, TX7, 3) = some r := h
    cases h
    exact ⟨zcw_6, tyX7_ok, nmX7, rfl, by decide +kernel⟩
  · have h : some (RX8, TX8, 6) = some r := h
    cases h
    exact ⟨zcw_7, tyX8_ok, nmX8, rfl, by decide +kernel⟩
  · have h : some (RX9, TX9, 19) = some r := h
    cases h
    exact ⟨zcw_8, tyX9_ok, nmX9, rfl, by decide +kernel⟩
  · have h : some (RX10, TX10, 10) = some r := h
    cases h
    exact ⟨zcw_9, tyX10_ok, nmX10, rfl, by decide +kernel⟩
  · have h : some (RX11, TX11, 14) = some r := h
    cases h
    exact ⟨zcw_10, tyX11_ok, nmX11, rfl, by decide +kernel⟩
  · have h : some (RX12, TX12, 60) = some r := h
    cases h
    exact ⟨zcw_11, tyX12_ok, nmX12, rfl, by decide +kernel⟩
def zOne (k : Nat) : Prop := zHok (zP k) ∧ zBok zP k ∧ plainFor (zy (zP k)) = true ∧ (zy (zP k)).cls = zcn (zown (zP k))
theorem zon0 : zOne 0 := ⟨zH_no rfl rfl, zBok_of zck0, by decide +kernel, by decide +kernel⟩
theorem zon1 : zOne 1 := ⟨zH_no rfl rfl, zBok_of zck1, by decide +kernel, by decide +kernel⟩
theorem zon2 : zOne 2 := ⟨zH_no rfl rfl, zBok_of zck2, by decide +kernel, by decide +kernel⟩
theorem zon3 : zOne 3 := ⟨zH_no rfl rfl, zBok_of zck3, by decide +kernel, by decide +kernel⟩
theorem zon4 : zOne 4 := ⟨zH_no rfl rfl, zBok_of zck4, by decide +kernel, by decide +kernel⟩
theorem zon5 : zOne 5 := ⟨zH_no rfl rfl, zBok_of zck5, by decide +kernel, by decide +kernel⟩
theorem zon6 : zOne 6 := ⟨zH_no rfl rfl, zBok_of zck6, by decide +kernel, by decide +kernel⟩
theorem zon7 : zOne 7 := ⟨zH_no rfl rfl, zBok_of zck7, by decide +kernel, by decide +kernel⟩
theorem zon8 : zOne 8 := ⟨zH_no rfl rfl, zBok_of zck8, by decide +kernel, by decide +kernel⟩
theorem zon9 : zOne 9 := ⟨zH_no rfl rfl, zBok_of zck9, by decide +kernel, by decide +kernel⟩
theorem zon10 : zOne 10 := ⟨zH_no rfl rfl, zBok_of zck10, by decide +kernel, by decide +kernel⟩
theorem zon11 : zOne 11 := ⟨zH_no rfl rfl, zBok_of zck11, by decide +kernel, by decide +kernel⟩
theorem zon12 : zOne 12 := ⟨zH_no rfl rfl, zBok_of zck12, by decide +kernel, by decide +kernel⟩
theorem zon13 : zOne 13 := ⟨zH_no rfl rfl, zBok_of zck13, by decide +kernel, by decide +kernel⟩
theorem zon14 : zOne 14 := ⟨zH_no rfl rfl, zBok_of zck14, by decide +kernel, by decide +kernel⟩
theorem zon15 : zOne 15 := ⟨zH_no rfl rfl, zBok_of zck15, by decide +kernel, by decide +kernel⟩
theorem zon16 : zOne 16 := ⟨zH_no rfl rfl, zBok_of zck16, by decide +kernel, by decide +kernel⟩
theorem zon17 : zOne 17 := ⟨zH_no rfl rfl, zBok_of zck17, by decide +kernel, by decide +kernel⟩
theorem zon18 : zOne 18 := ⟨zH_no rfl rfl, zBok_of zck18, by decide +kernel, by decide +kernel⟩
theorem zon19 : zOne 19 := ⟨zH_no rfl rfl, zBok_of zck19, by decide +kernel, by decide +kernel⟩
theorem zon20 : zOne 20 := ⟨zH_no rfl rfl, zBok_of zck20, by decide +kernel, by decide +kernel⟩
theorem zon21 : zOne 21 := ⟨zH_no rfl rfl, zBok_of zck21, by decide +kernel, by decide +kernel⟩
theorem zon22 : zOne 22 := ⟨zH_no rfl rfl, zBok_of zck22, by decide +kernel, by decide +kernel⟩
theorem zon23 : zOne 23 := ⟨zH_no rfl rfl, zBok_of zck23, by decide +kernel, by decide +kernel⟩
theorem zon24 : zOne 24 := ⟨zH_no rfl rfl, zBok_of zck24, by decide +kernel, by decide +kernel⟩
theorem zon25 : zOne 25 := ⟨zH_no rfl rfl, zBok_of zck25, by decide +kernel, by decide +kernel⟩
theorem zon26 : zOne 26 := ⟨zH_no rfl rfl, zBok_of zck26, by decide +kernel, by decide +kernel⟩
theorem zon27 : zOne 27 := ⟨zH_no rfl rfl, zBok_of zck27, by decide +kernel, by decide +kernel⟩
theorem zon28 : zOne 28 := ⟨zH_no rfl rfl, zBok_of zck28, by decide +kernel, by decide +kernel⟩
theorem zon29 : zOne 29 := ⟨zH_no rfl rfl, zBok_of zck29, by decide +kernel, by decide +kernel⟩
theorem zon30 : zOne 30 := ⟨zH_no rfl rfl, zBok_of zck30, by decide +kernel, by decide +kernel⟩
theorem zon31 : zOne 31 := ⟨zH_no rfl rfl, zBok_of zck31, by decide +kernel, by decide +kernel⟩
theorem zon32 : zOne 32 := ⟨zH_no rfl rfl, zBok_of zck32, by decide +kernel, by decide +kernel⟩
theorem zon33 : zOne 33 := ⟨zH_no rfl rfl, zBok_of zck33, by decide +kernel, by decide +kernel⟩
theorem zon34 : zOne 34 := ⟨zH_no rfl rfl, zBok_of zck34, by decide +kernel, by decide +kernel⟩
theorem zon35 : zOne 35 := ⟨zH_no rfl rfl, zBok_of zck35, by decide +kernel, by decide +kernel⟩
theorem zon36 : zOne 36 := ⟨zHk36, zBok_of zck36, by decide +kernel, by decide +kernel⟩
theorem zon37 : zOne 37 := ⟨zH_no rfl rfl, zBok_of zck37, by decide +kernel, by decide +kernel⟩
theorem zon38 : zOne 38 := ⟨zHk38, zBok_of zck38, by decide +kernel, by decide +kernel⟩
theorem zon39 : zOne 39 := ⟨zH_no rfl rfl, zBok_of zck39, by decide +kernel, by decide +kernel⟩
theorem zon40 : zOne 40 := ⟨zH_no rfl rfl, zBok_of zck40, by decide +kernel, by decide +kernel⟩
theorem zon41 : zOne 41 := ⟨zH_no rfl rfl, zBok_of zck41, by decide +kernel, by decide +kernel⟩
theorem zon42 : zOne 42 := ⟨zH_no rfl rfl, zBok_of zck42, by decide +kernel, by decide +kernel⟩
theorem zon43 : zOne 43 := ⟨zH_no rfl rfl, zBok_of zck43, by decide +kernel, by decide +kernel⟩
theorem zon44 : zOne 44 := ⟨zH_no rfl rfl, zBok_of zck44, by decide +kernel, by decide +kernel⟩
theorem zon45 : zOne 45 := ⟨zH_no rfl rfl, zBok_of zck45, by decide +kernel, by decide +kernel⟩
theorem zon46 : zOne 46 := ⟨zH_no rfl rfl, zBok_of zck46, by decide +kernel, by decide +kernel⟩
theorem zon47 : zOne 47 := ⟨zH_no rfl rfl, zBok_of zck47, by decide +kernel, by decide +kernel⟩
theorem zon48 : zOne 48 := ⟨zH_no rfl rfl, zBok_of zck48, by decide +kernel, by decide +kernel⟩
theorem zon49 : zOne 49 := ⟨zH_no rfl rfl, zBok_of zck49, by decide +kernel, by decide +kernel⟩
theorem zon50 : zOne 50 := ⟨zH_no rfl rfl, zBok_of zck50, by decide +kernel, by decide +kernel⟩
theorem zon51 : zOne 51 := ⟨zH_no rfl rfl, zBok_of zck51, by decide +kernel, by decide +kernel⟩
theorem zon52 : zOne 52 := ⟨zHk52, zBok_of zck52, by decide +kernel, by decide +kernel⟩
theorem zon53 : zOne 53 := ⟨zH_no rfl rfl, zBok_of zck53, by decide +kernel, by decide +kernel⟩
theorem zon54 : zOne 54 := ⟨zH_no rfl rfl, zBok_of zck54, by decide +kernel, by decide +kernel⟩
theorem zon55 : zOne 55 := ⟨zH_no rfl rfl, zBok_of zck55, by decide +kernel, by decide +kernel⟩
theorem zon56 : zOne 56 := ⟨zH_no rfl rfl, zBok_of zck56, by decide +kernel, by decide +kernel⟩
theorem zon57 : zOne 57 := ⟨zH_no rfl rfl, zBok_of zck57, by decide +kernel, by decide +kernel⟩
theorem zon58 : zOne 58 := ⟨zH_no rfl rfl, zBok_of zck58, by decide +kernel, by decide +kernel⟩
theorem zon59 : zOne 59 := ⟨zH_no rfl rfl, zBok_of zck59, by decide +kernel, by decide +kernel⟩
theorem zon60 : zOne 60 := ⟨zH_no rfl rfl, zBok_of zck60, by decide +kernel, by decide +kernel⟩
theorem zon61 : zOne 61 := ⟨zH_no rfl rfl, zBok_of zck61, by decide +kernel, by decide +kernel⟩
theorem zon62 : zOne 62 := ⟨zH_no rfl rfl, zBok_of zck62, by decide +kernel, by decide +kernel⟩
theorem zon63 : zOne 63 := ⟨zH_no rfl rfl, zBok_of zck63, by decide +kernel, by decide +kernel⟩
theorem zon64 : zOne 64 := ⟨zHk64, zBok_of zck64, by decide +kernel, by decide +kernel⟩
theorem zon65 : zOne 65 := ⟨zH_no rfl rfl, zBok_of zck65, by decide +kernel, by decide +kernel⟩
theorem zon66 : zOne 66 := ⟨zH_no rfl rfl, zBok_of zck66, by decide +kernel, by decide +kernel⟩
theorem zon67 : zOne 67 := ⟨zH_no rfl rfl, zBok_of zck67, by decide +kernel, by decide +kernel⟩
theorem zon68 : zOne 68 := ⟨zH_no rfl rfl, zBok_of zck68, by decide +kernel, by decide +kernel⟩
theorem zon69 : zOne 69 := ⟨zH_no rfl rfl, zBok_of zck69, by decide +kernel, by decide +kernel⟩
theorem zon70 : zOne 70 := ⟨zH_no rfl rfl, zBok_of zck70, by decide +kernel, by decide +kernel⟩
theorem zon71 : zOne 71 := ⟨zH_no rfl rfl, zBok_of zck71, by decide +kernel, by decide +kernel⟩
theorem zon72 : zOne 72 := ⟨zHk72, zBok_of zck72, by decide +kernel, by decide +kernel⟩
theorem zon73 : zOne 73 := ⟨zH_no rfl rfl, zBok_of zck73, by decide +kernel, by decide +kernel⟩
theorem zon74 : zOne 74 := ⟨zH_no rfl rfl, zBok_of zck74, by decide +kernel, by decide +kernel⟩
theorem zon75 : zOne 75 := ⟨zH_no rfl rfl, zBok_of zck75, by decide +kernel, by decide +kernel⟩
theorem zon76 : zOne 76 := ⟨zH_no rfl rfl, zBok_of zck76, by decide +kernel, by decide +kernel⟩
theorem zon77 : zOne 77 := ⟨zHk77, zBok_of zck77, by decide +kernel, by decide +kernel⟩
theorem zon78 : zOne 78 := ⟨zH_no rfl rfl, zBok_of zck78, by decide +kernel, by decide +kernel⟩
theorem zon79 : zOne 79 := ⟨zH_no rfl rfl, zBok_of zck79, by decide +kernel, by decide +kernel⟩
theorem zon80 : zOne 80 := ⟨zH_no rfl rfl, zBok_of zck80, by decide +kernel, by decide +kernel⟩
theorem zon81 : zOne 81 := ⟨zH_no rfl rfl, zBok_of zck81, by decide +kernel, by decide +kernel⟩
theorem zon82 : zOne 82 := ⟨zH_no rfl rfl, zBok_of zck82, by decide +kernel, by decide +kernel⟩
theorem zon83 : zOne 83 := ⟨zH_no rfl rfl, zBok_of zck83, by decide +kernel, by decide +kernel⟩
theorem zon84 : zOne 84 := ⟨zH_no rfl rfl, zBok_of zck84, by decide +kernel, by decide +kernel⟩
theorem zon85 : zOne 85 := ⟨zH_no rfl rfl, zBok_of zck85, by decide +kernel, by decide +kernel⟩
theorem zon86 : zOne 86 := ⟨zHk86, zBok_of zck86, by decide +kernel, by decide +kernel⟩
theorem zon87 : zOne 87 := ⟨zH_no rfl rfl, zBok_of zck87, by decide +kernel, by decide +kernel⟩
theorem zon88 : zOne 88 := ⟨zH_no rfl rfl, zBok_of zck88, by decide +kernel, by decide +kernel⟩
theorem zon89 : zOne 89 := ⟨zH_no rfl rfl, zBok_of zck89, by decide +kernel, by decide +kernel⟩
theorem zon90 : zOne 90 := ⟨zHk90, zBok_of zck90, by decide +kernel, by decide +kernel⟩
theorem zon91 : zOne 91 := ⟨zH_no rfl rfl, zBok_of zck91, by decide +kernel, by decide +kernel⟩
theorem zon92 : zOne 92 := ⟨zH_no rfl rfl, zBok_of zck92, by decide +kernel, by decide +kernel⟩
theorem zon93 : zOne 93 := ⟨zH_no rfl rfl, zBok_of zck93, by decide +kernel, by decide +kernel⟩
theorem zon94 : zOne 94 := ⟨zH_no rfl rfl, zBok_of zck94, by decide +kernel, by decide +kernel⟩
theorem zon95 : zOne 95 := ⟨zHk95, zBok_of zck95, by decide +kernel, by decide +kernel⟩
theorem zon96 : zOne 96 := ⟨zH_no rfl rfl, zBok_of zck96, by decide +kernel, by decide +kernel⟩
theorem zon97 : zOne 97 := ⟨zHk97, zBok_of zck97, by decide +kernel, by decide +kernel⟩
theorem zon98 : zOne 98 := ⟨zH_no rfl rfl, zBok_of zck98, by decide +kernel, by decide +kernel⟩
theorem zon99 : zOne 99 := ⟨zH_no rfl rfl, zBok_of zck99, by decide +kernel, by decide +kernel⟩
theorem zon100 : zOne 100 := ⟨zH_no rfl rfl, zBok_of zck100, by decide +kernel, by decide +kernel⟩
theorem zon101 : zOne 101 := ⟨zH_no rfl rfl, zBok_of zck101, by decide +kernel, by decide +kernel⟩
theorem zon102 : zOne 102 := ⟨zH_no rfl rfl, zBok_of zck102, by decide +kernel, by decide +kernel⟩
theorem zon103 : zOne 103 := ⟨zHk103, zBok_of zck103, by decide +kernel, by decide +kernel⟩
theorem zon104 : zOne 104 := ⟨zH_no rfl rfl, zBok_of zck104, by decide +kernel, by decide +kernel⟩
theorem zon105 : zOne 105 := ⟨zHk105, zBok_of zck105, by decide +kernel, by decide +kernel⟩
theorem zon106 : zOne 106 := ⟨zH_no rfl rfl, zBok_of zck106, by decide +kernel, by decide +kernel⟩
theorem zon107 : zOne 107 := ⟨zH_no rfl rfl, zBok_of zck107, by decide +kernel, by decide +kernel⟩
theorem zon108 : zOne 108 := ⟨zHk108, zBok_of zck108, by decide +kernel, by decide +kernel⟩
theorem zon109 : zOne 109 := ⟨zH_no rfl rfl, zBok_of zck109, by decide +kernel, by decide +kernel⟩
theorem zon110 : zOne 110 := ⟨zH_no rfl rfl, zBok_of zck110, by decide +kernel, by decide +kernel⟩
theorem zon111 : zOne 111 := ⟨zH_no rfl rfl, zBok_of zck111, by decide +kernel, by decide +kernel⟩
theorem zon112 : zOne 112 := ⟨zH_no rfl rfl, zBok_of zck112, by decide +kernel, by decide +kernel⟩
theorem zon113 : zOne 113 := ⟨zH_no rfl rfl, zBok_of zck113, by decide +kernel, by decide +kernel⟩
theorem zon114 : zOne 114 := ⟨zH_no rfl rfl, zBok_of zck114, by decide +kernel, by decide +kernel⟩
theorem zon115 : zOne 115 := ⟨zH_no rfl rfl, zBok_of zck115, by decide +kernel, by decide +kernel⟩
theorem zon116 : zOne 116 := ⟨zH_no rfl rfl, zBok_of zck116, by decide +kernel, by decide +kernel⟩
theorem zon117 : zOne 117 := ⟨zH_no rfl rfl, zBok_of zck117, by decide +kernel, by decide +kernel⟩
theorem zon118 : zOne 118 := ⟨zHk118, zBok_of zck118, by decide +kernel, by decide +kernel⟩
theorem zon119 : zOne 119 := ⟨zH_no rfl rfl, zBok_of zck119, by decide +kernel, by decide +kernel⟩
theorem zon120 : zOne 120 := ⟨zH_no rfl rfl, zBok_of zck120, by decide +kernel, by decide +kernel⟩
theorem zon121 : zOne 121 := ⟨zH_no rfl rfl, zBok_of zck121, by decide +kernel, by decide +kernel⟩
theorem zon122 : zOne 122 := ⟨zHk122, zBok_of zck122, by decide +kernel, by decide +kernel⟩
theorem zon123 : zOne 123 := ⟨zH_no rfl rfl, zBok_of zck123, by decide +kernel, by decide +kernel⟩
theorem zon124 : zOne 124 := ⟨zHk124, zBok_of zck124, by decide +kernel, by decide +kernel⟩
theorem zon125 : zOne 125 := ⟨zH_no rfl rfl, zBok_of zck125, by decide +kernel, by decide +kernel⟩
theorem zon126 : zOne 126 := ⟨zH_no rfl rfl, zBok_of zck126, by decide +kernel, by decide +kernel⟩
theorem zon127 : zOne 127 := ⟨zHk127, zBok_of zck127, by decide +kernel, by decide +kernel⟩
theorem zon128 : zOne 128 := ⟨zH_no rfl rfl, zBok_of zck128, by decide +kernel, by decide +kernel⟩
theorem zon129 : zOne 129 := ⟨zH_no rfl rfl, zBok_of zck129, by decide +kernel, by decide +kernel⟩
theorem zon130 : zOne 130 := ⟨zHk130, zBok_of zck130, by decide +kernel, by decide +kernel⟩
theorem zon131 : zOne 131 := ⟨zH_no rfl rfl, zBok_of zck131, by decide +kernel, by decide +kernel⟩
theorem zon132 : zOne 132 := ⟨zHk132, zBok_of zck132, by decide +kernel, by decide +kernel⟩
theorem zon133 : zOne 133 := ⟨zH_no rfl rfl, zBok_of zck133, by decide +kernel, by decide +kernel⟩
theorem zon134 : zOne 134 := ⟨zH_no rfl rfl, zBok_of zck134, by decide +kernel, by decide +kernel⟩
theorem zon135 : zOne 135 := ⟨zH_no rfl rfl, zBok_of zck135, by decide +kernel, by decide +kernel⟩
theorem zon136 : zOne 136 := ⟨zH_no rfl rfl, zBok_of zck136, by decide +kernel, by decide +kernel⟩
theorem zon137 : zOne 137 := ⟨zH_no rfl rfl, zBok_of zck137, by decide +kernel, by decide +kernel⟩
theorem zon138 : zOne 138 := ⟨zH_no rfl rfl, zBok_of zck138, by decide +kernel, by decide +kernel⟩
theorem zon139 : zOne 139 := ⟨zH_no rfl rfl, zBok_of zck139, by decide +kernel, by decide +kernel⟩
theorem zon140 : zOne 140 := ⟨zH_no rfl rfl, zBok_of zck140, by decide +kernel, by decide +kernel⟩
theorem zon141 : zOne 141 := ⟨zHk141, zBok_of zck141, by decide +kernel, by decide +kernel⟩
theorem zon142 : zOne 142 := ⟨zH_no rfl rfl, zBok_of zck142, by decide +kernel, by decide +kernel⟩
theorem zon143 : zOne 143 := ⟨zHk143, zBok_of zck143, by decide +kernel, by decide +kernel⟩
theorem zon144 : zOne 144 := ⟨zH_no rfl rfl, zBok_of zck144, by decide +kernel, by decide +kernel⟩
theorem zon145 : zOne 145 := ⟨zHk145, zBok_of zck145, by decide +kernel, by decide +kernel⟩
theorem zon146 : zOne 146 := ⟨zH_no rfl rfl, zBok_of zck146, by decide +kernel, by decide +kernel⟩
theorem zon147 : zOne 147 := ⟨zHk147, zBok_of zck147, by decide +kernel, by decide +kernel⟩
theorem zon148 : zOne 148 := ⟨zH_no rfl rfl, zBok_of zck148, by decide +kernel, by decide +kernel⟩
theorem zon149 : zOne 149 := ⟨zHk149, zBok_of zck149, by decide +kernel, by decide +kernel⟩
theorem zon150 : zOne 150 := ⟨zH_no rfl rfl, zBok_of zck150, by decide +kernel, by decide +kernel⟩
theorem zon151 : zOne 151 := ⟨zHk151, zBok_of zck151, by decide +kernel, by decide +kernel⟩
theorem zon152 : zOne 152 := ⟨zH_no rfl rfl, zBok_of zck152, by decide +kernel, by decide +kernel⟩
theorem zon153 : zOne 153 := ⟨zH_no rfl rfl, zBok_of zck153, by decide +kernel, by decide +kernel⟩
theorem zon154 : zOne 154 := ⟨zH_no rfl rfl, zBok_of zck154, by decide +kernel, by decide +kernel⟩
theorem zon155 : zOne 155 := ⟨zH_no rfl rfl, zBok_of zck155, by decide +kernel, by decide +kernel⟩
theorem zon156 : zOne 156 := ⟨zH_no rfl rfl, zBok_of zck156, by decide +kernel, by decide +kernel⟩
theorem zon157 : zOne 157 := ⟨zH_no rfl rfl, zBok_of zck157, by decide +kernel, by decide +kernel⟩
theorem zon158 : zOne 158 := ⟨zHk158, zBok_of zck158, by decide +kernel, by decide +kernel⟩
theorem zon159 : zOne 159 := ⟨zH_no rfl rfl, zBok_of zck159, by decide +kernel, by decide +kernel⟩
theorem zon160 : zOne 160 := ⟨zH_no rfl rfl, zBok_of zck160, by decide +kernel, by decide +kernel⟩
theorem zon161 : zOne 161 := ⟨zHk161, zBok_of zck161, by decide +kernel, by decide +kernel⟩
theorem zon162 : zOne 162 := ⟨zH_no rfl rfl, zBok_of zck162, by decide +kernel, by decide +kernel⟩
theorem zon163 : zOne 163 := ⟨zHk163, zBok_of zck163, by decide +kernel, by decide +kernel⟩
theorem zon164 : zOne 164 := ⟨zH_no rfl rfl, zBok_of zck164, by decide +kernel, by decide +kernel⟩
theorem zon165 : zOne 165 := ⟨zHk165, zBok_of zck165, by decide +kernel, by decide +kernel⟩
theorem zon166 : zOne 166 := ⟨zH_no rfl rfl, zBok_of zck166, by decide +kernel, by decide +kernel⟩
theorem zon167 : zOne 167 := ⟨zH_no rfl rfl, zBok_of zck167, by decide +kernel, by decide +kernel⟩
theorem zon168 : zOne 168 := ⟨zH_no rfl rfl, zBok_of zck168, by decide +kernel, by decide +kernel⟩
theorem zon169 : zOne 169 := ⟨zH_no rfl rfl, zBok_of zck169, by decide +kernel, by decide +kernel⟩
theorem zon170 : zOne 170 := ⟨zH_no rfl rfl, zBok_of zck170, by decide +kernel, by decide +kernel⟩
theorem zon171 : zOne 171 := ⟨zH_no rfl rfl, zBok_of zck171, by decide +kernel, by decide +kernel⟩
theorem zon172 : zOne 172 := ⟨zH_no rfl rfl, zBok_of zck172, by decide +kernel, by decide +kernel⟩
theorem zon173 : zOne 173 := ⟨zH_no rfl rfl, zBok_of zck173, by decide +kernel, by decide +kernel⟩
theorem zon174 : zOne 174 := ⟨zH_no rfl rfl, zBok_of zck174, by decide +kernel, by decide +kernel⟩
theorem zon175 : zOne 175 := ⟨zH_no rfl rfl, zBok_of zck175, by decide +kernel, by decide +kernel⟩
theorem zon176 : zOne 176 := ⟨zH_no rfl rfl, zBok_of zck176, by decide +kernel, by decide +kernel⟩
theorem zon177 : zOne 177 := ⟨zH_no rfl rfl, zBok_of zck177, by decide +kernel, by decide +kernel⟩
theorem zon178 : zOne 178 := ⟨zH_no rfl rfl, zBok_of zck178, by decide +kernel, by decide +kernel⟩
theorem zon179 : zOne 179 := ⟨zH_no rfl rfl, zBok_of zck179, by decide +kernel, by decide +kernel⟩
theorem zon180 : zOne 180 := ⟨zH_no rfl rfl, zBok_of zck180, by decide +kernel, by decide +kernel⟩
theorem zon181 : zOne 181 := ⟨zH_no rfl rfl, zBok_of zck181, by decide +kernel, by decide +kernel⟩
theorem zon182 : zOne 182 := ⟨zH_no rfl rfl, zBok_of zck182, by decide +kernel, by decide +kernel⟩
theorem zon183 : zOne 183 := ⟨zH_no rfl rfl, zBok_of zck183, by decide +kernel, by decide +kernel⟩
theorem zon184 : zOne 184 := ⟨zH_no rfl rfl, zBok_of zck184, by decide +kernel, by decide +kernel⟩
theorem zon185 : zOne 185 := ⟨zH_no rfl rfl, zBok_of zck185, by decide +kernel, by decide +kernel⟩
theorem zon186 : zOne 186 := ⟨zH_no rfl rfl, zBok_of zck186, by decide +kernel, by decide +kernel⟩
theorem zon187 : zOne 187 := ⟨zH_no rfl rfl, zBok_of zck187, by decide +kernel, by decide +kernel⟩
theorem zon188 : zOne 188 := ⟨zH_no rfl rfl, zBok_of zck188, by decide +kernel, by decide +kernel⟩
theorem zon189 : zOne 189 := ⟨zH_no rfl rfl, zBok_of zck189, by decide +kernel, by decide +kernel⟩
theorem zon190 : zOne 190 := ⟨zH_no rfl rfl, zBok_of zck190, by decide +kernel, by decide +kernel⟩
theorem zon191 : zOne 191 := ⟨zH_no rfl rfl, zBok_of zck191, by decide +kernel, by decide +kernel⟩
theorem zon192 : zOne 192 := ⟨zH_no rfl rfl, zBok_of zck192, by decide +kernel, by decide +kernel⟩
theorem zon193 : zOne 193 := ⟨zH_no rfl rfl, zBok_of zck193, by decide +kernel, by decide +kernel⟩
theorem zon194 : zOne 194 := ⟨zH_no rfl rfl, zBok_of zck194, by decide +kernel, by decide +kernel⟩
theorem zon195 : zOne 195 := ⟨zH_no rfl rfl, zBok_of zck195, by decide +kernel, by decide +kernel⟩
theorem zon196 : zOne 196 := ⟨zHk196, zBok_of zck196, by decide +kernel, by decide +kernel⟩
theorem zon197 : zOne 197 := ⟨zH_no rfl rfl, zBok_of zck197, by decide +kernel, by decide +kernel⟩
theorem zon198 : zOne 198 := ⟨zH_no rfl rfl, zBok_of zck198, by decide +kernel, by decide +kernel⟩
theorem zon199 : zOne 199 := ⟨zH_no rfl rfl, zBok_of zck199, by decide +kernel, by decide +kernel⟩
theorem zon200 : zOne 200 := ⟨zHk200, zBok_of zck200, by decide +kernel, by decide +kernel⟩
theorem zon201 : zOne 201 := ⟨zH_no rfl rfl, zBok_of zck201, by decide +kernel, by decide +kernel⟩
theorem zon202 : zOne 202 := ⟨zHk202, zBok_of zck202, by decide +kernel, by decide +kernel⟩
theorem zon203 : zOne 203 := ⟨zH_no rfl rfl, zBok_of2 rfl zck203, by decide +kernel, by decide +kernel⟩
theorem zon204 : zOne 204 := ⟨zH_no rfl rfl, zBok_of zck204, by decide +kernel, by decide +kernel⟩
theorem zon205 : zOne 205 := ⟨zH_no rfl rfl, zBok_of zck205, by decide +kernel, by decide +kernel⟩
theorem zon206 : zOne 206 := ⟨zH_no rfl rfl, zBok_of zck206, by decide +kernel, by decide +kernel⟩
theorem zon207 : zOne 207 := ⟨zH_no rfl rfl, zBok_of zck207, by decide +kernel, by decide +kernel⟩
theorem zon208 : zOne 208 := ⟨zH_no rfl rfl, zBok_of zck208, by decide +kernel, by decide +kernel⟩
theorem zon209 : zOne 209 := ⟨zH_no rfl rfl, zBok_of zck209, by decide +kernel, by decide +kernel⟩
theorem zon210 : zOne 210 := ⟨zH_no rfl rfl, zBok_of zck210, by decide +kernel, by decide +kernel⟩
theorem zon211 : zOne 211 := ⟨zH_no rfl rfl, zBok_of zck211, by decide +kernel, by decide +kernel⟩
theorem zon212 : zOne 212 := ⟨zH_no rfl rfl, zBok_of zck212, by decide +kernel, by decide +kernel⟩
theorem zon213 : zOne 213 := ⟨zH_no rfl rfl, zBok_of zck213, by decide +kernel, by decide +kernel⟩
theorem zon214 : zOne 214 := ⟨zH_no rfl rfl, zBok_of zck214, by decide +kernel, by decide +kernel⟩
theorem zon215 : zOne 215 := ⟨zH_no rfl rfl, zBok_of zck215, by decide +kernel, by decide +kernel⟩
theorem zon216 : zOne 216 := ⟨zH_no rfl rfl, zBok_of zck216, by decide +kernel, by decide +kernel⟩
theorem zon217 : zOne 217 := ⟨zH_no rfl rfl, zBok_of zck217, by decide +kernel, by decide +kernel⟩
theorem zon218 : zOne 218 := ⟨zH_no rfl rfl, zBok_of zck218, by decide +kernel, by decide +kernel⟩
theorem zon219 : zOne 219 := ⟨zH_no rfl rfl, zBok_of zck219, by decide +kernel, by decide +kernel⟩
theorem zon220 : zOne 220 := ⟨zH_no rfl rfl, zBok_of zck220, by decide +kernel, by decide +kernel⟩
theorem zon221 : zOne 221 := ⟨zH_no rfl rfl, zBok_of zck221, by decide +kernel, by decide +kernel⟩
theorem zon222 : zOne 222 := ⟨zH_no rfl rfl, zBok_of zck222, by decide +kernel, by decide +kernel⟩
theorem zon223 : zOne 223 := ⟨zH_no rfl rfl, zBok_of zck223, by decide +kernel, by decide +kernel⟩
theorem zon224 : zOne 224 := ⟨zH_no rfl rfl, zBok_of zck224, by decide +kernel, by decide +kernel⟩
theorem zon225 : zOne 225 := ⟨zH_no rfl rfl, zBok_of zck225, by decide +kernel, by decide +kernel⟩
theorem zon226 : zOne 226 := ⟨zH_no rfl rfl, zBok_of zck226, by decide +kernel, by decide +kernel⟩
theorem zon227 : zOne 227 := ⟨zH_no rfl rfl, zBok_of zck227, by decide +kernel, by decide +kernel⟩
theorem zon228 : zOne 228 := ⟨zH_no rfl rfl, zBok_of zck228, by decide +kernel, by decide +kernel⟩
theorem zon229 : zOne 229 := ⟨zH_no rfl rfl, zBok_of2 rfl zck229, by decide +kernel, by decide +kernel⟩
theorem zon230 : zOne 230 := ⟨zH_no rfl rfl, zBok_of zck230, by decide +kernel, by decide +kernel⟩
theorem zon231 : zOne 231 := ⟨zH_no rfl rfl, zBok_of zck231, by decide +kernel, by decide +kernel⟩
theorem zon232 : zOne 232 := ⟨zH_no rfl rfl, zBok_of2 rfl zck232, by decide +kernel, by decide +kernel⟩
theorem zon233 : zOne 233 := ⟨zH_no rfl rfl, zBok_of2 rfl zck233, by decide +kernel, by decide +kernel⟩
theorem zon234 : zOne 234 := ⟨zH_no rfl rfl, zBok_of zck234, by decide +kernel, by decide +kernel⟩
theorem zon235 : zOne 235 := ⟨zH_no rfl rfl, zBok_of zck235, by decide +kernel, by decide +kernel⟩
theorem zon236 : zOne 236 := ⟨zH_no rfl rfl, zBok_of zck236, by decide +kernel, by decide +kernel⟩
theorem zon237 : zOne 237 := ⟨zH_no rfl rfl, zBok_of zck237, by decide +kernel, by decide +kernel⟩
theorem zon238 : zOne 238 := ⟨zH_no rfl rfl, zBok_of zck238, by decide +kernel, by decide +kernel⟩
theorem zon239 : zOne 239 := ⟨zH_no rfl rfl, zBok_of zck239, by decide +kernel, by decide +kernel⟩
theorem zon240 : zOne 240 := ⟨zH_no rfl rfl, zBok_of zck240, by decide +kernel, by decide +kernel⟩
theorem zon241 : zOne 241 := ⟨zH_no rfl rfl, zBok_of zck241, by decide +kernel, by decide +kernel⟩
theorem zon242 : zOne 242 := ⟨zH_no rfl rfl, zBok_of zck242, by decide +kernel, by decide +kernel⟩
theorem zon243 : zOne 243 := ⟨zH_no rfl rfl, zBok_of zck243, by decide +kernel, by decide +kernel⟩
theorem zon244 : zOne 244 := ⟨zH_no rfl rfl, zBok_of zck244, by decide +kernel, by decide +kernel⟩
theorem zon245 : zOne 245 := ⟨zH_no rfl rfl, zBok_of zck245, by decide +kernel, by decide +kernel⟩
theorem zon246 : zOne 246 := ⟨zH_no rfl rfl, zBok_of zck246, by decide +kernel, by decide +kernel⟩
theorem zon247 : zOne 247 := ⟨zH_no rfl rfl, zBok_of zck247, by decide +kernel, by decide +kernel⟩
theorem zon248 : zOne 248 := ⟨zH_no rfl rfl, zBok_of zck248, by decide +kernel, by decide +kernel⟩
theorem zon249 : zOne 249 := ⟨zH_no rfl rfl, zBok_of zck249, by decide +kernel, by decide +kernel⟩
theorem zon250 : zOne 250 := ⟨zH_no rfl rfl, zBok_of zck250, by decide +kernel, by decide +kernel⟩
theorem zon251 : zOne 251 := ⟨zH_no rfl rfl, zBok_of zck251, by decide +kernel, by decide +kernel⟩
theorem zon252 : zOne 252 := ⟨zH_no rfl rfl, zBok_of zck252, by decide +kernel, by decide +kernel⟩
theorem zon253 : zOne 253 := ⟨zH_no rfl rfl, zBok_of zck253, by decide +kernel, by decide +kernel⟩
theorem zon254 : zOne 254 := ⟨zH_no rfl rfl, zBok_of zck254, by decide +kernel, by decide +kernel⟩
theorem zon255 : zOne 255 := ⟨zH_no rfl rfl, zBok_of zck255, by decide +kernel, by decide +kernel⟩
theorem zon256 : zOne 256 := ⟨zH_no rfl rfl, zBok_of zck256, by decide +kernel, by decide +kernel⟩
theorem zon257 : zOne 257 := ⟨zH_no rfl rfl, zBok_of zck257, by decide +kernel, by decide +kernel⟩
theorem zon258 : zOne 258 := ⟨zH_no rfl rfl, zBok_of zck258, by decide +kernel, by decide +kernel⟩
theorem zon259 : zOne 259 := ⟨zH_no rfl rfl, zBok_of zck259, by decide +kernel, by decide +kernel⟩
theorem zon260 : zOne 260 := ⟨zH_no rfl rfl, zBok_of zck260, by decide +kernel, by decide +kernel⟩
theorem zon261 : zOne 261 := ⟨zH_no rfl rfl, zBok_of zck261, by decide +kernel, by decide +kernel⟩
theorem zon262 : zOne 262 := ⟨zH_no rfl rfl, zBok_of zck262, by decide +kernel, by decide +kernel⟩
theorem zon263 : zOne 263 := ⟨zH_no rfl rfl, zBok_of zck263, by decide +kernel, by decide +kernel⟩
theorem zon264 : zOne 264 := ⟨zH_no rfl rfl, zBok_of zck264, by decide +kernel, by decide +kernel⟩
theorem zon265 : zOne 265 := ⟨zH_no rfl rfl, zBok_of zck265, by decide +kernel, by decide +kernel⟩
theorem zon266 : zOne 266 := ⟨zH_no rfl rfl, zBok_of zck266, by decide +kernel, by decide +kernel⟩
theorem zon267 : zOne 267 := ⟨zH_no rfl rfl, zBok_of zck267, by decide +kernel, by decide +kernel⟩
theorem zon268 : zOne 268 := ⟨zH_no rfl rfl, zBok_of zck268, by decide +kernel, by decide +kernel⟩
theorem zon269 : zOne 269 := ⟨zH_no rfl rfl, zBok_of zck269, by decide +kernel, by decide +kernel⟩
theorem zon270 : zOne 270 := ⟨zH_no rfl rfl, zBok_of zck270, by decide +kernel, by decide +kernel⟩
theorem zon271 : zOne 271 := ⟨zH_no rfl rfl, zBok_of zck271, by decide +kernel, by decide +kernel⟩
theorem zon272 : zOne 272 := ⟨zH_no rfl rfl, zBok_of zck272, by decide +kernel, by decide +kernel⟩
theorem zon273 : zOne 273 := ⟨zH_no rfl rfl, zBok_of zck273, by decide +kernel, by decide +kernel⟩
theorem zon274 : zOne 274 := ⟨zH_no rfl rfl, zBok_of zck274, by decide +kernel, by decide +kernel⟩
theorem zon275 : zOne 275 := ⟨zH_no rfl rfl, zBok_of zck275, by decide +kernel, by decide +kernel⟩
theorem zon276 : zOne 276 := ⟨zH_no rfl rfl, zBok_of zck276, by decide +kernel, by decide +kernel⟩
theorem zon277 : zOne 277 := ⟨zH_no rfl rfl, zBok_of zck277, by decide +kernel, by decide +kernel⟩
theorem zon278 : zOne 278 := ⟨zH_no rfl rfl, zBok_of zck278, by decide +kernel, by decide +kernel⟩
theorem zon279 : zOne 279 := ⟨zH_no rfl rfl, zBok_of2 rfl zck279, by decide +kernel, by decide +kernel⟩
theorem zon280 : zOne 280 := ⟨zH_no rfl rfl, zBok_of zck280, by decide +kernel, by decide +kernel⟩
theorem zon281 : zOne 281 := ⟨zH_no rfl rfl, zBok_of zck281, by decide +kernel, by decide +kernel⟩
theorem zon282 : zOne 282 := ⟨zH_no rfl rfl, zBok_of zck282, by decide +kernel, by decide +kernel⟩
theorem zon283 : zOne 283 := ⟨zH_no rfl rfl, zBok_of zck283, by decide +kernel, by decide +kernel⟩
theorem zon284 : zOne 284 := ⟨zH_no rfl rfl, zBok_of zck284, by decide +kernel, by decide +kernel⟩
theorem zon285 : zOne 285 := ⟨zH_no rfl rfl, zBok_of zck285, by decide +kernel, by decide +kernel⟩
theorem zon286 : zOne 286 := ⟨zH_no rfl rfl, zBok_of zck286, by decide +kernel, by decide +kernel⟩
theorem zon287 : zOne 287 := ⟨zH_no rfl rfl, zBok_of zck287, by decide +kernel, by decide +kernel⟩
theorem zon288 : zOne 288 := ⟨zH_no rfl rfl, zBok_of zck288, by decide +kernel, by decide +kernel⟩
theorem zon289 : zOne 289 := ⟨zH_no rfl rfl, zBok_of zck289, by decide +kernel, by decide +kernel⟩
theorem zon290 : zOne 290 := ⟨zH_no rfl rfl, zBok_of zck290, by decide +kernel, by decide +kernel⟩
theorem zon291 : zOne 291 := ⟨zH_no rfl rfl, zBok_of zck291, by decide +kernel, by decide +kernel⟩
theorem zon292 : zOne 292 := ⟨zH_no rfl rfl, zBok_of zck292, by decide +kernel, by decide +kernel⟩
theorem zon293 : zOne 293 := ⟨zH_no rfl rfl, zBok_of zck293, by decide +kernel, by decide +kernel⟩
theorem zon294 : zOne 294 := ⟨zH_no rfl rfl, zBok_of zck294, by decide +kernel, by decide +kernel⟩
theorem zon295 : zOne 295 := ⟨zH_no rfl rfl, zBok_of zck295, by decide +kernel, by decide +kernel⟩
theorem zon296 : zOne 296 := ⟨zH_no rfl rfl, zBok_of zck296, by decide +kernel, by decide +kernel⟩
theorem zon297 : zOne 297 := ⟨zH_no rfl rfl, zBok_of zck297, by decide +kernel, by decide +kernel⟩
theorem zon298 : zOne 298 := ⟨zH_no rfl rfl, zBok_of zck298, by decide +kernel, by decide +kernel⟩
theorem zon299 : zOne 299 := ⟨zH_no rfl rfl, zBok_of zck299, by decide +kernel, by decide +kernel⟩
theorem zon300 : zOne 300 := ⟨zH_no rfl rfl, zBok_of zck300, by decide +kernel, by decide +kernel⟩
theorem zon301 : zOne 301 := ⟨zH_no rfl rfl, zBok_of zck301, by decide +kernel, by decide +kernel⟩
theorem zon302 : zOne 302 := ⟨zH_no rfl rfl, zBok_of zck302, by decide +kernel, by decide +kernel⟩
theorem zon303 : zOne 303 := ⟨zH_no rfl rfl, zBok_of zck303, by decide +kernel, by decide +kernel⟩
theorem zon304 : zOne 304 := ⟨zH_no rfl rfl, zBok_of zck304, by decide +kernel, by decide +kernel⟩
theorem zon305 : zOne 305 := ⟨zH_no rfl rfl, zBok_of zck305, by decide +kernel, by decide +kernel⟩
theorem zon306 : zOne 306 := ⟨zH_no rfl rfl, zBok_of zck306, by decide +kernel, by decide +kernel⟩
theorem zon307 : zOne 307 := ⟨zH_no rfl rfl, zBok_of zck307, by decide +kernel, by decide +kernel⟩
theorem zon308 : zOne 308 := ⟨zH_no rfl rfl, zBok_of zck308, by decide +kernel, by decide +kernel⟩
theorem zon309 : zOne 309 := ⟨zH_no rfl rfl, zBok_of zck309, by decide +kernel, by decide +kernel⟩
theorem zon310 : zOne 310 := ⟨zH_no rfl rfl, zBok_of zck310, by decide +kernel, by decide +kernel⟩
theorem zon311 : zOne 311 := ⟨zH_no rfl rfl, zBok_of2 rfl zck311, by decide +kernel, by decide +kernel⟩
theorem zon312 : zOne 312 := ⟨zH_no rfl rfl, zBok_of zck312, by decide +kernel, by decide +kernel⟩
theorem zon313 : zOne 313 := ⟨zH_no rfl rfl, zBok_of zck313, by decide +kernel, by decide +kernel⟩
theorem zon314 : zOne 314 := ⟨zH_no rfl rfl, zBok_of2 rfl zck314, by decide +kernel, by decide +kernel⟩
theorem zP_ok : zPok zP 315 := by
  intro k hk
  by_cases c0_315 : k < 157
  · by_cases c0_157 : k < 78
    · by_cases c0_78 : k < 39
      · by_cases c0_39 : k < 19
        · by_cases c0_19 : k < 9
          · by_cases c0_9 : k < 4
            · by_cases c0_4 : k < 2
              · by_cases c0_2 : k < 1
                · have e : k = 0 := by omega
                  subst e
                  exact zon0
                · have e : k = 1 := by omega
                  subst e
                  exact zon1
              · by_cases c2_4 : k < 3
                · have e : k = 2 := by omega
                  subst e
                  exact zon2
                · have e : k = 3 := by omega
                  subst e
                  exact zon3
            · by_cases c4_9 : k < 6
              · by_cases c4_6 : k < 5
                · have e : k = 4 := by omega
                  subst e
                  exact zon4
                · have e : k = 5 := by omega
                  subst e
                  exact zon5
              · by_cases c6_9 : k < 7
                · have e : k = 6 := by omega
                  subst e
                  exact zon6
                · by_cases c7_9 : k < 8
                  · have e : k = 7 := by omega
                    subst e
                    exact zon7
                  · have e : k = 8 := by omega
                    subst e
                    exact zon8
          · by_cases c9_19 : k < 14
            · by_cases c9_14 : k < 11
              · by_cases c9_11 : k < 10
                · have e : k = 9 := by omega
                  subst e
                  exact zon9
                · have e : k = 10 := by omega
                  subst e
                  exact zon10
              · by_cases c11_14 : k < 12
                · have e : k = 11 := by omega
                  subst e
                  exact zon11
                · by_cases c12_14 : k < 13
                  · have e : k = 12 := by omega
                    subst e
                    exact zon12
                  · have e : k = 13 := by omega
                    subst e
                    exact zon13
            · by_cases c14_19 : k < 16
              · by_cases c14_16 : k < 15
                · have e : k = 14 := by omega
                  subst e
                  exact zon14
                · have e : k = 15 := by omega
                  subst e
                  exact zon15
              · by_cases c16_19 : k < 17
                · have e : k = 16 := by omega
                  subst e
                  exact zon16
                · by_cases c17_19 : k < 18
                  · have e : k = 17 := by omega
                    subst e
                    exact zon17
                  · have e : k = 18 := by omega
                    subst e
                    exact zon18
        · by_cases c19_39 : k < 29
          · by_cases c19_29 : k < 24
            · by_cases c19_24 : k < 21
              · by_cases c19_21 : k < 20
                · have e : k = 19 := by omega
                  subst e
                  exact zon19
                · have e : k = 20 := by omega
                  subst e
                  exact zon20
              · by_cases c21_24 : k < 22
                · have e : k = 21 := by omega
                  subst e
                  exact zon21
                · by_cases c22_24 : k < 23
                  · have e : k = 22 := by omega
                    subst e
                    exact zon22
                  · have e : k = 23 := by omega
                    subst e
                    exact zon23
            · by_cases c24_29 : k < 26
              · by_cases c24_26 : k < 25
                · have e : k = 24 := by omega
                  subst e
                  exact zon24
                · have e : k = 25 := by omega
                  subst e
                  exact zon25
              · by_cases c26_29 : k < 27
                · have e : k = 26 := by omega
                  subst e
                  exact zon26
                · by_cases c27_29 : k < 28
                  · have e : k = 27 := by omega
                    subst e
                    exact zon27
                  · have e : k = 28 := by omega
                    subst e
                    exact zon28
          · by_cases c29_39 : k < 34
            · by_cases c29_34 : k < 31
              · by_cases c29_31 : k < 30
                · have e : k = 29 := by omega
                  subst e
                  exact zon29
                · have e : k = 30 := by omega
                  subst e
                  exact zon30
              · by_cases c31_34 : k < 32
                · have e : k = 31 := by omega
                  subst e
                  exact zon31
                · by_cases c32_34 : k < 33
                  · have e : k = 32 := by omega
                    subst e
                    exact zon32
                  · have e : k = 33 := by omega
                    subst e
                    exact zon33
            · by_cases c34_39 : k < 36
              · by_cases c34_36 : k < 35
                · have e : k = 34 := by omega
                  subst e
                  exact zon34
                · have e : k = 35 := by omega
                  subst e
                  exact zon35
              · by_cases c36_39 : k < 37
                · have e : k = 36 := by omega
                  subst e
                  exact zon36
                · by_cases c37_39 : k < 38
                  · have e : k = 37 := by omega
                    subst e
                    exact zon37
                  · have e : k = 38 := by omega
                    subst e
                    exact zon38
      · by_cases c39_78 : k < 58
        · by_cases c39_58 : k < 48
          · by_cases c39_48 : k < 43
            · by_cases c39_43 : k < 41
              · by_cases c39_41 : k < 40
                · have e : k = 39 := by omega
                  subst e
                  exact zon39
                · have e : k = 40 := by omega
                  subst e
                  exact zon40
              · by_cases c41_43 : k < 42
                · have e : k = 41 := by omega
                  subst e
                  exact zon41
                · have e : k = 42 := by omega
                  subst e
                  exact zon42
            · by_cases c43_48 : k < 45
              · by_cases c43_45 : k < 44
                · have e : k = 43 := by omega
                  subst e
                  exact zon43
                · have e : k = 44 := by omega
                  subst e
                  exact zon44
              · by_cases c45_48 : k < 46
                · have e : k = 45 := by omega
                  subst e
                  exact zon45
                · by_cases c46_48 : k < 47
                  · have e : k = 46 := by omega
                    subst e
                    exact zon46
                  · have e : k = 47 := by omega
                    subst e
                    exact zon47
          · by_cases c48_58 : k < 53
            · by_cases c48_53 : k < 50
              · by_cases c48_50 : k < 49
                · have e : k = 48 := by omega
                  subst e
                  exact zon48
                · have e : k = 49 := by omega
                  subst e
                  exact zon49
              · by_cases c50_53 : k < 51
                · have e : k = 50 := by omega
                  subst e
                  exact zon50
                · by_cases c51_53 : k < 52
                  · have e : k = 51 := by omega
                    subst e
                    exact zon51
                  · have e : k = 52 := by omega
                    subst e
                    exact zon52
            · by_cases c53_58 : k < 55
              · by_cases c53_55 : k < 54
                · have e : k = 53 := by omega
                  subst e
                  exact zon53
                · have e : k = 54 := by omega
                  subst e
                  exact zon54
              · by_cases c55_58 : k < 56
                · have e : k = 55 := by omega
                  subst e
                  exact zon55
                · by_cases c56_58 : k < 57
                  · have e : k = 56 := by omega
                    subst e
                    exact zon56
                  · have e : k = 57 := by omega
                    subst e
                    exact zon57
        · by_cases c58_78 : k < 68
          · by_cases c58_68 : k < 63
            · by_cases c58_63 : k < 60
              · by_cases c58_60 : k < 59
                · have e : k = 58 := by omega
                  subst e
                  exact zon58
                · have e : k = 59 := by omega
                  subst e
                  exact zon59
              · by_cases c60_63 : k < 61
                · have e : k = 60 := by omega
                  subst e
                  exact zon60
                · by_cases c61_63 : k < 62
                  · have e : k = 61 := by omega
                    subst e
                    exact zon61
                  · have e : k = 62 := by omega
                    subst e
                    exact zon62
            · by_cases c63_68 : k < 65
              · by_cases c63_65 : k < 64
                · have e : k = 63 := by omega
                  subst e
                  exact zon63
                · have e : k = 64 := by omega
                  subst e
                  exact zon64
              · by_cases c65_68 : k < 66
                · have e : k = 65 := by omega
                  subst e
                  exact zon65
                · by_cases c66_68 : k < 67
                  · have e : k = 66 := by omega
                    subst e
                    exact zon66
                  · have e : k = 67 := by omega
                    subst e
                    exact zon67
          · by_cases c68_78 : k < 73
            · by_cases c68_73 : k < 70
              · by_cases c68_70 : k < 69
                · have e : k = 68 := by omega
                  subst e
                  exact zon68
                · have e : k = 69 := by omega
                  subst e
                  exact zon69
              · by_cases c70_73 : k < 71
                · have e : k = 70 := by omega
                  subst e
                  exact zon70
                · by_cases c71_73 : k < 72
                  · have e : k = 71 := by omega
                    subst e
                    exact zon71
                  · have e : k = 72 := by omega
                    subst e
                    exact zon72
            · by_cases c73_78 : k < 75
              · by_cases c73_75 : k < 74
                · have e : k = 73 := by omega
                  subst e
                  exact zon73
                · have e : k = 74 := by omega
                  subst e
                  exact zon74
              · by_cases c75_78 : k < 76
                · have e : k = 75 := by omega
                  subst e
                  exact zon75
                · by_cases c76_78 : k < 77
                  · have e : k = 76 := by omega
                    subst e
                    exact zon76
                  · have e : k = 77 := by omega
                    subst e
                    exact zon77
    · by_cases c78_157 : k < 117
      · by_cases c78_117 : k < 97
        · by_cases c78_97 : k < 87
          · by_cases c78_87 : k < 82
            · by_cases c78_82 : k < 80
              · by_cases c78_80 : k < 79
                · have e : k = 78 := by omega
                  subst e
                  exact zon78
                · have e : k = 79 := by omega
                  subst e
                  exact zon79
              · by_cases c80_82 : k < 81
                · have e : k = 80 := by omega
                  subst e
                  exact zon80
                · have e : k = 81 := by omega
                  subst e
                  exact zon81
            · by_cases c82_87 : k < 84
              · by_cases c82_84 : k < 83
                · have e : k = 82 := by omega
                  subst e
                  exact zon82
                · have e : k = 83 := by omega
                  subst e
                  exact zon83
              · by_cases c84_87 : k < 85
                · have e : k = 84 := by omega
                  subst e
                  exact zon84
                · by_cases c85_87 : k < 86
                  · have e : k = 85 := by omega
                    subst e
                    exact zon85
                  · have e : k = 86 := by omega
                    subst e
                    exact zon86
          · by_cases c87_97 : k < 92
            · by_cases c87_92 : k < 89
              · by_cases c87_89 : k < 88
                · have e : k = 87 := by omega
                  subst e
                  exact zon87
                · have e : k = 88 := by omega
                  subst e
                  exact zon88
              · by_cases c89_92 : k < 90
                · have e : k = 89 := by omega
                  subst e
                  exact zon89
                · by_cases c90_92 : k < 91
                  · have e : k = 90 := by omega
                    subst e
                    exact zon90
                  · have e : k = 91 := by omega
                    subst e
                    exact zon91
            · by_cases c92_97 : k < 94
              · by_cases c92_94 : k < 93
                · have e : k = 92 := by omega
                  subst e
                  exact zon92
                · have e : k = 93 := by omega
                  subst e
                  exact zon93
              · by_cases c94_97 : k < 95
                · have e : k = 94 := by omega
                  subst e
                  exact zon94
                · by_cases c95_97 : k < 96
                  · have e : k = 95 := by omega
                    subst e
                    exact zon95
                  · have e : k = 96 := by omega
                    subst e
                    exact zon96
        · by_cases c97_117 : k < 107
          · by_cases c97_107 : k < 102
            · by_cases c97_102 : k < 99
              · by_cases c97_99 : k < 98
                · have e : k = 97 := by omega
                  subst e
                  exact zon97
                · have e : k = 98 := by omega
                  subst e
                  exact zon98
              · by_cases c99_102 : k < 100
                · have e : k = 99 := by omega
                  subst e
                  exact zon99
                · by_cases c100_102 : k < 101
                  · have e : k = 100 := by omega
                    subst e
                    exact zon100
                  · have e : k = 101 := by omega
                    subst e
                    exact zon101
            · by_cases c102_107 : k < 104
              · by_cases c102_104 : k < 103
                · have e : k = 102 := by omega
                  subst e
                  exact zon102
                · have e : k = 103 := by omega
                  subst e
                  exact zon103
              · by_cases c104_107 : k < 105
                · have e : k = 104 := by omega
                  subst e
                  exact zon104
                · by_cases c105_107 : k < 106
                  · have e : k = 105 := by omega
                    subst e
                    exact zon105
                  · have e : k = 106 := by omega
                    subst e
                    exact zon106
          · by_cases c107_117 : k < 112
            · by_cases c107_112 : k < 109
              · by_cases c107_109 : k < 108
                · have e : k = 107 := by omega
                  subst e
                  exact zon107
                · have e : k = 108 := by omega
                  subst e
                  exact zon108
              · by_cases c109_112 : k < 110
                · have e : k = 109 := by omega
                  subst e
                  exact zon109
                · by_cases c110_112 : k < 111
                  · have e : k = 110 := by omega
                    subst e
                    exact zon110
                  · have e : k = 111 := by omega
                    subst e
                    exact zon111
            · by_cases c112_117 : k < 114
              · by_cases c112_114 : k < 113
                · have e : k = 112 := by omega
                  subst e
                  exact zon112
                · have e : k = 113 := by omega
                  subst e
                  exact zon113
              · by_cases c114_117 : k < 115
                · have e : k = 114 := by omega
                  subst e
                  exact zon114
                · by_cases c115_117 : k < 116
                  · have e : k = 115 := by omega
                    subst e
                    exact zon115
                  · have e : k = 116 := by omega
                    subst e
                    exact zon116
      · by_cases c117_157 : k < 137
        · by_cases c117_137 : k < 127
          · by_cases c117_127 : k < 122
            · by_cases c117_122 : k < 119
              · by_cases c117_119 : k < 118
                · have e : k = 117 := by omega
                  subst e
                  exact zon117
                · have e : k = 118 := by omega
                  subst e
                  exact zon118
              · by_cases c119_122 : k < 120
                · have e : k = 119 := by omega
                  subst e
                  exact zon119
                · by_cases c120_122 : k < 121
                  · have e : k = 120 := by omega
                    subst e
                    exact zon120
                  · have e : k = 121 := by omega
                    subst e
                    exact zon121
            · by_cases c122_127 : k < 124
              · by_cases c122_124 : k < 123
                · have e : k = 122 := by omega
                  subst e
                  exact zon122
                · have e : k = 123 := by omega
                  subst e
                  exact zon123
              · by_cases c124_127 : k < 125
                · have e : k = 124 := by omega
                  subst e
                  exact zon124
                · by_cases c125_127 : k < 126
                  · have e : k = 125 := by omega
                    subst e
                    exact zon125
                  · have e : k = 126 := by omega
                    subst e
                    exact zon126
          · by_cases c127_137 : k < 132
            · by_cases c127_132 : k < 129
              · by_cases c127_129 : k < 128
                · have e : k = 127 := by omega
                  subst e
                  exact zon127
                · have e : k = 128 := by omega
                  subst e
                  exact zon128
              · by_cases c129_132 : k < 130
                · have e : k = 129 := by omega
                  subst e
                  exact zon129
                · by_cases c130_132 : k < 131
                  · have e : k = 130 := by omega
                    subst e
                    exact zon130
                  · have e : k = 131 := by omega
                    subst e
                    exact zon131
            · by_cases c132_137 : k < 134
              · by_cases c132_134 : k < 133
                · have e : k = 132 := by omega
                  subst e
                  exact zon132
                · have e : k = 133 := by omega
                  subst e
                  exact zon133
              · by_cases c134_137 : k < 135
                · have e : k = 134 := by omega
                  subst e
                  exact zon134
                · by_cases c135_137 : k < 136
                  · have e : k = 135 := by omega
                    subst e
                    exact zon135
                  · have e : k = 136 := by omega
                    subst e
                    exact zon136
        · by_cases c137_157 : k < 147
          · by_cases c137_147 : k < 142
            · by_cases c137_142 : k < 139
              · by_cases c137_139 : k < 138
                · have e : k = 137 := by omega
                  subst e
                  exact zon137
                · have e : k = 138 := by omega
                  subst e
                  exact zon138
              · by_cases c139_142 : k < 140
                · have e : k = 139 := by omega
                  subst e
                  exact zon139
                · by_cases c140_142 : k < 141
                  · have e : k = 140 := by omega
                    subst e
                    exact zon140
                  · have e : k = 141 := by omega
                    subst e
                    exact zon141
            · by_cases c142_147 : k < 144
              · by_cases c142_144 : k < 143
                · have e : k = 142 := by omega
                  subst e
                  exact zon142
                · have e : k = 143 := by omega
                  subst e
                  exact zon143
              · by_cases c144_147 : k < 145
                · have e : k = 144 := by omega
                  subst e
                  exact zon144
                · by_cases c145_147 : k < 146
                  · have e : k = 145 := by omega
                    subst e
                    exact zon145
                  · have e : k = 146 := by omega
                    subst e
                    exact zon146
          · by_cases c147_157 : k < 152
            · by_cases c147_152 : k < 149
              · by_cases c147_149 : k < 148
                · have e : k = 147 := by omega
                  subst e
                  exact zon147
                · have e : k = 148 := by omega
                  subst e
                  exact zon148
              · by_cases c149_152 : k < 150
                · have e : k = 149 := by omega
                  subst e
                  exact zon149
                · by_cases c150_152 : k < 151
                  · have e : k = 150 := by omega
                    subst e
                    exact zon150
                  · have e : k = 151 := by omega
                    subst e
                    exact zon151
            · by_cases c152_157 : k < 154
              · by_cases c152_154 : k < 153
                · have e : k = 152 := by omega
                  subst e
                  exact zon152
                · have e : k = 153 := by omega
                  subst e
                  exact zon153
              · by_cases c154_157 : k < 155
                · have e : k = 154 := by omega
                  subst e
                  exact zon154
                · by_cases c155_157 : k < 156
                  · have e : k = 155 := by omega
                    subst e
                    exact zon155
                  · have e : k = 156 := by omega
                    subst e
                    exact zon156
  · by_cases c157_315 : k < 236
    · by_cases c157_236 : k < 196
      · by_cases c157_196 : k < 176
        · by_cases c157_176 : k < 166
          · by_cases c157_166 : k < 161
            · by_cases c157_161 : k < 159
              · by_cases c157_159 : k < 158
                · have e : k = 157 := by omega
                  subst e
                  exact zon157
                · have e : k = 158 := by omega
                  subst e
                  exact zon158
              · by_cases c159_161 : k < 160
                · have e : k = 159 := by omega
                  subst e
                  exact zon159
                · have e : k = 160 := by omega
                  subst e
                  exact zon160
            · by_cases c161_166 : k < 163
              · by_cases c161_163 : k < 162
                · have e : k = 161 := by omega
                  subst e
                  exact zon161
                · have e : k = 162 := by omega
                  subst e
                  exact zon162
              · by_cases c163_166 : k < 164
                · have e : k = 163 := by omega
                  subst e
                  exact zon163
                · by_cases c164_166 : k < 165
                  · have e : k = 164 := by omega
                    subst e
                    exact zon164
                  · have e : k = 165 := by omega
                    subst e
                    exact zon165
          · by_cases c166_176 : k < 171
            · by_cases c166_171 : k < 168
              · by_cases c166_168 : k < 167
                · have e : k = 166 := by omega
                  subst e
                  exact zon166
                · have e : k = 167 := by omega
                  subst e
                  exact zon167
              · by_cases c168_171 : k < 169
                · have e : k = 168 := by omega
                  subst e
                  exact zon168
                · by_cases c169_171 : k < 170
                  · have e : k = 169 := by omega
                    subst e
                    exact zon169
                  · have e : k = 170 := by omega
                    subst e
                    exact zon170
            · by_cases c171_176 : k < 173
              · by_cases c171_173 : k < 172
                · have e : k = 171 := by omega
                  subst e
                  exact zon171
                · have e : k = 172 := by omega
                  subst e
                  exact zon172
              · by_cases c173_176 : k < 174
                · have e : k = 173 := by omega
                  subst e
                  exact zon173
                · by_cases c174_176 : k < 175
                  · have e : k = 174 := by omega
                    subst e
                    exact zon174
                  · have e : k = 175 := by omega
                    subst e
                    exact zon175
        · by_cases c176_196 : k < 186
          · by_cases c176_186 : k < 181
            · by_cases c176_181 : k < 178
              · by_cases c176_178 : k < 177
                · have e : k = 176 := by omega
                  subst e
                  exact zon176
                · have e : k = 177 := by omega
                  subst e
                  exact zon177
              · by_cases c178_181 : k < 179
                · have e : k = 178 := by omega
                  subst e
                  exact zon178
                · by_cases c179_181 : k < 180
                  · have e : k = 179 := by omega
                    subst e
                    exact zon179
                  · have e : k = 180 := by omega
                    subst e
                    exact zon180
            · by_cases c181_186 : k < 183
              · by_cases c181_183 : k < 182
                · have e : k = 181 := by omega
                  subst e
                  exact zon181
                · have e : k = 182 := by omega
                  subst e
                  exact zon182
              · by_cases c183_186 : k < 184
                · have e : k = 183 := by omega
                  subst e
                  exact zon183
                · by_cases c184_186 : k < 185
                  · have e : k = 184 := by omega
                    subst e
                    exact zon184
                  · have e : k = 185 := by omega
                    subst e
                    exact zon185
          · by_cases c186_196 : k < 191
            · by_cases c186_191 : k < 188
              · by_cases c186_188 : k < 187
                · have e : k = 186 := by omega
                  subst e
                  exact zon186
                · have e : k = 187 := by omega
                  subst e
                  exact zon187
              · by_cases c188_191 : k < 189
                · have e : k = 188 := by omega
                  subst e
                  exact zon188
                · by_cases c189_191 : k < 190
                  · have e : k = 189 := by omega
                    subst e
                    exact zon189
                  · have e : k = 190 := by omega
                    subst e
                    exact zon190
            · by_cases c191_196 : k < 193
              · by_cases c191_193 : k < 192
                · have e : k = 191 := by omega
                  subst e
                  exact zon191
                · have e : k = 192 := by omega
                  subst e
                  exact zon192
              · by_cases c193_196 : k < 194
                · have e : k = 193 := by omega
                  subst e
                  exact zon193
                · by_cases c194_196 : k < 195
                  · have e : k = 194 := by omega
                    subst e
                    exact zon194
                  · have e : k = 195 := by omega
                    subst e
                    exact zon195
      · by_cases c196_236 : k < 216
        · by_cases c196_216 : k < 206
          · by_cases c196_206 : k < 201
            · by_cases c196_201 : k < 198
              · by_cases c196_198 : k < 197
                · have e : k = 196 := by omega
                  subst e
                  exact zon196
                · have e : k = 197 := by omega
                  subst e
                  exact zon197
              · by_cases c198_201 : k < 199
                · have e : k = 198 := by omega
                  subst e
                  exact zon198
                · by_cases c199_201 : k < 200
                  · have e : k = 199 := by omega
                    subst e
                    exact zon199
                  · have e : k = 200 := by omega
                    subst e
                    exact zon200
            · by_cases c201_206 : k < 203
              · by_cases c201_203 : k < 202
                · have e : k = 201 := by omega
                  subst e
                  exact zon201
                · have e : k = 202 := by omega
                  subst e
                  exact zon202
              · by_cases c203_206 : k < 204
                · have e : k = 203 := by omega
                  subst e
                  exact zon203
                · by_cases c204_206 : k < 205
                  · have e : k = 204 := by omega
                    subst e
                    exact zon204
                  · have e : k = 205 := by omega
                    subst e
                    exact zon205
          · by_cases c206_216 : k < 211
            · by_cases c206_211 : k < 208
              · by_cases c206_208 : k < 207
                · have e : k = 206 := by omega
                  subst e
                  exact zon206
                · have e : k = 207 := by omega
                  subst e
                  exact zon207
              · by_cases c208_211 : k < 209
                · have e : k = 208 := by omega
                  subst e
                  exact zon208
                · by_cases c209_211 : k < 210
                  · have e : k = 209 := by omega
                    subst e
                    exact zon209
                  · have e : k = 210 := by omega
                    subst e
                    exact zon210
            · by_cases c211_216 : k < 213
              · by_cases c211_213 : k < 212
                · have e : k = 211 := by omega
                  subst e
                  exact zon211
                · have e : k = 212 := by omega
                  subst e
                  exact zon212
              · by_cases c213_216 : k < 214
                · have e : k = 213 := by omega
                  subst e
                  exact zon213
                · by_cases c214_216 : k < 215
                  · have e : k = 214 := by omega
                    subst e
                    exact zon214
                  · have e : k = 215 := by omega
                    subst e
                    exact zon215
        · by_cases c216_236 : k < 226
          · by_cases c216_226 : k < 221
            · by_cases c216_221 : k < 218
              · by_cases c216_218 : k < 217
                · have e : k = 216 := by omega
                  subst e
                  exact zon216
                · have e : k = 217 := by omega
                  subst e
                  exact zon217
              · by_cases c218_221 : k < 219
                · have e : k = 218 := by omega
                  subst e
                  exact zon218
                · by_cases c219_221 : k < 220
                  · have e : k = 219 := by omega
                    subst e
                    exact zon219
                  · have e : k = 220 := by omega
                    subst e
                    exact zon220
            · by_cases c221_226 : k < 223
              · by_cases c221_223 : k < 222
                · have e : k = 221 := by omega
                  subst e
                  exact zon221
                · have e : k = 222 := by omega
                  subst e
                  exact zon222
              · by_cases c223_226 : k < 224
                · have e : k = 223 := by omega
                  subst e
                  exact zon223
                · by_cases c224_226 : k < 225
                  · have e : k = 224 := by omega
                    subst e
                    exact zon224
                  · have e : k = 225 := by omega
                    subst e
                    exact zon225
          · by_cases c226_236 : k < 231
            · by_cases c226_231 : k < 228
              · by_cases c226_228 : k < 227
                · have e : k = 226 := by omega
                  subst e
                  exact zon226
                · have e : k = 227 := by omega
                  subst e
                  exact zon227
              · by_cases c228_231 : k < 229
                · have e : k = 228 := by omega
                  subst e
                  exact zon228
                · by_cases c229_231 : k < 230
                  · have e : k = 229 := by omega
                    subst e
                    exact zon229
                  · have e : k = 230 := by omega
                    subst e
                    exact zon230
            · by_cases c231_236 : k < 233
              · by_cases c231_233 : k < 232
                · have e : k = 231 := by omega
                  subst e
                  exact zon231
                · have e : k = 232 := by omega
                  subst e
                  exact zon232
              · by_cases c233_236 : k < 234
                · have e : k = 233 := by omega
                  subst e
                  exact zon233
                · by_cases c234_236 : k < 235
                  · have e : k = 234 := by omega
                    subst e
                    exact zon234
                  · have e : k = 235 := by omega
                    subst e
                    exact zon235
    · by_cases c236_315 : k < 275
      · by_cases c236_275 : k < 255
        · by_cases c236_255 : k < 245
          · by_cases c236_245 : k < 240
            · by_cases c236_240 : k < 238
              · by_cases c236_238 : k < 237
                · have e : k = 236 := by omega
                  subst e
                  exact zon236
                · have e : k = 237 := by omega
                  subst e
                  exact zon237
              · by_cases c238_240 : k < 239
                · have e : k = 238 := by omega
                  subst e
                  exact zon238
                · have e : k = 239 := by omega
                  subst e
                  exact zon239
            · by_cases c240_245 : k < 242
              · by_cases c240_242 : k < 241
                · have e : k = 240 := by omega
                  subst e
                  exact zon240
                · have e : k = 241 := by omega
                  subst e
                  exact zon241
              · by_cases c242_245 : k < 243
                · have e : k = 242 := by omega
                  subst e
                  exact zon242
                · by_cases c243_245 : k < 244
                  · have e : k = 243 := by omega
                    subst e
                    exact zon243
                  · have e : k = 244 := by omega
                    subst e
                    exact zon244
          · by_cases c245_255 : k < 250
            · by_cases c245_250 : k < 247
              · by_cases c245_247 : k < 246
                · have e : k = 245 := by omega
                  subst e
                  exact zon245
                · have e : k = 246 := by omega
                  subst e
                  exact zon246
              · by_cases c247_250 : k < 248
                · have e : k = 247 := by omega
                  subst e
                  exact zon247
                · by_cases c248_250 : k < 249
                  · have e : k = 248 := by omega
                    subst e
                    exact zon248
                  · have e : k = 249 := by omega
                    subst e
                    exact zon249
            · by_cases c250_255 : k < 252
              · by_cases c250_252 : k < 251
                · have e : k = 250 := by omega
                  subst e
                  exact zon250
                · have e : k = 251 := by omega
                  subst e
                  exact zon251
              · by_cases c252_255 : k < 253
                · have e : k = 252 := by omega
                  subst e
                  exact zon252
                · by_cases c253_255 : k < 254
                  · have e : k = 253 := by omega
                    subst e
                    exact zon253
                  · have e : k = 254 := by omega
                    subst e
                    exact zon254
        · by_cases c255_275 : k < 265
          · by_cases c255_265 : k < 260
            · by_cases c255_260 : k < 257
              · by_cases c255_257 : k < 256
                · have e : k = 255 := by omega
                  subst e
                  exact zon255
                · have e : k = 256 := by omega
                  subst e
                  exact zon256
              · by_cases c257_260 : k < 258
                · have e : k = 257 := by omega
                  subst e
                  exact zon257
                · by_cases c258_260 : k < 259
                  · have e : k = 258 := by omega
                    subst e
                    exact zon258
                  · have e : k = 259 := by omega
                    subst e
                    exact zon259
            · by_cases c260_265 : k < 262
              · by_cases c260_262 : k < 261
                · have e : k = 260 := by omega
                  subst e
                  exact zon260
                · have e : k = 261 := by omega
                  subst e
                  exact zon261
              · by_cases c262_265 : k < 263
                · have e : k = 262 := by omega
                  subst e
                  exact zon262
                · by_cases c263_265 : k < 264
                  · have e : k = 263 := by omega
                    subst e
                    exact zon263
                  · have e : k = 264 := by omega
                    subst e
                    exact zon264
          · by_cases c265_275 : k < 270
            · by_cases c265_270 : k < 267
              · by_cases c265_267 : k < 266
                · have e : k = 265 := by omega
                  subst e
                  exact zon265
                · have e : k = 266 := by omega
                  subst e
                  exact zon266
              · by_cases c267_270 : k < 268
                · have e : k = 267 := by omega
                  subst e
                  exact zon267
                · by_cases c268_270 : k < 269
                  · have e : k = 268 := by omega
                    subst e
                    exact zon268
                  · have e : k = 269 := by omega
                    subst e
                    exact zon269
            · by_cases c270_275 : k < 272
              · by_cases c270_272 : k < 271
                · have e : k = 270 := by omega
                  subst e
                  exact zon270
                · have e : k = 271 := by omega
                  subst e
                  exact zon271
              · by_cases c272_275 : k < 273
                · have e : k = 272 := by omega
                  subst e
                  exact zon272
                · by_cases c273_275 : k < 274
                  · have e : k = 273 := by omega
                    subst e
                    exact zon273
                  · have e : k = 274 := by omega
                    subst e
                    exact zon274
      · by_cases c275_315 : k < 295
        · by_cases c275_295 : k < 285
          · by_cases c275_285 : k < 280
            · by_cases c275_280 : k < 277
              · by_cases c275_277 : k < 276
                · have e : k = 275 := by omega
                  subst e
                  exact zon275
                · have e : k = 276 := by omega
                  subst e
                  exact zon276
              · by_cases c277_280 : k < 278
                · have e : k = 277 := by omega
                  subst e
                  exact zon277
                · by_cases c278_280 : k < 279
                  · have e : k = 278 := by omega
                    subst e
                    exact zon278
                  · have e : k = 279 := by omega
                    subst e
                    exact zon279
            · by_cases c280_285 : k < 282
              · by_cases c280_282 : k < 281
                · have e : k = 280 := by omega
                  subst e
                  exact zon280
                · have e : k = 281 := by omega
                  subst e
                  exact zon281
              · by_cases c282_285 : k < 283
                · have e : k = 282 := by omega
                  subst e
                  exact zon282
                · by_cases c283_285 : k < 284
                  · have e : k = 283 := by omega
                    subst e
                    exact zon283
                  · have e : k = 284 := by omega
                    subst e
                    exact zon284
          · by_cases c285_295 : k < 290
            · by_cases c285_290 : k < 287
              · by_cases c285_287 : k < 286
                · have e : k = 285 := by omega
                  subst e
                  exact zon285
                · have e : k = 286 := by omega
                  subst e
                  exact zon286
              · by_cases c287_290 : k < 288
                · have e : k = 287 := by omega
                  subst e
                  exact zon287
                · by_cases c288_290 : k < 289
                  · have e : k = 288 := by omega
                    subst e
                    exact zon288
                  · have e : k = 289 := by omega
                    subst e
                    exact zon289
            · by_cases c290_295 : k < 292
              · by_cases c290_292 : k < 291
                · have e : k = 290 := by omega
                  subst e
                  exact zon290
                · have e : k = 291 := by omega
                  subst e
                  exact zon291
              · by_cases c292_295 : k < 293
                · have e : k = 292 := by omega
                  subst e
                  exact zon292
                · by_cases c293_295 : k < 294
                  · have e : k = 293 := by omega
                    subst e
                    exact zon293
                  · have e : k = 294 := by omega
                    subst e
                    exact zon294
        · by_cases c295_315 : k < 305
          · by_cases c295_305 : k < 300
            · by_cases c295_300 : k < 297
              · by_cases c295_297 : k < 296
                · have e : k = 295 := by omega
                  subst e
                  exact zon295
                · have e : k = 296 := by omega
                  subst e
                  exact zon296
              · by_cases c297_300 : k < 298
                · have e : k = 297 := by omega
                  subst e
                  exact zon297
                · by_cases c298_300 : k < 299
                  · have e : k = 298 := by omega
                    subst e
                    exact zon298
                  · have e : k = 299 := by omega
                    subst e
                    exact zon299
            · by_cases c300_305 : k < 302
              · by_cases c300_302 : k < 301
                · have e : k = 300 := by omega
                  subst e
                  exact zon300
                · have e : k = 301 := by omega
                  subst e
                  exact zon301
              · by_cases c302_305 : k < 303
                · have e : k = 302 := by omega
                  subst e
                  exact zon302
                · by_cases c303_305 : k < 304
                  · have e : k = 303 := by omega
                    subst e
                    exact zon303
                  · have e : k = 304 := by omega
                    subst e
                    exact zon304
          · by_cases c305_315 : k < 310
            · by_cases c305_310 : k < 307
              · by_cases c305_307 : k < 306
                · have e : k = 305 := by omega
                  subst e
                  exact zon305
                · have e : k = 306 := by omega
                  subst e
                  exact zon306
              · by_cases c307_310 : k < 308
                · have e : k = 307 := by omega
                  subst e
                  exact zon307
                · by_cases c308_310 : k < 309
                  · have e : k = 308 := by omega
                    subst e
                    exact zon308
                  · have e : k = 309 := by omega
                    subst e
                    exact zon309
            · by_cases c310_315 : k < 312
              · by_cases c310_312 : k < 311
                · have e : k = 310 := by omega
                  subst e
                  exact zon310
                · have e : k = 311 := by omega
                  subst e
                  exact zon311
              · by_cases c312_315 : k < 313
                · have e : k = 312 := by omega
                  subst e
                  exact zon312
                · by_cases c313_315 : k < 314
                  · have e : k = 313 := by omega
                    subst e
                    exact zon313
                  · have e : k = 314 := by omega
                    subst e
                    exact zon314
