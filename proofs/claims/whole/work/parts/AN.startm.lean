/-! HOW THE REFERENCE BEGINS -/
def Y1 (s : zS) : zS := nA s 500
def Y2 (s : zS) : zS := nA (Y1 s) 4
def Y3 (s : zS) : zS := nA (Y2 s) 4
def Y4 (s : zS) : zS := nW (Y3 s) 16 2
def Y5 (s : zS) : zS := nW (Y4 s) 16 2
def Y6 (s : zS) : zS := nW (Y5 s) 24 4
def Y7 (s : zS) : zS := nW (Y6 s) 24 4
def Y8 (s : zS) : zS := nW (Y7 s) 12 3
def Y9 (s : zS) : zS := nW (Y8 s) 12 3
def Y10 (s : zS) : zS := nA (Y9 s) 24
def Y11 (s : zS) : zS := nA (Y10 s) 24
def Y12 (s : zS) : zS := nW (Y11 s) 201 24
def Y13 (s : zS) : zS := nW (Y12 s) 201 24
def Y14 (s : zS) : zS := nA (Y13 s) 24
def Y15 (s : zS) : zS := nA (Y14 s) 24
def Y16 (s : zS) : zS := nB (Y15 s) 48
def Y17 (s : zS) : zS := nB (Y16 s) 48
def Y18 (s : zS) : zS := nA (Y17 s) 48
def Y19 (s : zS) : zS := nW (Y18 s) 576 2
def Y20 (s : zS) : zS := nA (Y19 s) 12
def Y21 (s : zS) : zS := nA (Y20 s) 14
def Y22 (s : zS) : zS := nW (Y21 s) 12 48
def Y23 (s : zS) : zS := nA (Y22 s) 12
def Y24 (s : zS) : zS := nA (Y23 s) 12
def Y25 (s : zS) : zS := nA (Y24 s) 12
def Y26 (s : zS) : zS := nA (Y25 s) 12
def Y27 (s : zS) : zS := nA (Y26 s) 12
def Y28 (s : zS) : zS := nA (Y27 s) 12
def Y29 (s : zS) : zS := nW (Y28 s) 3 10000
def Y30 (s : zS) : zS := nW (Y29 s) 48 1024
def Y31 (s : zS) : zS := nA (Y30 s) 11
def Y32 (s : zS) : zS := nW (Y31 s) 11 11
def Y33 (s : zS) : zS := nA (Y32 s) 2048
def Y34 (s : zS) : zS := nA (Y33 s) 48
def Y35 (s : zS) : zS := nA (Y34 s) 48
def Y36 (s : zS) : zS := nB (Y35 s) 48
def Y37 (s : zS) : zS := nB (Y36 s) 48
theorem bk_A {lo b n : Nat} {s t : zS} (h : E4 lo (gT (nA s n)) (nA s n) t) (hb : b = gT s) : E4 lo b s t := E4_trans (E4_A (E4_refl (by omega))) (E4_w h (Nat.le_refl _) (by rw [hb]; exact Nat.le_succ _))
theorem bk_B {lo b n : Nat} {s t : zS} (h : E4 lo (gT (nB s n)) (nB s n) t) (hb : b = gT s) : E4 lo b s t := E4_trans (E4_B (E4_refl (by omega))) (E4_w h (Nat.le_refl _) (by rw [hb]; exact Nat.le_succ _))
theorem bk_W {lo b n m : Nat} {s t : zS} (h : E4 lo (gT (nW s n m)) (nW s n m) t) (hb : b = gT s) : E4 lo b s t := E4_trans (E4_W (E4_refl (by omega))) (E4_w h (Nat.le_refl _) (by rw [hb]; show gT s ≤ gT s + 1 + n; omega))
set_option maxRecDepth 100000 in
theorem LM_0 {s τ : zS} (hs : gT s = 89) (E : E4 88 1282 (N203 s) τ) : LM τ ∧ gI τ 88 = I203 ∧ ∀ a, 89 ≤ a → a < 1282 → (gD τ a = 1 → gA τ a = fun _ => 0) := by
  have g0 := hs
  have g1 : gT (Y1 s) = 90 := by
    show gT s + 1 = 90
    rw [g0]
  have g2 : gT (Y2 s) = 91 := by
    show gT (Y1 s) + 1 = 91
    rw [g1]
  have g3 : gT (Y3 s) = 92 := by
    show gT (Y2 s) + 1 = 92
    rw [g2]
  have g4 : gT (Y4 s) = 109 := by
    show gT (Y3 s) + 1 + 16 = 109
    rw [g3]
  have g5 : gT (Y5 s) = 126 := by
    show gT (Y4 s) + 1 + 16 = 126
    rw [g4]
  have g6 : gT (Y6 s) = 151 := by
    show gT (Y5 s) + 1 + 24 = 151
    rw [g5]
  have g7 : gT (Y7 s) = 176 := by
    show gT (Y6 s) + 1 + 24 = 176
    rw [g6]
  have g8 : gT (Y8 s) = 189 := by
    show gT (Y7 s) + 1 + 12 = 189
    rw [g7]
  have g9 : gT (Y9 s) = 202 := by
    show gT (Y8 s) + 1 + 12 = 202
    rw [g8]
  have g10 : gT (Y10 s) = 203 := by
    show gT (Y9 s) + 1 = 203
    rw [g9]
  have g11 : gT (Y11 s) = 204 := by
    show gT (Y10 s) + 1 = 204
    rw [g10]
  have g12 : gT (Y12 s) = 406 := by
    show gT (Y11 s) + 1 + 201 = 406
    rw [g11]
  have g13 : gT (Y13 s) = 608 := by
    show gT (Y12 s) + 1 + 201 = 608
    rw [g12]
  have g14 : gT (Y14 s) = 609 := by
    show gT (Y13 s) + 1 = 609
    rw [g13]
  have g15 : gT (Y15 s) = 610 := by
    show gT (Y14 s) + 1 = 610
    rw [g14]
  have g16 : gT (Y16 s) = 611 := by
    show gT (Y15 s) + 1 = 611
    rw [g15]
  have g17 : gT (Y17 s) = 612 := by
    show gT (Y16 s) + 1 = 612
    rw [g16]
  have g18 : gT (Y18 s) = 613 := by
    show gT (Y17 s) + 1 = 613
    rw [g17]
  have g19 : gT (Y19 s) = 1190 := by
    show gT (Y18 s) + 1 + 576 = 1190
    rw [g18]
  have g20 : gT (Y20 s) = 1191 := by
    show gT (Y19 s) + 1 = 1191
    rw [g19]
  have g21 : gT (Y21 s) = 1192 := by
    show gT (Y20 s) + 1 = 1192
    rw [g20]
  have g22 : gT (Y22 s) = 1205 := by
    show gT (Y21 s) + 1 + 12 = 1205
    rw [g21]
  have g23 : gT (Y23 s) = 1206 := by
    show gT (Y22 s) + 1 = 1206
    rw [g22]
  have g24 : gT (Y24 s) = 1207 := by
    show gT (Y23 s) + 1 = 1207
    rw [g23]
  have g25 : gT (Y25 s) = 1208 := by
    show gT (Y24 s) + 1 = 1208
    rw [g24]
  have g26 : gT (Y26 s) = 1209 := by
    show gT (Y25 s) + 1 = 1209
    rw [g25]
  have g27 : gT (Y27 s) = 1210 := by
    show gT (Y26 s) + 1 = 1210
    rw [g26]
  have g28 : gT (Y28 s) = 1211 := by
    show gT (Y27 s) + 1 = 1211
    rw [g27]
  have g29 : gT (Y29 s) = 1215 := by
    show gT (Y28 s) + 1 + 3 = 1215
    rw [g28]
  have g30 : gT (Y30 s) = 1264 := by
    show gT (Y29 s) + 1 + 48 = 1264
    rw [g29]
  have g31 : gT (Y31 s) = 1265 := by
    show gT (Y30 s) + 1 = 1265
    rw [g30]
  have g32 : gT (Y32 s) = 1277 := by
    show gT (Y31 s) + 1 + 11 = 1277
    rw [g31]
  have g33 : gT (Y33 s) = 1278 := by
    show gT (Y32 s) + 1 = 1278
    rw [g32]
  have g34 : gT (Y34 s) = 1279 := by
    show gT (Y33 s) + 1 = 1279
    rw [g33]
  have g35 : gT (Y35 s) = 1280 := by
    show gT (Y34 s) + 1 = 1280
    rw [g34]
  have g36 : gT (Y36 s) = 1281 := by
    show gT (Y35 s) + 1 = 1281
    rw [g35]
  have g37 : gT (Y37 s) = 1282 := by
    show gT (Y36 s) + 1 = 1282
    rw [g36]
  have c37 : E4 89 1282 (Y37 s) τ := E4_trans (E4_F (E4_refl (by omega)) (.inl (by omega))) (E4_w E (by omega) (Nat.le_refl _))
  have c36 : E4 89 1281 (Y36 s) τ := bk_B (by rw [show gT (nB (Y36 s) 48) = 1282 from g37]; exact c37) (by omega)
  have c35 : E4 89 1280 (Y35 s) τ := bk_B (by rw [show gT (nB (Y35 s) 48) = 1281 from g36]; exact c36) (by omega)
  have c34 : E4 89 1279 (Y34 s) τ := bk_A (by rw [show gT (nA (Y34 s) 48) = 1280 from g35]; exact c35) (by omega)
  have c33 : E4 89 1278 (Y33 s) τ := bk_A (by rw [show gT (nA (Y33 s) 48) = 1279 from g34]; exact c34) (by omega)
  have c32 : E4 89 1277 (Y32 s) τ := bk_A (by rw [show gT (nA (Y32 s) 2048) = 1278 from g33]; exact c33) (by omega)
  have c31 : E4 89 1265 (Y31 s) τ := bk_W (by rw [show gT (nW (Y31 s) 11 11) = 1277 from g32]; exact c32) (by omega)
  have c30 : E4 89 1264 (Y30 s) τ := bk_A (by rw [show gT (nA (Y30 s) 11) = 1265 from g31]; exact c31) (by omega)
  have c29 : E4 89 1215 (Y29 s) τ := bk_W (by rw [show gT (nW (Y29 s) 48 1024) = 1264 from g30]; exact c30) (by omega)
  have c28 : E4 89 1211 (Y28 s) τ := bk_W (by rw [show gT (nW (Y28 s) 3 10000) = 1215 from g29]; exact c29) (by omega)
  have c27 : E4 89 1210 (Y27 s) τ := bk_A (by rw [show gT (nA (Y27 s) 12) = 1211 from g28]; exact c28) (by omega)
  have c26 : E4 89 1209 (Y26 s) τ := bk_A (by rw [show gT (nA (Y26 s) 12) = 1210 from g27]; exact c27) (by omega)
  have c25 : E4 89 1208 (Y25 s) τ := bk_A (by rw [show gT (nA (Y25 s) 12) = 1209 from g26]; exact c26) (by omega)
  have c24 : E4 89 1207 (Y24 s) τ := bk_A (by rw [show gT (nA (Y24 s) 12) = 1208 from g25]; exact c25) (by omega)
  have c23 : E4 89 1206 (Y23 s) τ := bk_A (by rw [show gT (nA (Y23 s) 12) = 1207 from g24]; exact c24) (by omega)
  have c22 : E4 89 1205 (Y22 s) τ := bk_A (by rw [show gT (nA (Y22 s) 12) = 1206 from g23]; exact c23) (by omega)
  have c21 : E4 89 1192 (Y21 s) τ := bk_W (by rw [show gT (nW (Y21 s) 12 48) = 1205 from g22]; exact c22) (by omega)
  have c20 : E4 89 1191 (Y20 s) τ := bk_A (by rw [show gT (nA (Y20 s) 14) = 1192 from g21]; exact c21) (by omega)
  have c19 : E4 89 1190 (Y19 s) τ := bk_A (by rw [show gT (nA (Y19 s) 12) = 1191 from g20]; exact c20) (by omega)
  have c18 : E4 89 613 (Y18 s) τ := bk_W (by rw [show gT (nW (Y18 s) 576 2) = 1190 from g19]; exact c19) (by omega)
  have c17 : E4 89 612 (Y17 s) τ := bk_A (by rw [show gT (nA (Y17 s) 48) = 613 from g18]; exact c18) (by omega)
  have c16 : E4 89 611 (Y16 s) τ := bk_B (by rw [show gT (nB (Y16 s) 48) = 612 from g17]; exact c17) (by omega)
  have c15 : E4 89 610 (Y15 s) τ := bk_B (by rw [show gT (nB (Y15 s) 48) = 611 from g16]; exact c16) (by omega)
  have c14 : E4 89 609 (Y14 s) τ := bk_A (by rw [show gT (nA (Y14 s) 24) = 610 from g15]; exact c15) (by omega)
  have c13 : E4 89 608 (Y13 s) τ := bk_A (by rw [show gT (nA (Y13 s) 24) = 609 from g14]; exact c14) (by omega)
  have c12 : E4 89 406 (Y12 s) τ := bk_W (by rw [show gT (nW (Y12 s) 201 24) = 608 from g13]; exact c13) (by omega)
  have c11 : E4 89 204 (Y11 s) τ := bk_W (by rw [show gT (nW (Y11 s) 201 24) = 406 from g12]; exact c12) (by omega)
  have c10 : E4 89 203 (Y10 s) τ := bk_A (by rw [show gT (nA (Y10 s) 24) = 204 from g11]; exact c11) (by omega)
  have c9 : E4 89 202 (Y9 s) τ := bk_A (by rw [show gT (nA (Y9 s) 24) = 203 from g10]; exact c10) (by omega)
  have c8 : E4 89 189 (Y8 s) τ := bk_W (by rw [show gT (nW (Y8 s) 12 3) = 202 from g9]; exact c9) (by omega)
  have c7 : E4 89 176 (Y7 s) τ := bk_W (by rw [show gT (nW (Y7 s) 12 3) = 189 from g8]; exact c8) (by omega)
  have c6 : E4 89 151 (Y6 s) τ := bk_W (by rw [show gT (nW (Y6 s) 24 4) = 176 from g7]; exact c7) (by omega)
  have c5 : E4 89 126 (Y5 s) τ := bk_W (by rw [show gT (nW (Y5 s) 24 4) = 151 from g6]; exact c6) (by omega)
  have c4 : E4 89 109 (Y4 s) τ := bk_W (by rw [show gT (nW (Y4 s) 16 2) = 126 from g5]; exact c5) (by omega)
  have c3 : E4 89 92 (Y3 s) τ := bk_W (by rw [show gT (nW (Y3 s) 16 2) = 109 from g4]; exact c4) (by omega)
  have c2 : E4 89 91 (Y2 s) τ := bk_A (by rw [show gT (nA (Y2 s) 4) = 92 from g3]; exact c3) (by omega)
  have c1 : E4 89 90 (Y1 s) τ := bk_A (by rw [show gT (nA (Y1 s) 4) = 91 from g2]; exact c2) (by omega)
  have k0 : gD τ 89 = 1 := (c1.2 89 (by omega) (by omega)).1.trans (if_pos g0.symm)
  have n0 : gN τ 89 = 500 := (c1.2 89 (by omega) (by omega)).2.1.trans (if_pos g0.symm)
  have z0 : gA τ 89 = fun _ => 0 := (c1.2 89 (by omega) (by omega)).2.2.2.2.2.1.trans (if_pos g0.symm)
  have k1 : gD τ 90 = 1 := (c2.2 90 (by omega) (by omega)).1.trans (if_pos g1.symm)
  have n1 : gN τ 90 = 4 := (c2.2 90 (by omega) (by omega)).2.1.trans (if_pos g1.symm)
  have z1 : gA τ 90 = fun _ => 0 := (c2.2 90 (by omega) (by omega)).2.2.2.2.2.1.trans (if_pos g1.symm)
  have k2 : gD τ 91 = 1 := (c3.2 91 (by omega) (by omega)).1.trans (if_pos g2.symm)
  have n2 : gN τ 91 = 4 := (c3.2 91 (by omega) (by omega)).2.1.trans (if_pos g2.symm)
  have z2 : gA τ 91 = fun _ => 0 := (c3.2 91 (by omega) (by omega)).2.2.2.2.2.1.trans (if_pos g2.symm)
  have k3 : gD τ 92 = 3 := (c4.2 92 (by omega) (by omega)).1.trans (if_pos g3.symm)
  have n3 : gN τ 92 = 16 := (c4.2 92 (by omega) (by omega)).2.1.trans (if_pos g3.symm)
  have p3 : ∀ i, i < 16 → gD τ (93 + i) = 1 := fun i hi => (c4.2 (93 + i) (by omega) (by omega)).1.trans (by
    show (if 93 + i = gT (Y3 s) then 3 else if gT (Y3 s) < 93 + i ∧ 93 + i ≤ gT (Y3 s) + 16 then 1 else gD (Y3 s) (93 + i)) = 1
    rw [if_neg (by omega), if_pos (by omega)])
  have q3 : ∀ i, i < 16 → gN τ (93 + i) = 2 := fun i hi => (c4.2 (93 + i) (by omega) (by omega)).2.1.trans (by
    show (if 93 + i = gT (Y3 s) then 16 else if gT (Y3 s) < 93 + i ∧ 93 + i ≤ gT (Y3 s) + 16 then 2 else gN (Y3 s) (93 + i)) = 2
    rw [if_neg (by omega), if_pos (by omega)])
  have z3 : ∀ i, i < 16 → gA τ (93 + i) = fun _ => 0 := fun i hi => (c4.2 (93 + i) (by omega) (by omega)).2.2.2.2.2.1.trans (if_pos (by omega))
  have k4 : gD τ 109 = 3 := (c5.2 109 (by omega) (by omega)).1.trans (if_pos g4.symm)
  have n4 : gN τ 109 = 16 := (c5.2 109 (by omega) (by omega)).2.1.trans (if_pos g4.symm)
  have p4 : ∀ i, i < 16 → gD τ (110 + i) = 1 := fun i hi => (c5.2 (110 + i) (by omega) (by omega)).1.trans (by
    show (if 110 + i = gT (Y4 s) then 3 else if gT (Y4 s) < 110 + i ∧ 110 + i ≤ gT (Y4 s) + 16 then 1 else gD (Y4 s) (110 + i)) = 1
    rw [if_neg (by omega), if_pos (by omega)])
  have q4 : ∀ i, i < 16 → gN τ (110 + i) = 2 := fun i hi => (c5.2 (110 + i) (by omega) (by omega)).2.1.trans (by
    show (if 110 + i = gT (Y4 s) then 16 else if gT (Y4 s) < 110 + i ∧ 110 + i ≤ gT (Y4 s) + 16 then 2 else gN (Y4 s) (110 + i)) = 2
    rw [if_neg (by omega), if_pos (by omega)])
  have z4 : ∀ i, i < 16 → gA τ (110 + i) = fun _ => 0 := fun i hi => (c5.2 (110 + i) (by omega) (by omega)).2.2.2.2.2.1.trans (if_pos (by omega))
  have k5 : gD τ 126 = 3 := (c6.2 126 (by omega) (by omega)).1.trans (if_pos g5.symm)
  have n5 : gN τ 126 = 24 := (c6.2 126 (by omega) (by omega)).2.1.trans (if_pos g5.symm)
  have p5 : ∀ i, i < 24 → gD τ (127 + i) = 1 := fun i hi => (c6.2 (127 + i) (by omega) (by omega)).1.trans (by
    show (if 127 + i = gT (Y5 s) then 3 else if gT (Y5 s) < 127 + i ∧ 127 + i ≤ gT (Y5 s) + 24 then 1 else gD (Y5 s) (127 + i)) = 1
    rw [if_neg (by omega), if_pos (by omega)])
  have q5 : ∀ i, i < 24 → gN τ (127 + i) = 4 := fun i hi => (c6.2 (127 + i) (by omega) (by omega)).2.1.trans (by
    show (if 127 + i = gT (Y5 s) then 24 else if gT (Y5 s) < 127 + i ∧ 127 + i ≤ gT (Y5 s) + 24 then 4 else gN (Y5 s) (127 + i)) = 4
    rw [if_neg (by omega), if_pos (by omega)])
  have z5 : ∀ i, i < 24 → gA τ (127 + i) = fun _ => 0 := fun i hi => (c6.2 (127 + i) (by omega) (by omega)).2.2.2.2.2.1.trans (if_pos (by omega))
  have k6 : gD τ 151 = 3 := (c7.2 151 (by omega) (by omega)).1.trans (if_pos g6.symm)
  have n6 : gN τ 151 = 24 := (c7.2 151 (by omega) (by omega)).2.1.trans (if_pos g6.symm)
  have p6 : ∀ i, i < 24 → gD τ (152 + i) = 1 := fun i hi => (c7.2 (152 + i) (by omega) (by omega)).1.trans (by
    show (if 152 + i = gT (Y6 s) then 3 else if gT (Y6 s) < 152 + i ∧ 152 + i ≤ gT (Y6 s) + 24 then 1 else gD (Y6 s) (152 + i)) = 1
    rw [if_neg (by omega), if_pos (by omega)])
  have q6 : ∀ i, i < 24 → gN τ (152 + i) = 4 := fun i hi => (c7.2 (152 + i) (by omega) (by omega)).2.1.trans (by
    show (if 152 + i = gT (Y6 s) then 24 else if gT (Y6 s) < 152 + i ∧ 152 + i ≤ gT (Y6 s) + 24 then 4 else gN (Y6 s) (152 + i)) = 4
    rw [if_neg (by omega), if_pos (by omega)])
  have z6 : ∀ i, i < 24 → gA τ (152 + i) = fun _ => 0 := fun i hi => (c7.2 (152 + i) (by omega) (by omega)).2.2.2.2.2.1.trans (if_pos (by omega))
  have k7 : gD τ 176 = 3 := (c8.2 176 (by omega) (by omega)).1.trans (if_pos g7.symm)
  have n7 : gN τ 176 = 12 := (c8.2 176 (by omega) (by omega)).2.1.trans (if_pos g7.symm)
  have p7 : ∀ i, i < 12 → gD τ (177 + i) = 1 := fun i hi => (c8.2 (177 + i) (by omega) (by omega)).1.trans (by
    show (if 177 + i = gT (Y7 s) then 3 else if gT (Y7 s) < 177 + i ∧ 177 + i ≤ gT (Y7 s) + 12 then 1 else gD (Y7 s) (177 + i)) = 1
    rw [if_neg (by omega), if_pos (by omega)])
  have q7 : ∀ i, i < 12 → gN τ (177 + i) = 3 := fun i hi => (c8.2 (177 + i) (by omega) (by omega)).2.1.trans (by
    show (if 177 + i = gT (Y7 s) then 12 else if gT (Y7 s) < 177 + i ∧ 177 + i ≤ gT (Y7 s) + 12 then 3 else gN (Y7 s) (177 + i)) = 3
    rw [if_neg (by omega), if_pos (by omega)])
  have z7 : ∀ i, i < 12 → gA τ (177 + i) = fun _ => 0 := fun i hi => (c8.2 (177 + i) (by omega) (by omega)).2.2.2.2.2.1.trans (if_pos (by omega))
  have k8 : gD τ 189 = 3 := (c9.2 189 (by omega) (by omega)).1.trans (if_pos g8.symm)
  have n8 : gN τ 189 = 12 := (c9.2 189 (by omega) (by omega)).2.1.trans (if_pos g8.symm)
  have p8 : ∀ i, i < 12 → gD τ (190 + i) = 1 := fun i hi => (c9.2 (190 + i) (by omega) (by omega)).1.trans (by
    show (if 190 + i = gT (Y8 s) then 3 else if gT (Y8 s) < 190 + i ∧ 190 + i ≤ gT (Y8 s) + 12 then 1 else gD (Y8 s) (190 + i)) = 1
    rw [if_neg (by omega), if_pos (by omega)])
  have q8 : ∀ i, i < 12 → gN τ (190 + i) = 3 := fun i hi => (c9.2 (190 + i) (by omega) (by omega)).2.1.trans (by
    show (if 190 + i = gT (Y8 s) then 12 else if gT (Y8 s) < 190 + i ∧ 190 + i ≤ gT (Y8 s) + 12 then 3 else gN (Y8 s) (190 + i)) = 3
    rw [if_neg (by omega), if_pos (by omega)])
  have z8 : ∀ i, i < 12 → gA τ (190 + i) = fun _ => 0 := fun i hi => (c9.2 (190 + i) (by omega) (by omega)).2.2.2.2.2.1.trans (if_pos (by omega))
  have k9 : gD τ 202 = 1 := (c10.2 202 (by omega) (by omega)).1.trans (if_pos g9.symm)
  have n9 : gN τ 202 = 24 := (c10.2 202 (by omega) (by omega)).2.1.trans (if_pos g9.symm)
  have z9 : gA τ 202 = fun _ => 0 := (c10.2 202 (by omega) (by omega)).2.2.2.2.2.1.trans (if_pos g9.symm)
  have k10 : gD τ 203 = 1 := (c11.2 203 (by omega) (by omega)).1.trans (if_pos g10.symm)
  have n10 : gN τ 203 = 24 := (c11.2 203 (by omega) (by omega)).2.1.trans (if_pos g10.symm)
  have z10 : gA τ 203 = fun _ => 0 := (c11.2 203 (by omega) (by omega)).2.2.2.2.2.1.trans (if_pos g10.symm)
  have k11 : gD τ 204 = 3 := (c12.2 204 (by omega) (by omega)).1.trans (if_pos g11.symm)
  have n11 : gN τ 204 = 201 := (c12.2 204 (by omega) (by omega)).2.1.trans (if_pos g11.symm)
  have p11 : ∀ i, i < 201 → gD τ (205 + i) = 1 := fun i hi => (c12.2 (205 + i) (by omega) (by omega)).1.trans (by
    show (if 205 + i = gT (Y11 s) then 3 else if gT (Y11 s) < 205 + i ∧ 205 + i ≤ gT (Y11 s) + 201 then 1 else gD (Y11 s) (205 + i)) = 1
    rw [if_neg (by omega), if_pos (by omega)])
  have q11 : ∀ i, i < 201 → gN τ (205 + i) = 24 := fun i hi => (c12.2 (205 + i) (by omega) (by omega)).2.1.trans (by
    show (if 205 + i = gT (Y11 s) then 201 else if gT (Y11 s) < 205 + i ∧ 205 + i ≤ gT (Y11 s) + 201 then 24 else gN (Y11 s) (205 + i)) = 24
    rw [if_neg (by omega), if_pos (by omega)])
  have z11 : ∀ i, i < 201 → gA τ (205 + i) = fun _ => 0 := fun i hi => (c12.2 (205 + i) (by omega) (by omega)).2.2.2.2.2.1.trans (if_pos (by omega))
  have k12 : gD τ 406 = 3 := (c13.2 406 (by omega) (by omega)).1.trans (if_pos g12.symm)
  have n12 : gN τ 406 = 201 := (c13.2 406 (by omega) (by omega)).2.1.trans (if_pos g12.symm)
  have p12 : ∀ i, i < 201 → gD τ (407 + i) = 1 := fun i hi => (c13.2 (407 + i) (by omega) (by omega)).1.trans (by
    show (if 407 + i = gT (Y12 s) then 3 else if gT (Y12 s) < 407 + i ∧ 407 + i ≤ gT (Y12 s) + 201 then 1 else gD (Y12 s) (407 + i)) = 1
    rw [if_neg (by omega), if_pos (by omega)])
  have q12 : ∀ i, i < 201 → gN τ (407 + i) = 24 := fun i hi => (c13.2 (407 + i) (by omega) (by omega)).2.1.trans (by
    show (if 407 + i = gT (Y12 s) then 201 else if gT (Y12 s) < 407 + i ∧ 407 + i ≤ gT (Y12 s) + 201 then 24 else gN (Y12 s) (407 + i)) = 24
    rw [if_neg (by omega), if_pos (by omega)])
  have z12 : ∀ i, i < 201 → gA τ (407 + i) = fun _ => 0 := fun i hi => (c13.2 (407 + i) (by omega) (by omega)).2.2.2.2.2.1.trans (if_pos (by omega))
  have k13 : gD τ 608 = 1 := (c14.2 608 (by omega) (by omega)).1.trans (if_pos g13.symm)
  have n13 : gN τ 608 = 24 := (c14.2 608 (by omega) (by omega)).2.1.trans (if_pos g13.symm)
  have z13 : gA τ 608 = fun _ => 0 := (c14.2 608 (by omega) (by omega)).2.2.2.2.2.1.trans (if_pos g13.symm)
  have k14 : gD τ 609 = 1 := (c15.2 609 (by omega) (by omega)).1.trans (if_pos g14.symm)
  have n14 : gN τ 609 = 24 := (c15.2 609 (by omega) (by omega)).2.1.trans (if_pos g14.symm)
  have z14 : gA τ 609 = fun _ => 0 := (c15.2 609 (by omega) (by omega)).2.2.2.2.2.1.trans (if_pos g14.symm)
  have k15 : gD τ 610 = 2 := (c16.2 610 (by omega) (by omega)).1.trans (if_pos g15.symm)
  have n15 : gN τ 610 = 48 := (c16.2 610 (by omega) (by omega)).2.1.trans (if_pos g15.symm)
  have k16 : gD τ 611 = 2 := (c17.2 611 (by omega) (by omega)).1.trans (if_pos g16.symm)
  have n16 : gN τ 611 = 48 := (c17.2 611 (by omega) (by omega)).2.1.trans (if_pos g16.symm)
  have k17 : gD τ 612 = 1 := (c18.2 612 (by omega) (by omega)).1.trans (if_pos g17.symm)
  have n17 : gN τ 612 = 48 := (c18.2 612 (by omega) (by omega)).2.1.trans (if_pos g17.symm)
  have z17 : gA τ 612 = fun _ => 0 := (c18.2 612 (by omega) (by omega)).2.2.2.2.2.1.trans (if_pos g17.symm)
  have k18 : gD τ 613 = 3 := (c19.2 613 (by omega) (by omega)).1.trans (if_pos g18.symm)
  have n18 : gN τ 613 = 576 := (c19.2 613 (by omega) (by omega)).2.1.trans (if_pos g18.symm)
  have p18 : ∀ i, i < 576 → gD τ (614 + i) = 1 := fun i hi => (c19.2 (614 + i) (by omega) (by omega)).1.trans (by
    show (if 614 + i = gT (Y18 s) then 3 else if gT (Y18 s) < 614 + i ∧ 614 + i ≤ gT (Y18 s) + 576 then 1 else gD (Y18 s) (614 + i)) = 1
    rw [if_neg (by omega), if_pos (by omega)])
  have q18 : ∀ i, i < 576 → gN τ (614 + i) = 2 := fun i hi => (c19.2 (614 + i) (by omega) (by omega)).2.1.trans (by
    show (if 614 + i = gT (Y18 s) then 576 else if gT (Y18 s) < 614 + i ∧ 614 + i ≤ gT (Y18 s) + 576 then 2 else gN (Y18 s) (614 + i)) = 2
    rw [if_neg (by omega), if_pos (by omega)])
  have z18 : ∀ i, i < 576 → gA τ (614 + i) = fun _ => 0 := fun i hi => (c19.2 (614 + i) (by omega) (by omega)).2.2.2.2.2.1.trans (if_pos (by omega))
  have k19 : gD τ 1190 = 1 := (c20.2 1190 (by omega) (by omega)).1.trans (if_pos g19.symm)
  have n19 : gN τ 1190 = 12 := (c20.2 1190 (by omega) (by omega)).2.1.trans (if_pos g19.symm)
  have z19 : gA τ 1190 = fun _ => 0 := (c20.2 1190 (by omega) (by omega)).2.2.2.2.2.1.trans (if_pos g19.symm)
  have k20 : gD τ 1191 = 1 := (c21.2 1191 (by omega) (by omega)).1.trans (if_pos g20.symm)
  have n20 : gN τ 1191 = 14 := (c21.2 1191 (by omega) (by omega)).2.1.trans (if_pos g20.symm)
  have z20 : gA τ 1191 = fun _ => 0 := (c21.2 1191 (by omega) (by omega)).2.2.2.2.2.1.trans (if_pos g20.symm)
  have k21 : gD τ 1192 = 3 := (c22.2 1192 (by omega) (by omega)).1.trans (if_pos g21.symm)
  have n21 : gN τ 1192 = 12 := (c22.2 1192 (by omega) (by omega)).2.1.trans (if_pos g21.symm)
  have p21 : ∀ i, i < 12 → gD τ (1193 + i) = 1 := fun i hi => (c22.2 (1193 + i) (by omega) (by omega)).1.trans (by
    show (if 1193 + i = gT (Y21 s) then 3 else if gT (Y21 s) < 1193 + i ∧ 1193 + i ≤ gT (Y21 s) + 12 then 1 else gD (Y21 s) (1193 + i)) = 1
    rw [if_neg (by omega), if_pos (by omega)])
  have q21 : ∀ i, i < 12 → gN τ (1193 + i) = 48 := fun i hi => (c22.2 (1193 + i) (by omega) (by omega)).2.1.trans (by
    show (if 1193 + i = gT (Y21 s) then 12 else if gT (Y21 s) < 1193 + i ∧ 1193 + i ≤ gT (Y21 s) + 12 then 48 else gN (Y21 s) (1193 + i)) = 48
    rw [if_neg (by omega), if_pos (by omega)])
  have z21 : ∀ i, i < 12 → gA τ (1193 + i) = fun _ => 0 := fun i hi => (c22.2 (1193 + i) (by omega) (by omega)).2.2.2.2.2.1.trans (if_pos (by omega))
  have k22 : gD τ 1205 = 1 := (c23.2 1205 (by omega) (by omega)).1.trans (if_pos g22.symm)
  have n22 : gN τ 1205 = 12 := (c23.2 1205 (by omega) (by omega)).2.1.trans (if_pos g22.symm)
  have z22 : gA τ 1205 = fun _ => 0 := (c23.2 1205 (by omega) (by omega)).2.2.2.2.2.1.trans (if_pos g22.symm)
  have k23 : gD τ 1206 = 1 := (c24.2 1206 (by omega) (by omega)).1.trans (if_pos g23.symm)
  have n23 : gN τ 1206 = 12 := (c24.2 1206 (by omega) (by omega)).2.1.trans (if_pos g23.symm)
  have z23 : gA τ 1206 = fun _ => 0 := (c24.2 1206 (by omega) (by omega)).2.2.2.2.2.1.trans (if_pos g23.symm)
  have k24 : gD τ 1207 = 1 := (c25.2 1207 (by omega) (by omega)).1.trans (if_pos g24.symm)
  have n24 : gN τ 1207 = 12 := (c25.2 1207 (by omega) (by omega)).2.1.trans (if_pos g24.symm)
  have z24 : gA τ 1207 = fun _ => 0 := (c25.2 1207 (by omega) (by omega)).2.2.2.2.2.1.trans (if_pos g24.symm)
  have k25 : gD τ 1208 = 1 := (c26.2 1208 (by omega) (by omega)).1.trans (if_pos g25.symm)
  have n25 : gN τ 1208 = 12 := (c26.2 1208 (by omega) (by omega)).2.1.trans (if_pos g25.symm)
  have z25 : gA τ 1208 = fun _ => 0 := (c26.2 1208 (by omega) (by omega)).2.2.2.2.2.1.trans (if_pos g25.symm)
  have k26 : gD τ 1209 = 1 := (c27.2 1209 (by omega) (by omega)).1.trans (if_pos g26.symm)
  have n26 : gN τ 1209 = 12 := (c27.2 1209 (by omega) (by omega)).2.1.trans (if_pos g26.symm)
  have z26 : gA τ 1209 = fun _ => 0 := (c27.2 1209 (by omega) (by omega)).2.2.2.2.2.1.trans (if_pos g26.symm)
  have k27 : gD τ 1210 = 1 := (c28.2 1210 (by omega) (by omega)).1.trans (if_pos g27.symm)
  have n27 : gN τ 1210 = 12 := (c28.2 1210 (by omega) (by omega)).2.1.trans (if_pos g27.symm)
  have z27 : gA τ 1210 = fun _ => 0 := (c28.2 1210 (by omega) (by omega)).2.2.2.2.2.1.trans (if_pos g27.symm)
  have k28 : gD τ 1211 = 3 := (c29.2 1211 (by omega) (by omega)).1.trans (if_pos g28.symm)
  have n28 : gN τ 1211 = 3 := (c29.2 1211 (by omega) (by omega)).2.1.trans (if_pos g28.symm)
  have p28 : ∀ i, i < 3 → gD τ (1212 + i) = 1 := fun i hi => (c29.2 (1212 + i) (by omega) (by omega)).1.trans (by
    show (if 1212 + i = gT (Y28 s) then 3 else if gT (Y28 s) < 1212 + i ∧ 1212 + i ≤ gT (Y28 s) + 3 then 1 else gD (Y28 s) (1212 + i)) = 1
    rw [if_neg (by omega), if_pos (by omega)])
  have q28 : ∀ i, i < 3 → gN τ (1212 + i) = 10000 := fun i hi => (c29.2 (1212 + i) (by omega) (by omega)).2.1.trans (by
    show (if 1212 + i = gT (Y28 s) then 3 else if gT (Y28 s) < 1212 + i ∧ 1212 + i ≤ gT (Y28 s) + 3 then 10000 else gN (Y28 s) (1212 + i)) = 10000
    rw [if_neg (by omega), if_pos (by omega)])
  have z28 : ∀ i, i < 3 → gA τ (1212 + i) = fun _ => 0 := fun i hi => (c29.2 (1212 + i) (by omega) (by omega)).2.2.2.2.2.1.trans (if_pos (by omega))
  have k29 : gD τ 1215 = 3 := (c30.2 1215 (by omega) (by omega)).1.trans (if_pos g29.symm)
  have n29 : gN τ 1215 = 48 := (c30.2 1215 (by omega) (by omega)).2.1.trans (if_pos g29.symm)
  have p29 : ∀ i, i < 48 → gD τ (1216 + i) = 1 := fun i hi => (c30.2 (1216 + i) (by omega) (by omega)).1.trans (by
    show (if 1216 + i = gT (Y29 s) then 3 else if gT (Y29 s) < 1216 + i ∧ 1216 + i ≤ gT (Y29 s) + 48 then 1 else gD (Y29 s) (1216 + i)) = 1
    rw [if_neg (by omega), if_pos (by omega)])
  have q29 : ∀ i, i < 48 → gN τ (1216 + i) = 1024 := fun i hi => (c30.2 (1216 + i) (by omega) (by omega)).2.1.trans (by
    show (if 1216 + i = gT (Y29 s) then 48 else if gT (Y29 s) < 1216 + i ∧ 1216 + i ≤ gT (Y29 s) + 48 then 1024 else gN (Y29 s) (1216 + i)) = 1024
    rw [if_neg (by omega), if_pos (by omega)])
  have z29 : ∀ i, i < 48 → gA τ (1216 + i) = fun _ => 0 := fun i hi => (c30.2 (1216 + i) (by omega) (by omega)).2.2.2.2.2.1.trans (if_pos (by omega))
  have k30 : gD τ 1264 = 1 := (c31.2 1264 (by omega) (by omega)).1.trans (if_pos g30.symm)
  have n30 : gN τ 1264 = 11 := (c31.2 1264 (by omega) (by omega)).2.1.trans (if_pos g30.symm)
  have z30 : gA τ 1264 = fun _ => 0 := (c31.2 1264 (by omega) (by omega)).2.2.2.2.2.1.trans (if_pos g30.symm)
  have k31 : gD τ 1265 = 3 := (c32.2 1265 (by omega) (by omega)).1.trans (if_pos g31.symm)
  have n31 : gN τ 1265 = 11 := (c32.2 1265 (by omega) (by omega)).2.1.trans (if_pos g31.symm)
  have p31 : ∀ i, i < 11 → gD τ (1266 + i) = 1 := fun i hi => (c32.2 (1266 + i) (by omega) (by omega)).1.trans (by
    show (if 1266 + i = gT (Y31 s) then 3 else if gT (Y31 s) < 1266 + i ∧ 1266 + i ≤ gT (Y31 s) + 11 then 1 else gD (Y31 s) (1266 + i)) = 1
    rw [if_neg (by omega), if_pos (by omega)])
  have q31 : ∀ i, i < 11 → gN τ (1266 + i) = 11 := fun i hi => (c32.2 (1266 + i) (by omega) (by omega)).2.1.trans (by
    show (if 1266 + i = gT (Y31 s) then 11 else if gT (Y31 s) < 1266 + i ∧ 1266 + i ≤ gT (Y31 s) + 11 then 11 else gN (Y31 s) (1266 + i)) = 11
    rw [if_neg (by omega), if_pos (by omega)])
  have z31 : ∀ i, i < 11 → gA τ (1266 + i) = fun _ => 0 := fun i hi => (c32.2 (1266 + i) (by omega) (by omega)).2.2.2.2.2.1.trans (if_pos (by omega))
  have k32 : gD τ 1277 = 1 := (c33.2 1277 (by omega) (by omega)).1.trans (if_pos g32.symm)
  have n32 : gN τ 1277 = 2048 := (c33.2 1277 (by omega) (by omega)).2.1.trans (if_pos g32.symm)
  have z32 : gA τ 1277 = fun _ => 0 := (c33.2 1277 (by omega) (by omega)).2.2.2.2.2.1.trans (if_pos g32.symm)
  have k33 : gD τ 1278 = 1 := (c34.2 1278 (by omega) (by omega)).1.trans (if_pos g33.symm)
  have n33 : gN τ 1278 = 48 := (c34.2 1278 (by omega) (by omega)).2.1.trans (if_pos g33.symm)
  have z33 : gA τ 1278 = fun _ => 0 := (c34.2 1278 (by omega) (by omega)).2.2.2.2.2.1.trans (if_pos g33.symm)
  have k34 : gD τ 1279 = 1 := (c35.2 1279 (by omega) (by omega)).1.trans (if_pos g34.symm)
  have n34 : gN τ 1279 = 48 := (c35.2 1279 (by omega) (by omega)).2.1.trans (if_pos g34.symm)
  have z34 : gA τ 1279 = fun _ => 0 := (c35.2 1279 (by omega) (by omega)).2.2.2.2.2.1.trans (if_pos g34.symm)
  have k35 : gD τ 1280 = 2 := (c36.2 1280 (by omega) (by omega)).1.trans (if_pos g35.symm)
  have n35 : gN τ 1280 = 48 := (c36.2 1280 (by omega) (by omega)).2.1.trans (if_pos g35.symm)
  have k36 : gD τ 1281 = 2 := (c37.2 1281 (by omega) (by omega)).1.trans (if_pos g36.symm)
  have n36 : gN τ 1281 = 48 := (c37.2 1281 (by omega) (by omega)).2.1.trans (if_pos g36.symm)
  have q88 := E.2 88 (by omega) (by omega)
  have r88 : gR τ 88 = R203 := q88.2.2.2.2.1.trans fin_R
  refine ⟨⟨q88.1.trans (show gD (N203 s) 88 = 15 from rfl), by rw [r88]; rfl, k0, n0, by rw [r88]; rfl, k1, n1, by rw [r88]; rfl, k2, n2, by rw [r88]; rfl, k3, n3, p3, q3, by rw [r88]; rfl, k4, n4, p4, q4, by rw [r88]; rfl, k5, n5, p5, q5, by rw [r88]; rfl, k6, n6, p6, q6, by rw [r88]; rfl, k7, n7, p7, q7, by rw [r88]; rfl, k8, n8, p8, q8, by rw [r88]; rfl, k9, n9, by rw [r88]; rfl, k10, n10, by rw [r88]; rfl, k11, n11, p11, q11, by rw [r88]; rfl, k12, n12, p12, q12, by rw [r88]; rfl, k13, n13, by rw [r88]; rfl, k14, n14, by rw [r88]; rfl, k15, n15, by rw [r88]; rfl, k16, n16, by rw [r88]; rfl, k17, n17, by rw [r88]; rfl, k18, n18, p18, q18, by rw [r88]; rfl, k19, n19, by rw [r88]; rfl, k20, n20, by rw [r88]; rfl, k21, n21, p21, q21, by rw [r88]; rfl, k22, n22, by rw [r88]; rfl, k23, n23, by rw [r88]; rfl, k24, n24, by rw [r88]; rfl, k25, n25, by rw [r88]; rfl, k26, n26, by rw [r88]; rfl, k27, n27, by rw [r88]; rfl, k28, n28, p28, q28, by rw [r88]; rfl, k29, n29, p29, q29, by rw [r88]; rfl, k30, n30, by rw [r88]; rfl, k31, n31, p31, q31, by rw [r88]; rfl, k32, n32, by rw [r88]; rfl, k33, n33, by rw [r88]; rfl, k34, n34, by rw [r88]; rfl, k35, n35, by rw [r88]; rfl, k36, n36⟩, q88.2.2.1.trans fin_I, fun a h1 h2 h3 => ?_⟩
  by_cases a0 : a = 89
  · rw [a0]
    exact z0
  by_cases a1 : a = 90
  · rw [a1]
    exact z1
  by_cases a2 : a = 91
  · rw [a2]
    exact z2
  by_cases a3 : a ≤ 108
  · by_cases b3 : a = 92
    · rw [b3, k3] at h3
      omega
    · have := z3 (a - 93) (by omega)
      rw [show 93 + (a - 93) = a from by omega] at this
      exact this
  by_cases a4 : a ≤ 125
  · by_cases b4 : a = 109
    · rw [b4, k4] at h3
      omega
    · have := z4 (a - 110) (by omega)
      rw [show 110 + (a - 110) = a from by omega] at this
      exact this
  by_cases a5 : a ≤ 150
  · by_cases b5 : a = 126
    · rw [b5, k5] at h3
      omega
    · have := z5 (a - 127) (by omega)
      rw [show 127 + (a - 127) = a from by omega] at this
      exact this
  by_cases a6 : a ≤ 175
  · by_cases b6 : a = 151
    · rw [b6, k6] at h3
      omega
    · have := z6 (a - 152) (by omega)
      rw [show 152 + (a - 152) = a from by omega] at this
      exact this
  by_cases a7 : a ≤ 188
  · by_cases b7 : a = 176
    · rw [b7, k7] at h3
      omega
    · have := z7 (a - 177) (by omega)
      rw [show 177 + (a - 177) = a from by omega] at this
      exact this
  by_cases a8 : a ≤ 201
  · by_cases b8 : a = 189
    · rw [b8, k8] at h3
      omega
    · have := z8 (a - 190) (by omega)
      rw [show 190 + (a - 190) = a from by omega] at this
      exact this
  by_cases a9 : a = 202
  · rw [a9]
    exact z9
  by_cases a10 : a = 203
  · rw [a10]
    exact z10
  by_cases a11 : a ≤ 405
  · by_cases b11 : a = 204
    · rw [b11, k11] at h3
      omega
    · have := z11 (a - 205) (by omega)
      rw [show 205 + (a - 205) = a from by omega] at this
      exact this
  by_cases a12 : a ≤ 607
  · by_cases b12 : a = 406
    · rw [b12, k12] at h3
      omega
    · have := z12 (a - 407) (by omega)
      rw [show 407 + (a - 407) = a from by omega] at this
      exact this
  by_cases a13 : a = 608
  · rw [a13]
    exact z13
  by_cases a14 : a = 609
  · rw [a14]
    exact z14
  by_cases a15 : a = 610
  · rw [a15, k15] at h3
    omega
  by_cases a16 : a = 611
  · rw [a16, k16] at h3
    omega
  by_cases a17 : a = 612
  · rw [a17]
    exact z17
  by_cases a18 : a ≤ 1189
  · by_cases b18 : a = 613
    · rw [b18, k18] at h3
      omega
    · have := z18 (a - 614) (by omega)
      rw [show 614 + (a - 614) = a from by omega] at this
      exact this
  by_cases a19 : a = 1190
  · rw [a19]
    exact z19
  by_cases a20 : a = 1191
  · rw [a20]
    exact z20
  by_cases a21 : a ≤ 1204
  · by_cases b21 : a = 1192
    · rw [b21, k21] at h3
      omega
    · have := z21 (a - 1193) (by omega)
      rw [show 1193 + (a - 1193) = a from by omega] at this
      exact this
  by_cases a22 : a = 1205
  · rw [a22]
    exact z22
  by_cases a23 : a = 1206
  · rw [a23]
    exact z23
  by_cases a24 : a = 1207
  · rw [a24]
    exact z24
  by_cases a25 : a = 1208
  · rw [a25]
    exact z25
  by_cases a26 : a = 1209
  · rw [a26]
    exact z26
  by_cases a27 : a = 1210
  · rw [a27]
    exact z27
  by_cases a28 : a ≤ 1214
  · by_cases b28 : a = 1211
    · rw [b28, k28] at h3
      omega
    · have := z28 (a - 1212) (by omega)
      rw [show 1212 + (a - 1212) = a from by omega] at this
      exact this
  by_cases a29 : a ≤ 1263
  · by_cases b29 : a = 1215
    · rw [b29, k29] at h3
      omega
    · have := z29 (a - 1216) (by omega)
      rw [show 1216 + (a - 1216) = a from by omega] at this
      exact this
  by_cases a30 : a = 1264
  · rw [a30]
    exact z30
  by_cases a31 : a ≤ 1276
  · by_cases b31 : a = 1265
    · rw [b31, k31] at h3
      omega
    · have := z31 (a - 1266) (by omega)
      rw [show 1266 + (a - 1266) = a from by omega] at this
      exact this
  by_cases a32 : a = 1277
  · rw [a32]
    exact z32
  by_cases a33 : a = 1278
  · rw [a33]
    exact z33
  by_cases a34 : a = 1279
  · rw [a34]
    exact z34
  by_cases a35 : a = 1280
  · rw [a35, k35] at h3
    omega
  by_cases a36 : a = 1281
  · rw [a36, k36] at h3
    omega
  omega
theorem MI_0 {s τ : zS} (hs : gT s = 89) (E : E4 88 1282 (N203 s) τ) (hg : 1283 ≤ gT τ) : MI τ s00 := by
  obtain ⟨hL, hI, hA⟩ := LM_0 hs E
  have z91 := hA 91 (by omega) (by omega) (LM_k10 hL)
  have z205 : gA τ 205 = fun _ => 0 := hA 205 (by omega) (by omega) (LM_p20 hL 0 (by omega))
  have z407 : gA τ 407 = fun _ => 0 := hA 407 (by omega) (by omega) (LM_p21 hL 0 (by omega))
  refine ⟨Wv_0, ⟨hL, by rw [z91]; rfl, by rw [z91]; rfl, by rw [z91]; rfl, by rw [z91]; rfl, fun c hc => absurd hc (Nat.not_lt_zero _), fun c hc => absurd hc (Nat.not_lt_zero _), fun c hc => absurd hc (Nat.not_lt_zero _)⟩, ⟨by rw [hI]; rfl, fun c hc => absurd hc (Nat.not_lt_zero _)⟩, ⟨by rw [hI]; rfl, fun w hw => ?_⟩, ⟨by rw [hI]; rfl, fun c hc => absurd hc (Nat.not_lt_zero _)⟩, ⟨by rw [hI]; rfl, fun c hc => absurd hc (Nat.not_lt_zero _)⟩, ⟨by rw [hI]; rfl, fun c hc => absurd hc (Nat.not_lt_zero _), by rw [hI]; rfl⟩, by rw [hI]; rfl, hg⟩
  have e : w = 0 := Nat.le_zero.1 hw
  subst e
  rw [z205, z407]
  exact ⟨fun a u _ _ => ib_0, fun a u _ _ => ib_0⟩
