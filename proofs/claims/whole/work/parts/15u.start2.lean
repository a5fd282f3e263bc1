/-! THE CLAIM'S START: the world -/
theorem zstr1 {A : Array Value} {s : State} {own text : String} {idx : Nat} (h : (Cond.stringRef own idx text).before A s = true) : (Cond.stringRef own idx text).before A s = true := h
theorem zstr2 {A : Array Value} {s : State} {own : String} {idx a : Nat} (h : (Term.string own idx).eval A s none [] s = some (.ref a)) : (Term.string own idx).eval A s none [] s = some (.ref a) := h
theorem zstart {s : State} {b L : Nat} {xs : Nat → Int32} {h0 : zH} (hCL : zCLok) (hts : ∀ w ∈ lw_tbl, w.before #[Value.ref b] s = true) (hX : va_X b L xs s s.heap) (hbl : b < s.heap.size) (hgv : (Jvm.Cond.and given_1 narrow_1).before #[Value.ref b] s = true) (e1 : h0.2 = 16) (e2 : h0.1 0 = .inl (0, L, .inl xs)) (e3 : ∀ i, 0 < i → h0.1 i = .inr (0, [])) : ∃ G : zG, zb0 G = s.heap.size ∧ zH0 G = s.heap ∧ zad G 0 = b ∧ zrel G s h0 s.heap ∧ zT G s := by
  have htsT : ∀ w ∈ tables_1, w.before #[Value.ref b] s = true := fun w hw => hts w (List.mem_append_right _ hw)
  have hn : ∀ w ∈ zFl9, w.before #[Value.ref b] s = true := flat_of_before _ hgv
  have hA : ∀ a : Nat, a < s.heap.size → ¬ (fun q : Nat => s.heap.size ≤ q) a := fun a h => Nat.not_le.mpr h
  /- the classes -/
  have hk : ∀ k : Nat, ∃ q : ClassId × (Nat → Nat), ∀ r : vw_C, zcl[k]? = some r → u_Kn s r.1 r.2.1 r.2.2 q.1 q.2 := by
    intro k
    cases hz : zcl[k]? with
    | none => exact ⟨(0, fun _ => 0), fun r h => by cases h⟩
    | some r =>
      have hk12 : k < 12 := (List.getElem?_eq_some_iff.mp hz).1
      have hi := zf_17 k hk12
      rw [List.getD_eq_getElem?_getD, hz] at hi
      obtain ⟨cC, iS, h⟩ := u_known (C := r.1) (T := r.2.1) (N := r.2.2) (n := r.2.2) (ws := zGW) (fun w hw => hts w (List.mem_filter.mp hw).1) (hCL k r hz).1 (htsT _ hi)
      exact ⟨(cC, iS), fun r2 h2 => by cases h2; exact h⟩
  obtain ⟨dCI, hdCI⟩ := Classical.axiomOfChoice hk
  obtain ⟨aI, hI1, hI2⟩ := zarr (htsT (Cond.arrayClass .int) (by decide +kernel)) (fun C h => by cases h)
  obtain ⟨aJ, hJ1, hJ2⟩ := zarr (htsT (Cond.arrayClass .long) (by decide +kernel)) (fun C h => by cases h)
  obtain ⟨aR, hR1, hR2⟩ := zover (htsT _ zf_14)
  /- the words -/
  obtain ⟨adK, adV, hS, hEv⟩ := vk_Sof (s := s) (args := #[Value.ref b]) (N := 7) (tm := fun i => .string RX5 (151 + 2 * i)) (len := zLenW) (byt := zBytW) (A := fun q : Nat => s.heap.size ≤ q) (fun i hi => by
      have : ∀ i, i < 7 → zLenW.getD i 0 < 2 ^ 31 := by decide
      exact this i hi) (fun i hi => hn _ (zf_1 i hi)) (fun i hi => hn _ (zf_2 i hi)) (fun i hi => hn _ (zf_3 i hi)) (fun i hi => hn _ (zf_4 i hi)) (fun i hi j hj => hn _ (zf_5 i hi j hj)) (fun i j hi hj hij => (zf_6 i hi j hj hij).elim (fun z => .inl (hn _ z)) (fun z => .inr (hn _ z))) hA
  refine ⟨(s.heap.size, fun q => if q = 0 ∨ 15 ≤ q then b else if q ≤ 7 then adK (q - 1) else adV (q - 8), fun k => (dCI k).1, fun k => (dCI k).2, fun k => if k = 0 then aI else if k = 1 then aJ else aR, s.heap), rfl, rfl, ?_, ?_, ?_⟩
  · unfold zad
    rw [if_pos (by omega)]
    show (if (0 : Nat) = 0 ∨ 15 ≤ (0 : Nat) then b else if (0 : Nat) ≤ 7 then adK (0 - 1) else adV (0 - 8)) = b
    rw [if_pos (Or.inl rfl)]
  · refine ⟨by omega, by rw [e1]; rfl, fun q hq => rfl, fun i hi => ⟨?_, ?_⟩, fun i hi => ?_⟩
    · show (if i = 0 ∨ 15 ≤ i then b else if i ≤ 7 then adK (i - 1) else adV (i - 8)) < s.heap.size
      by_cases c1 : i = 0 ∨ 15 ≤ i
      · rw [if_pos c1]
        exact hbl
      · rw [if_neg c1]
        by_cases c2 : i ≤ 7
        · rw [if_pos c2]
          obtain ⟨cell, h1, -⟩ := (hS.1 (i - 1) (by omega)).1
          exact (Array.getElem?_eq_some_iff.mp h1).1
        · rw [if_neg c2]
          obtain ⟨cell, h1, -⟩ := (hS.1 (i - 8) (by omega)).2.2.2
          exact (Array.getElem?_eq_some_iff.mp h1).1
    · by_cases c1 : i = 0
      · subst c1
        exact .inl ⟨L, xs, e2, hX⟩
      · exact .inr ⟨[], e3 i (by omega)⟩
    · rw [e3 i (by omega)]
      exact trivial
  · refine ⟨⟨fun k r hr => hdCI k r hr, fun k q hq => ?_⟩, rfl, vx_Zqof (htsT _ zf_15.1) (htsT _ zf_16.1) (hn _ zf_8) hA, vx_Zqof (htsT _ zf_15.2.1) (htsT _ zf_16.1) (hn _ zf_9) hA, fun w hw => ?_, fun own idx text hm => ?_, fun q hq => va_Nc.of (hn _ (zf_7 q hq)), ?_, fun j hj => ?_, ?_, ?_, ?_⟩
    · match k, hq with
      | 0, hq => cases hq; exact ⟨hI1, hI2⟩
      | 1, hq => cases hq; exact ⟨hJ1, hJ2⟩
      | 2, hq => cases hq; exact ⟨hR1, hR2⟩
      | k + 3, hq => simp at hq
    · obtain ⟨h1, h2⟩ := List.mem_filter.mp hw
      refine va_Nw.of ?_ (htsT w h1)
      unfold zXgood at h2
      split at h2
      · rfl
      · rfl
      · rfl
      · cases h2
    · have h1 := List.all_eq_true.mp zf_12 _ hm
      have h1 : Cond.exactly (.string own idx) "java/lang/String" ∈ zFl9 := of_decide_eq_true h1
      obtain ⟨a, c, cA, kA, q1, -⟩ := Cond.exactly_spec (args := #[Value.ref b]) (first := s) (o := none) (s := s) (idx := []) (t := .string own idx) (cls := "java/lang/String") (hn _ h1)
      exact ⟨a, vk_R.of (zstr1 (htsT _ hm)) (zstr2 q1)⟩
    · exact htsT _ zf_14
    · have e : (if 1 + j = 0 ∨ 15 ≤ 1 + j then b else if 1 + j ≤ 7 then adK (1 + j - 1) else adV (1 + j - 8)) = adK j := by
        rw [if_neg (by omega), if_pos (by omega), Nat.add_sub_cancel_left]
      show vk_R RX5 (151 + 2 * j) (zWord.getD j "") (if 1 + j = 0 ∨ 15 ≤ 1 + j then b else if 1 + j ≤ 7 then adK (1 + j - 1) else adV (1 + j - 8)) s
      rw [e]
      exact vk_R.of (zstr1 (htsT _ (zf_13 j hj))) (zstr2 (hEv j hj))
    · have e4 : ∀ i, i < 7 → (if 1 + i = 0 ∨ 15 ≤ 1 + i then b else if 1 + i ≤ 7 then adK (1 + i - 1) else adV (1 + i - 8)) = adK i := fun i hi => by
        rw [if_neg (by omega), if_pos (by omega), Nat.add_sub_cancel_left]
      have e5 : ∀ i, i < 7 → (if 8 + i = 0 ∨ 15 ≤ 8 + i then b else if 8 + i ≤ 7 then adK (8 + i - 1) else adV (8 + i - 8)) = adV i := fun i hi => by
        rw [if_neg (by omega), if_neg (by omega), Nat.add_sub_cancel_left]
      refine ⟨fun i hi => ?_, fun i j hi hj hij => ?_⟩
      · have h := hS.1 i hi
        rw [← e4 i hi, ← e5 i hi] at h
        exact h
      · refine hS.2 i j hi hj ?_
        rw [← e4 i hi, ← e4 j hj]
        exact hij
    · exact va_Zof (htsT _ zf_15.2.2.1) (htsT _ zf_16.2.1) (va_eqt (hn _ zf_10)) hA
    · exact va_Zqof (htsT _ zf_15.2.2.2) (htsT _ zf_16.2.2) (hn _ zf_11) hA
