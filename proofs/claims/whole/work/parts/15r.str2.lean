/-! STRINGS, FROM THE CLASS -/
theorem zs_rec {G : zG} {s : State} {h : zH} {H : Heap} {j : Nat} (hT : zT G s) (hs0 : zb0 G ≤ s.heap.size ∧ ∀ q, q < zb0 G → s.heap[q]? = (zH0 G)[q]?) (hr : zrel G s h H) (hj : j < 7) : ∃ cell : Cell, H[zet G (1 + j)]? = some cell ∧ cell.vm.isStatics = false ∧ s.vm.findClass "java/lang/String" = some cell.cls := by
  obtain ⟨cell, h1, h2, h3, -⟩ := ((zStr_at hT hs0).1.1 j hj).1
  have hq := (hr.2.2.2.1 (1 + j) (by omega)).1
  refine ⟨cell, ?_, h2, h3⟩
  rw [hr.2.2.1 _ hq, ← hs0.2 _ hq]
  exact h1
theorem zSt5_ok (l : Launch) (G : zG) : zSt5 l G := by
  intro p e R s m args below meth c Qf n pc K L S h kc ks hx hml hts hown hT hs0 hRf hRl hd hK hst H locs ls hr hl hv
  match S, hst with
  | .ref q :: S, ⟨⟨⟨q1, q2⟩, hc1, hc2⟩, hwt, hk⟩ =>
    obtain ⟨j, rfl⟩ : ∃ j : Nat, q = 1 + j := Nat.exists_eq_add_of_le q1
    have hj : j < 7 := Nat.lt_of_succ_le (by rw [Nat.succ_eq_one_add]; exact q2)
    have kk := hK _ _ _ _ _ hk H locs ls hr hl hv
    have eR : zv G (.ref (1 + j)) = .ref (zet G (1 + j)) := by
      show Value.ref (zad G (1 + j)) = _
      unfold zad
      rw [if_pos (by omega)]
    show W p l e R s m args below meth c H locs kc ks Qf (F0 m pc ls (zv G (.ref (1 + j)) :: S.map (zv G)))
    rw [eR]
    have hM := s_len l G j hj
    refine zs_back (x := some (.int (nI (zsl (1 + j))))) (va_runV (own := RX5) (C := "java/lang/String") (y := ys_len) (index := 165) (bytes := prog_25_method_54_code) (maxL := 1) (ret := some .int) (n := 0) (cc := c.code) (b := zet G (1 + j)) (rest := S.map (zv G)) (As := []) (Ts := zGW) ⟨hx, rfl, hml, hown, hts⟩ hM
      ⟨callB_of 0 hts (fun w hw => by rcases List.mem_cons.mp hw with rfl | hw; exact zG1 zsw621 _ (List.mem_singleton.mpr rfl); exact zG1 hw _ (List.mem_singleton.mpr rfl)) rfl rfl rfl (hts _ zsw19) (hts _ zsw618) ⟨by decide, by decide, by decide⟩ ⟨show 1 + 1 ≤ R.frames from by omega, show 8 + (1 + 11) + 20 ≤ R.locals from by omega⟩, hts _ zsw619, hts _ zsw620⟩ ⟨zPs_blind G _, zs_rec hT hs0 hr hj, fun U hU hW => ⟨rfl, hT.warm hW, by rw [hU]; exact ⟨by have := hr.2.1; have := hr.1; omega, fun q hq => hr.2.2.1 q hq⟩⟩⟩ rfl rfl hv.1 rfl (lv_room (by rw [zwt_map]; exact hwt)) hd ⟨hc1, hc2⟩) kk
theorem zSt6_ok (l : Launch) (G : zG) : zSt6 l G := by
  intro p e R s m args below meth c Qf n pc K L S h kc ks hx hml hts hown hT hs0 hRf hRl hd hK hst H locs ls hr hl hv
  match S, hst with
  | .int i :: .ref q :: S, ⟨⟨⟨q1, q2⟩, hc1, hc2⟩, hwt, hin, hk⟩ =>
    obtain ⟨j, rfl⟩ : ∃ j : Nat, q = 1 + j := Nat.exists_eq_add_of_le q1
    have hj : j < 7 := Nat.lt_of_succ_le (by rw [Nat.succ_eq_one_add]; exact q2)
    have kk := hK _ _ _ _ _ hk H locs ls hr hl hv
    have eR : zv G (.ref (1 + j)) = .ref (zet G (1 + j)) := by
      show Value.ref (zad G (1 + j)) = _
      unfold zad
      rw [if_pos (by omega)]
    show W p l e R s m args below meth c H locs kc ks Qf (F0 m pc ls (.int i :: zv G (.ref (1 + j)) :: S.map (zv G)))
    rw [eR]
    have hM := s_cha l G j i hj hin
    refine zs_back (x := some (.int (zsc (1 + j) i.toNatClampNeg))) (va_runV (own := RX5) (C := "java/lang/String") (y := ys_cha) (index := 170) (bytes := prog_25_method_56_code) (maxL := 2) (ret := some .char) (n := 1) (cc := c.code) (b := zet G (1 + j)) (rest := S.map (zv G)) (As := [.int i]) (Ts := zGW) ⟨hx, rfl, hml, hown, hts⟩ hM
      ⟨callB_of 1 hts (fun w hw => by rcases List.mem_cons.mp hw with rfl | hw; exact zG1 zsw631 _ (List.mem_singleton.mpr rfl); exact zG1 hw _ (List.mem_singleton.mpr rfl)) rfl rfl rfl (hts _ zsw19) (hts _ zsw628) ⟨by decide, by decide, by decide⟩ ⟨show 3 + 1 ≤ R.frames from by omega, show 8 + (2 + 11) + 64 ≤ R.locals from by omega⟩, hts _ zsw629, hts _ zsw630⟩ ⟨zPs_blind G _, zs_rec hT hs0 hr hj, fun U hU hW => ⟨rfl, hT.warm hW, by rw [hU]; exact ⟨by have := hr.2.1; have := hr.1; omega, fun q hq => hr.2.2.1 q hq⟩⟩⟩ rfl rfl hv.1 rfl (lv_room (by rw [zwt_map]; exact hwt)) hd ⟨hc1, hc2⟩) kk
