/-! A THROW OF ONE'S OWN -/
def zNm : List String := ["java/lang/RuntimeException", "java/lang/Exception"]
/-- what the tables say of a throw: the class's place, the constructor's -/
def zThW (own : String) (ik : Nat) (E : String) (at9 : List Cond) : Prop := (∀ w ∈ at9, w ∈ zGW ∨ w ∈ zXW) ∧ ∀ w ∈ Cond.classLink own ik E :: Cond.initialized E :: at9, vx_ot w = true
def zTh (own : String) (ik ic : Nat) (E : String) : Prop := Bundle.fit E = true ∧ Cond.classLink own ik E ∈ zGW ∧ Cond.initialized E ∈ zGW ∧ (zThW own ik E (vx_atS own ic E zNm) ∨ zThW own ik E ((zatN own ic E).filter vx_no))
section ZT
variable {p : Program} {l : Launch} {e : Env} {R : Room} {s : State} {m : MethodId} {args : Array Value} {below : List Frame} {meth : Method} {c : Code} {G : zG} {cc : ByteArray} {n pc : Nat} {L : zL} {S : List Value} {h : zH} {kc ks mc ms : Nat} {own : String} {Q : zQ}
theorem zs_throw (hx : p.tables.exec = Jvm.exec) (hb : c.code = cc) (hml : c.maxLocals = n) (hlocks : meth.locks = false) (hl : l.stackTraces = false) (hts : ∀ w ∈ zGW, w.before args s = true) (hown : s.vm.findClass own = some m.cls) (hT : zT G s) (hs0 : zb0 G ≤ s.heap.size ∧ ∀ q, q < zb0 G → s.heap[q]? = (zH0 G)[q]?) {ik ic is : Nat} {E text : String} (hth : zTh own ik ic E) (wst : Cond.stringRef own is text ∈ tables_1)
    (hout : ∀ x ∈ c.exceptionTable.toList, False) (hRf : 5 < R.frames) (hRl : 90 ≤ R.locals) (hmc : R.cells = mc) (hms : R.slots = ms)
    (hd : (decode cc pc = .ok (.new ik, 3) ∧ decode cc (pc + 3) = .ok (.dup, 1) ∧ decode cc (pc + 4) = .ok (.ldc is, 2) ∧ decode cc (pc + 6) = .ok (.invokespecial ic, 3) ∧ decode cc (pc + 9) = .ok (.athrow, 1)) ∨ (decode cc pc = .ok (.new ik, 3) ∧ decode cc (pc + 3) = .ok (.dup, 1) ∧ decode cc (pc + 4) = .ok (.ldc_w is, 3) ∧ decode cc (pc + 7) = .ok (.invokespecial ic, 3) ∧ decode cc (pc + 10) = .ok (.athrow, 1)))
    (hst : kc + 1 ≤ mc ∧ ks + 6 ≤ ms ∧ zwt S ≤ 8 ∧ Q (.inr E) (znew h (.inr (0, [])))) : zsim p l e R s m args below meth c G n (zend below G Q args s mc ms) pc L S h kc ks := by
  intro H locs ls hr hll hv
  obtain ⟨hc1, hs1, hwt, hq⟩ := hst
  obtain ⟨hfit, w1, w2, w34⟩ := hth
  intro T hTh X
  have hsz : s.heap.size ≤ H.size := by
    have h9 : s.heap.size ≤ T.heap.size := X.same.2.1
    rw [hTh] at h9
    exact h9
  have kept : ∀ a : Nat, a < (zH0 G).size → ¬ (zb0 G ≤ a) → s.heap[a]? = (zH0 G)[a]? := fun a _ h2 => hs0.2 a (Nat.not_le.mp h2)
  have hU := hT.2.2.1.kept kept
  have hN := hT.2.2.2.1.kept kept
  have hS : va_S (fun q => zb0 G ≤ q) s.heap H locs := ⟨hsz, fun q _ h2 => by rw [hs0.2 q (Nat.not_le.mp h2)]; exact hr.2.2.1 q (Nat.not_le.mp h2), hll⟩
  obtain ⟨sa, hstr⟩ := hT.2.2.2.2.2.1 own is text wst
  have hat : ∀ at9 : List Cond, (∀ w ∈ at9, w ∈ zGW ∨ w ∈ zXW) → ∀ w ∈ at9, w.before args s = true := fun at9 w3 w hw => by
    rcases w3 w hw with h9 | h9
    · exact hts w h9
    · have h8 := hT.2.2.2.2.1 w h9
      have hg : w.onTables = true := by
        have := (List.mem_filter.mp h9).2
        unfold zXgood at this
        split at this
        · rfl
        · rfl
        · rfl
        · cases this
      exact va_Nw.use hg h8
  have hxx : ∀ t : State, s.vm.Alike t.vm → t.heap.size = H.size + 1 → (∀ q : Nat, q < H.size → t.heap[q]? = H[q]?) → zXC G Q E s t := fun t hA hz ho => ⟨_, hq, (hr.moved hA).new hz ho trivial⟩
  have hnames : ∀ n ∈ zNm, Bundle.fit n = true := by decide +kernel
  rcases w34 with ⟨w3, w4⟩ | ⟨w3, w4⟩
  · rcases hd with ⟨d0, d3, d4, d6, d9⟩ | ⟨d0, d3, d4, d6, d9⟩
    · exact vx_throwS (names := zNm) (Qc := zQc G Q) hx hb hl hown hfit hnames (hts _ w1) (hts _ w2) hstr (hat _ w3) w4 hU hN hS (by rw [hml]; exact hv.1) d0 d3 d4 d6 d9 (fun x hx0 => (hout x hx0).elim) hRf (by rw [zwt_map]; show _ + (13 * 3 + 43) ≤ _; omega) (by rw [hmc]; exact hc1) (by rw [hms]; exact hs1) hlocks hxx hll hc1 hs1 T hTh X
    · exact vx_throwSW (names := zNm) (Qc := zQc G Q) hx hb hl hown hfit hnames (hts _ w1) (hts _ w2) hstr (hat _ w3) w4 hU hN hS (by rw [hml]; exact hv.1) d0 d3 d4 d6 d9 (fun x hx0 => (hout x hx0).elim) hRf (by rw [zwt_map]; show _ + (13 * 3 + 43) ≤ _; omega) (by rw [hmc]; exact hc1) (by rw [hms]; exact hs1) hlocks hxx hll hc1 hs1 T hTh X
  · rcases hd with ⟨d0, d3, d4, d6, d9⟩ | ⟨d0, d3, d4, d6, d9⟩
    · exact zthrowN (Qc := zQc G Q) hx hb hl hown hfit (hts _ w1) (hts _ w2) hstr (hat _ w3) w4 hU hN hS (by rw [hml]; exact hv.1) d0 d3 d4 d6 d9 (fun x hx0 => (hout x hx0).elim) hRf (by rw [zwt_map]; show _ + (13 * 3 + 43) ≤ _; omega) (by rw [hmc]; exact hc1) (by rw [hms]; exact hs1) hlocks hxx hll hc1 hs1 T hTh X
    · exact zthrowNW (Qc := zQc G Q) hx hb hl hown hfit (hts _ w1) (hts _ w2) hstr (hat _ w3) w4 hU hN hS (by rw [hml]; exact hv.1) d0 d3 d4 d6 d9 (fun x hx0 => (hout x hx0).elim) hRf (by rw [zwt_map]; show _ + (13 * 3 + 43) ≤ _; omega) (by rw [hmc]; exact hc1) (by rw [hms]; exact hs1) hlocks hxx hll hc1 hs1 T hTh X
end ZT
