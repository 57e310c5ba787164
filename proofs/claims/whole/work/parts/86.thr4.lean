/-! throwing: leaving a method, making the exception -/
theorem ct_kept {s t : State} {k n : Nat} (h : s.sameButNew t [] k n) {q : Nat} (hq : q < s.heap.size) : t.heap[q]? = s.heap[q]? := by
  obtain ⟨c', h1, h2, h3, h4⟩ := h.2.2.2.2.2 q s.heap[q] (Array.getElem?_eq_getElem hq)
  have e : c' = s.heap[q] := by
    rw [h2]
    have z : c'.slots = s.heap[q].slots := Array.ext_getElem? (fun i => h4 i (by simp))
    rw [z]
  rw [h1, e, Array.getElem?_eq_getElem hq]
section
variable {p : Program} {l : Launch} {e : Env} {R : Room} {s : State} {m : MethodId} {args : Array Value} {below : List Frame} {meth : Method} {c : Code} {A : Nat → Prop} {g : wd_G} {cells slots : Nat} {cc : ByteArray} {nL pc : Nat} {own : String} {ret : Option FieldType} {ls : List (Option Value)} {st : List Value} {S0 : State}
/-- a call that throws, in a method without handlers: it throws too -/
theorem ct_callV (C : cw_C p s m args meth c A wd_all g cc nL own ret) (hx : c.exceptionTable.isEmpty = true) (D : ct_C l S0 s A g) {y : MethodName} {cc' : ByteArray} {nL' n idx d ci N q : Nat} {ret' : Option FieldType} {fl : List (Nat × Nat)} {Tt : u_T} {ty0 : Nat → FieldType} {As stk : List Value} {X : wx_S} {cls : String} (K : cw_kV own idx y cc' nL' ret' n) (hc : wd_cls ci y.cls Tt N ty0) (hi : wd_is wd_all q (4, ci, fl))
    (hd : decode cc pc = .ok (.invokevirtual idx, 3)) (hs : stk = As.reverse ++ .ref q :: st) (hn : As.length = n) (hw : ((st.map (cw_v g.1)).map fun v => v.category).sum ≤ 8) (hR : d + 1 ≤ R.frames ∧ 8 + (nL' + 11) + 40 * d ≤ R.locals) (hf : 1 ≤ R.cells ∧ 6 ≤ R.slots)
    (hM : ct_M y cc' nL' ret' d (.ref q :: As) X cls) : cw_W p l e R s m args below meth c A wd_all g 0 0 (ct_MQ below (ct_Q g A X cls) args s 1 6 A) nL pc ls stk (wx_e X) (wx_l X) := by
  intro H locs la hl hP hS T hT Xs
  obtain ⟨x, T', L, X', hS', hP', ob, stp⟩ := ct_go C D K hc hi hd hs hn hw hR (by rw [Nat.zero_add, Nat.zero_add]; exact hf) hM hl.1 hP hS hT Xs
  obtain ⟨w, h1, h2, h3, h4⟩ := X'.leaveThrown x (g := F0 m pc la (st.map (cw_v g.1))) rfl rfl rfl (covers_of_empty hx _) (cw_hlk C)
  exact ⟨_, stp.trans w, x, h1, h2, ⟨ob, hP', hS'.F rfl⟩, locs ++ L, ⟨h3, h4⟩, hS'.2.2⟩
/-- the walk as if the method had been entered with the heap as it is now -/
theorem ct_base {T : State} {locs : List Loc} {k : Nat × Nat} (Xs : Stand p l e R s m args below meth c T locs cells slots) (h1 : cells + k.1 ≤ R.cells) (h2 : slots + k.2 ≤ R.slots) : Stand p l e { R with cells := k.1, slots := k.2 } ({ s with heap := T.heap, slotsUsed := T.slotsUsed } : State) m args below meth c T [] 0 0 := by
  have hr := Xs.room
  have hb := Xs.book
  have hz := Xs.heapSize
  have hu := Xs.used
  have hsm := Xs.same
  refine ⟨Xs.admits, Xs.cas, Xs.clock, Xs.frames, ?_, Xs.hears, Xs.method, Xs.code, Xs.here, Xs.tail, Xs.warmed, Xs.limits, Xs.bytes, ?_⟩
  · simp only [State.hasRoom, Bool.and_eq_true, decide_eq_true_eq] at hr ⊢
    obtain ⟨⟨⟨hr1, hr2⟩, hr3⟩, -⟩ := hr
    exact ⟨⟨⟨hr1, by show T.heap.size + k.1 ≤ _; omega⟩, by show T.slotsUsed + k.2 ≤ _; omega⟩, hb⟩
  · refine ⟨?_, Nat.le_refl _, Nat.le_refl _, ?_, ?_, fun a cc hcc => ⟨cc, hcc, rfl, rfl, fun _ _ => rfl⟩⟩
    · exact hsm.1
    · show T.slotsUsed = T.slotsUsed + ((T.heap.toList.drop T.heap.size).map (·.slots.size)).sum
      rw [List.drop_eq_nil_of_le (by rw [Array.length_toList]; exact Nat.le_refl _)]; rfl
    · show ((T.heap.toList.drop T.heap.size).map (·.slots.size)).sum ≤ 0
      rw [List.drop_eq_nil_of_le (by rw [Array.length_toList]; exact Nat.le_refl _)]; exact Nat.le_refl _
set_option maxHeartbeats 1000000 in
/-- new, dup, ldc, the constructor, athrow -/
theorem ct_throw (C : cw_C p s m args meth c A wd_all g cc nL "DagLedger" ret) (hx : c.exceptionTable.isEmpty = true) (D : ct_C l S0 s A g) {ix sx ic : Nat} {cls tx : String} {X : wx_S} (hcl : Cond.classLink "DagLedger" ix cls ∈ wd_tb) (hins : Cond.instantiable cls 6 ∈ wd_tb) (hini : Cond.initialized cls ∈ wd_tb) (hst : Cond.stringRef "DagLedger" sx tx ∈ lw_tbl)
    (hoa : ∀ w ∈ Bundle.ownAtoms "DagLedger" ic cls ct_up, w ∈ ct_oa) (hfit : Bundle.fit cls = true) (d0 : decode cc pc = .ok (.new ix, 3)) (d1 : decode cc (pc + 3) = .ok (.dup, 1)) (d2 : decode cc (pc + 4) = .ok (.ldc sx, 2)) (d3 : decode cc (pc + 6) = .ok (.invokespecial ic, 3)) (d4 : decode cc (pc + 9) = .ok (.athrow, 1))
    (hR : 5 < R.frames ∧ 82 ≤ R.locals) (hf : 1 ≤ R.cells ∧ 6 ≤ R.slots) : cw_W p l e R s m args below meth c A wd_all g 0 0 (ct_MQ below (ct_Q g A X cls) args s 1 6 A) nL pc ls [] (wx_e X) (wx_l X) := by
  intro H locs la hl hP hS T hT Xs
  have hts := cw_hts C
  have htr : e.platform.stackTraces = false := Launch.traces_off D.1 Xs.admits
  obtain ⟨a0, h0⟩ := D.2.1
  have S' := ct_base (k := (1, 6)) Xs (by omega) (by omega)
  have hvm : ({ s with heap := T.heap, slotsUsed := T.slotsUsed } : State).vm = s.vm := rfl
  have hSt : ct_St S0 ({ s with heap := T.heap, slotsUsed := T.slotsUsed } : State) := ct_St.at (U := ({ s with heap := T.heap, slotsUsed := T.slotsUsed } : State)) D hS hT (State.WarmedH.refl s)
  have hwd : ∀ w ∈ wd_tb, w.before args ({ s with heap := T.heap, slotsUsed := T.slotsUsed } : State) = true := fun w hw => word_at (U := ({ s with heap := T.heap, slotsUsed := T.slotsUsed } : State)) (State.WarmedH.refl s) (wd_good _ hw) (hts _ hw)
  obtain ⟨d, hcur⟩ : ∃ d, S0.vm.findClass "DagLedger" = some d := ⟨m.cls, by rw [← D.2.2.1.1.alike.findClass]; exact C.2.2.2.1⟩
  obtain ⟨-, -, -, sa, -, -, -, -, -, hev⟩ := Cond.stringRef_spec hcur (h0.1 _ hst)
  have hZ : vk_R "DagLedger" sx tx sa ({ s with heap := T.heap, slotsUsed := T.slotsUsed } : State) := vk_R.warm hSt.1 (vk_R.of (h0.1 _ hst) hev)
  have hback : ∀ {U : State} {L : List Loc}, ({ s with heap := T.heap, slotsUsed := T.slotsUsed } : State).sameButNew ({ U with vm := s.vm } : State) L 1 6 → s.sameButNew ({ U with vm := s.vm } : State) (locs ++ L) 1 6 := fun {U L} hs => by
    have z : (T.setVm s.vm).sameButNew ({ U with vm := s.vm } : State) L 1 6 := by
      obtain ⟨z1, z2⟩ := hs
      refine ⟨z1.trans ?_, z2⟩
      have y1 := Xs.same.1
      have y2 : (T.setVm s.vm).setFrames U.frames = ({ s.setFrames U.frames with heap := T.heap, slotsUsed := T.slotsUsed } : State) := by
        rw [y1]
        show ({ (s.setFrames T.frames).setFrames U.frames with heap := T.heap, slotsUsed := T.slotsUsed } : State) = _
        rw [State.setFrames_setFrames]
      show ({ s.setFrames U.frames with heap := U.heap, slotsUsed := U.slotsUsed } : State) = ({ (T.setVm s.vm).setFrames U.frames with heap := U.heap, slotsUsed := U.slotsUsed } : State)
      rw [y2]
    have w := Xs.same.trans z
    rw [Nat.zero_add, Nat.zero_add] at w
    exact w
  generalize hs' : ({ s with heap := T.heap, slotsUsed := T.slotsUsed } : State) = s' at *
  have hh' : s'.heap = H := by rw [← hs']; exact hT
  have hown : s'.vm.findClass "DagLedger" = some m.cls := by rw [hvm]; exact C.2.2.2.1
  obtain ⟨vm₁, cX, kX, hfX, hkX, -, -, X₁, st1⟩ := S'.newCold C.1 (own := "DagLedger") (C := cls) (index := ix) (n := 6) hown (hwd _ hcl) (hwd _ hins) (hwd _ hini) (g := F0 m pc la []) rfl (by rw [C.2.1]; exact d0) (Nat.le_refl _) (Nat.le_refl _)
  generalize hT2 : (T.setVm vm₁).pushCell { cls := cX, slots := kX.instanceTypes.map defaultValue, vm := .none } = T2 at X₁ st1
  have hcellA : T2.heap[T.heap.size]? = some (freshCell cX kX) := by rw [← hT2]; exact State.heap_pushCell_size _ _
  obtain ⟨U, hsteps, hrun, hend, hW, hsame, ce, hce, Kc⟩ := X₁.ctorThrowS C.1 htr (own := "DagLedger") (cls := cls) (names := ct_up) (ic := ic) hown hfit (by decide +kernel) (fun y hy => ct_tr h0 hSt args y (hoa y hy)) (fun y hy => absurd hy (by simp)) hfX hkX hcellA (by rw [hh', ← hT]; exact Nat.le_refl _) (msg := .ref sa) rfl
    (g := F0 m (pc + 6) la [.ref sa, .ref T.heap.size, .ref T.heap.size]) rfl (by rw [C.2.2.1]; exact hl.1) rfl rfl (rest := []) rfl (by rw [C.2.1]; exact d3) (by rw [C.2.1]; exact d4) (covers_of_empty hx _) (by show 2 + 3 < R.frames; exact hR.1) (by show 0 + 1 + (13 * 3 + 42) ≤ R.locals; exact hR.2) (cw_hlk C)
  have hk : ∀ q, q < H.size → U.heap[q]? = H[q]? := fun q hq => by
    have z := ct_kept hsame (q := q) (by rw [hh']; exact hq)
    rw [hh'] at z
    exact z
  have hsz : H.size ≤ U.heap.size := by
    have z := hsame.2.1
    rw [hh'] at z
    exact z
  refine ⟨U, ?_, T.heap.size, hrun, hend, ⟨⟨ce, hce, by rw [Kc.vm]; rfl, by rw [← hvm]; exact Kc.cls⟩, fun k q hq => ?_, ⟨Nat.le_trans hS.1 hsz, fun q h1 h2 => by rw [hk q (Nat.lt_of_lt_of_le h1 hS.1)]; exact hS.2.1 q h1 h2⟩⟩, locs ++ [], ⟨?_, ?_⟩, by rw [List.append_nil]; exact hS.2.2⟩
  · refine st1 _ ?_
    show Steps p.tables e below (T2.setTop (F0 m (pc + 3) la [.ref T.heap.size])) U
    jvm_step X₁.here [X₁.here.top, C.1, C.2.1, d1, Value.category]
    exact X₁.ldcString C.1 (own := "DagLedger") (text := tx) (index := sx) (a := sa) hown hZ.1 hZ.2 (g := F0 m (pc + 4) la [.ref T.heap.size, .ref T.heap.size]) rfl (by rw [C.2.1]; exact d2) _ hsteps
  · have z := hP k q hq
    have e9 : U.heap[q.1]? = H[q.1]? := by
      refine hk q.1 ?_
      obtain ⟨q1, e1⟩ := q
      cases e1 with
      | inl a => exact (Array.getElem?_eq_some_iff.mp z).1
      | inr o => obtain ⟨r, -, cell', g1, -⟩ := z; exact (Array.getElem?_eq_some_iff.mp g1).1
    obtain ⟨q1, e1⟩ := q
    cases e1 with
    | inl a => show U.heap[q1]? = _; rw [e9]; exact z
    | inr o => obtain ⟨r, h1, h2⟩ := z; exact ⟨r, h1, h2.kept e9⟩
  · have w := hW
    rw [← hs'] at w
    exact w
  · exact hback (by rw [← hvm]; exact hsame)
end
