/-! catching -/
/-- what the search through the table gives, and the tables behind it -/
def ct_Fd (e : Env) (s : State) (f : JFrame) (a : Addr) (h : Handler) (vm' : Vm) : Prop := ∀ (Q : Handler → Pre) (E : CtlPost) (d : Bool) (acts : List Action), wp (findHandler f a) Q E e d acts s ↔ Q h d acts (s.setVm vm')
theorem ct_goX {E : CtlPost} {e : Env} {d : Bool} {acts : List Action} {s : State} {f : JFrame} {a : Addr} {Q : Handler → Pre} {x : ExceptionTableEntry} {t : List ExceptionTableEntry} {c : ClassId} {cell : Cell} {vm' : Vm} (hx : covers x f.pc = true) (h0 : x.catchType ≠ 0)
    (hg : (Jvm.resolveClass f.method.cls x.catchType).Gives e.toSetting s.vm (.ok c) vm') (hsz : vm'.classes.size ≤ s.vm.classes.size) (hcell : s.heap[a]? = some cell) (hobj : ∀ k, cell.vm ≠ .statics k) (hk : ∃ k, vm'.classes[cell.cls]? = some k) (hc : ∃ k, vm'.classes[c]? = some k) :
    wp (findHandler.go f a (x :: t)) Q E e d acts s ↔ if vm'.assignable cell.cls c = true then Q (.found x.handlerPc) d acts (s.setVm vm') else wp (findHandler.go f a t) Q E e d acts (s.setVm vm') := by
  simp only [covers] at hx
  obtain ⟨ha, ht⟩ := hg.op (op := VmOp.resolveClass f.method.cls x.catchType) rfl
  cases hfit : vm'.assignable cell.cls c <;> simp [findHandler.go, hx, h0, ha, ht, hsz, hcell, hobj, hk, hc, hfit, VmOp.dirties, VmOp.acts]
theorem ct_stepX {e : Env} {s : State} {a : Addr} {f : JFrame} {r : List Frame} {pc : Nat} {vm' : Vm} (hfind : ct_Fd e s f a (.found pc) vm') :
    (stepThrowing e s a (.java f :: r)).Is ((s.setVm vm').setFrames (.java { f with pc := pc, stack := [.ref a] } :: r)) [] := by
  simp only [stepThrowing, searchFrame, vmDo]
  generalize hr : Sem.go _ e false [] s = res
  obtain ⟨as, rfl, ha⟩ := Sem.eq_ok_of hr (a := Handler.found pc) (s' := s.setVm vm') (acts' := []) (by simp [hfind _ _ _ _])
  exact ⟨rfl, ha⟩
theorem ct_caught {tb : Tables} {e : Env} {s target : State} {g : JFrame} {c : Code} {below : List Frame} {a : Addr} (h : At s g.method c below) {pc : Nat} {vm' : Vm} (hfind : ct_Fd e ((s.setTop g).pushFrame (.throwing a)) g a (.found pc) vm')
    (hrest : Steps tb e below ((s.setVm vm').setTop { g with pc := pc, stack := [.ref a] }) target) : Steps tb e below ((s.setTop g).pushFrame (.throwing a)) target := by
  obtain ⟨hgo, hw⟩ := h.throwing a
  refine Steps.head hgo hw ?_
  rw [stepThread_throwing (frames_entered h.top _), (ct_stepX (s := (s.setTop g).pushFrame (.throwing a)) hfind).1]
  obtain ⟨g₀, hg⟩ := Option.isSome_iff_exists.mp h.top
  obtain ⟨r, hr⟩ := State.topJava?_eq_some.mp hg
  have hr' : (s.setVm vm').frames = .java g₀ :: r := hr
  rw [State.setTop_of_frames _ hr'] at hrest
  have e1 : (((s.setTop g).pushFrame (.throwing a)).setVm vm').setFrames (.java { g with pc := pc, stack := [.ref a] } :: s.frames.tail) = (s.setVm vm').setFrames (.java { g with pc := pc, stack := [.ref a] } :: r) := by
    rw [State.pushFrame, State.setTop_of_frames _ hr, State.setFrames_setFrames, hr]
    show ((s.setFrames _).setVm vm').setFrames _ = _
    have e2 : ∀ fs, (s.setFrames fs).setVm vm' = (s.setVm vm').setFrames fs := fun _ => rfl
    rw [e2, State.setFrames_setFrames]
    rfl
  rw [e1]
  exact hrest
theorem ct_k13 : Cond.classLink "DagLedgerLaw" 13 ct_IO ∈ wd_tb := ct_w (by decide +kernel) (by decide +kernel)
theorem ct_k15 : Cond.classLink "DagLedgerLaw" 15 ct_IS ∈ wd_tb := ct_w (by decide +kernel) (by decide +kernel)
section
variable {p : Program} {l : Launch} {e : Env} {R : Room} {s : State} {m : MethodId} {args : Array Value} {below : List Frame} {meth : Method} {c : Code} {A : Nat → Prop} {g : wd_G} {cells slots : Nat} {cc : ByteArray} {nL pc : Nat} {ret : Option FieldType} {ls : List (Option Value)} {st : List Value} {S0 : State} {G : State → Prop}
theorem ct_Ent {T : State} {locs : List Loc} {ix : Nat} {cls : String} (Xs : Stand p l e R s m args below meth c T locs cells slots) (hown : s.vm.findClass "DagLedgerLaw" = some m.cls) (hw : (Cond.classLink "DagLedgerLaw" ix cls).before args s = true) :
    ∃ (cI : ClassId) (vm' : Vm), s.vm.findClass cls = some cI ∧ (Jvm.resolveClass m.cls ix).Gives e.toSetting T.vm (.ok cI) vm' ∧ vm'.classes.size ≤ T.vm.classes.size ∧ Stand p l e R s m args below meth c (T.setVm vm') locs cells slots := by
  have hpl : e.platform.magicAccessors = ({} : Platform).magicAccessors := by rw [Xs.admits.platform]
  obtain ⟨cI, hfI, hlk⟩ := Cond.classLink_spec hown hw e.platform hpl
  obtain ⟨h1, h2, -⟩ := State.classEntry (e := e) Xs.warmed hlk
  exact ⟨cI, _, hfI, h1, by rw [h2.2.1, Xs.warmed.2.1]; exact Nat.le_refl _, Xs.noted h2⟩
theorem ct_ent_at {s : State} {vm' : Vm} {cls : String} {k : ClassId} (hW : s.WarmedH vm') (h : s.vm.findClass cls = some k) : ∃ z, vm'.classes[k]? = some z := Vm.classAt_of_findClass (name := cls) (by rw [hW.alike.findClass]; exact h)
/-- an index out of bounds, caught by the table's first row -/
theorem ct_catch1 (C : cw_C p s m args meth c A wd_all g cc nL "DagLedgerLaw" ret) (D : ct_C l S0 s A g) {y : MethodName} {cc' : ByteArray} {nL' n idx d ci N q : Nat} {ret' : Option FieldType} {fl : List (Nat × Nat)} {Tt : u_T} {ty0 : Nat → FieldType} {As stk : List Value} {X : wx_S} {b1 hpc : Nat} {rs : List (Nat × Nat × Nat × Nat)} (hx : c.exceptionTable.toList.map (fun h => (h.startPc, h.endPc, h.handlerPc, h.catchType)) = (0, b1, hpc, 13) :: rs) (hb : pc < b1) (K : cw_kV "DagLedgerLaw" idx y cc' nL' ret' n) (hc : wd_cls ci y.cls Tt N ty0) (hi : wd_is wd_all q (4, ci, fl))
    (hd : decode cc pc = .ok (.invokevirtual idx, 3)) (hs : stk = As.reverse ++ .ref q :: st) (hn : As.length = n) (hw : ((st.map (cw_v g.1)).map fun v => v.category).sum ≤ 8) (hR : d + 1 ≤ R.frames ∧ 8 + (nL' + 11) + 40 * d ≤ R.locals) (hf : cells + 1 ≤ R.cells ∧ slots + 6 ≤ R.slots)
    (hM : ct_M y cc' nL' ret' d (.ref q :: As) X ct_IO) (kk : ∀ x, cw_W p l e R s m args below meth c A wd_all g (cells + 1) (slots + 6) G nL hpc ls [.retAddr x] (wx_e X) (wx_l X)) : cw_W p l e R s m args below meth c A wd_all g cells slots G nL pc ls stk (wx_e X) (wx_l X) := by
  intro H locs la hl hP hS T hT Xs
  obtain ⟨x, T', L, X', hS', hP', ⟨ce, o1, o2, o3⟩, stp⟩ := ct_go C D K hc hi hd hs hn hw hR hf hM hl.1 hP hS hT Xs
  obtain ⟨cI, vm₁, hfI, hg₁, hz, X₂⟩ := ct_Ent X' C.2.2.2.1 (cw_hts C _ ct_k13)
  cases ht : c.exceptionTable.toList with
  | nil => rw [ht] at hx; cases hx
  | cons r0 rs0 =>
    rw [ht, List.map_cons] at hx
    have h1 := (List.cons.inj hx).1
    simp only [Prod.mk.injEq] at h1
    obtain ⟨j1, j2, j3, j4⟩ := h1
    have hW₂ : s.WarmedH vm₁ := X₂.warmed
    have hfind : ct_Fd e ((T'.setTop (F0 m pc la (st.map (cw_v g.1)))).pushFrame (.throwing x)) (F0 m pc la (st.map (cw_v g.1))) x (.found hpc) vm₁ := by
      intro Q E d acts
      rw [W.findHandler_eq (meth := meth) (code := c) (by rw [throwing_vm]; exact X'.method') X'.code, ht, ct_goX (c := cI) (cell := ce) (vm' := vm₁) (by simp [covers, j1, j2, hb]) (by rw [j4]; decide) (by rw [throwing_vm, j4]; exact hg₁) (by rw [throwing_vm]; exact hz) (by rw [throwing_heap]; exact o1) (VmData.ne_statics_of o2) (ct_ent_at hW₂ o3) (ct_ent_at hW₂ hfI)]
      have e1 : ce.cls = cI := Option.some.inj (o3.symm.trans hfI)
      rw [e1, if_pos (va_asg _ _), j3]
    obtain ⟨t, s1, q1⟩ := kk x T'.heap (locs ++ L) la hl hP' hS' (T'.setVm vm₁) rfl X₂
    exact ⟨t, stp.trans (ct_caught X'.here hfind s1), q1⟩
/-- an illegal state, passed by the first row, caught by the second -/
theorem ct_catch2 (C : cw_C p s m args meth c A wd_all g cc nL "DagLedgerLaw" ret) (D : ct_C l S0 s A g) {y : MethodName} {cc' : ByteArray} {nL' n idx d ci N q : Nat} {ret' : Option FieldType} {fl : List (Nat × Nat)} {Tt : u_T} {ty0 : Nat → FieldType} {As stk : List Value} {X : wx_S} {b1 b2 hp1 hpc : Nat} {rs : List (Nat × Nat × Nat × Nat)} (hx : c.exceptionTable.toList.map (fun h => (h.startPc, h.endPc, h.handlerPc, h.catchType)) = (0, b1, hp1, 13) :: (0, b2, hpc, 15) :: rs) (hb : pc < b1) (hb2 : pc < b2) (K : cw_kV "DagLedgerLaw" idx y cc' nL' ret' n) (hc : wd_cls ci y.cls Tt N ty0) (hi : wd_is wd_all q (4, ci, fl))
    (hd : decode cc pc = .ok (.invokevirtual idx, 3)) (hs : stk = As.reverse ++ .ref q :: st) (hn : As.length = n) (hw : ((st.map (cw_v g.1)).map fun v => v.category).sum ≤ 8) (hR : d + 1 ≤ R.frames ∧ 8 + (nL' + 11) + 40 * d ≤ R.locals) (hf : cells + 1 ≤ R.cells ∧ slots + 6 ≤ R.slots)
    (hM : ct_M y cc' nL' ret' d (.ref q :: As) X ct_IS) (kk : ∀ x, cw_W p l e R s m args below meth c A wd_all g (cells + 1) (slots + 6) G nL hpc ls [.retAddr x] (wx_e X) (wx_l X)) : cw_W p l e R s m args below meth c A wd_all g cells slots G nL pc ls stk (wx_e X) (wx_l X) := by
  intro H locs la hl hP hS T hT Xs
  obtain ⟨x, T', L, X', hS', hP', ⟨ce, o1, o2, o3⟩, stp⟩ := ct_go C D K hc hi hd hs hn hw hR hf hM hl.1 hP hS hT Xs
  obtain ⟨cI, vm₁, hfI, hg₁, hz, X₂⟩ := ct_Ent X' C.2.2.2.1 (cw_hts C _ ct_k13)
  obtain ⟨cJ, vm₂, hfJ, hg₂, hz2, X₃⟩ := ct_Ent X₂ C.2.2.2.1 (cw_hts C _ ct_k15)
  obtain ⟨a0, -, -, hno⟩ := D.2.1
  have hno' : s.vm.assignable ce.cls cI = false := by
    have hW0 := D.2.2.1.1
    have f1 : S0.vm.findClass ct_IS = some ce.cls := by rw [← hW0.alike.findClass]; exact o3
    have f2 : S0.vm.findClass ct_IO = some cI := by rw [← hW0.alike.findClass]; exact hfI
    simp only [Cond.before, Cond.holds, Cond.value, f1, f2] at hno
    have z : S0.vm.assignable ce.cls cI = false := by
      cases hb : S0.vm.assignable ce.cls cI with
      | false => rfl
      | true => simp [hb] at hno
    rw [hW0.alike.assignable]
    exact z
  cases ht : c.exceptionTable.toList with
  | nil => rw [ht] at hx; cases hx
  | cons r0 rs0 =>
    rw [ht, List.map_cons] at hx
    have h1 := (List.cons.inj hx).1
    have h2 := (List.cons.inj hx).2
    cases rs0 with
    | nil => cases h2
    | cons r1 rs1 =>
      rw [List.map_cons] at h2
      have h2 := (List.cons.inj h2).1
      simp only [Prod.mk.injEq] at h1 h2
      obtain ⟨j1, j2, j3, j4⟩ := h1
      obtain ⟨i1, i2, i3, i4⟩ := h2
      have hW₂ : s.WarmedH vm₁ := X₂.warmed
      have hW₃ : s.WarmedH vm₂ := X₃.warmed
      have hfind : ct_Fd e ((T'.setTop (F0 m pc la (st.map (cw_v g.1)))).pushFrame (.throwing x)) (F0 m pc la (st.map (cw_v g.1))) x (.found hpc) vm₂ := by
        intro Q E d acts
        rw [W.findHandler_eq (meth := meth) (code := c) (by rw [throwing_vm]; exact X'.method') X'.code, ht, ct_goX (c := cI) (cell := ce) (vm' := vm₁) (by simp [covers, j1, j2, hb]) (by rw [j4]; decide) (by rw [throwing_vm, j4]; exact hg₁) (by rw [throwing_vm]; exact hz) (by rw [throwing_heap]; exact o1) (VmData.ne_statics_of o2) (ct_ent_at hW₂ o3) (ct_ent_at hW₂ hfI)]
        rw [if_neg (by rw [hW₂.alike.assignable, hno']; decide)]
        refine (ct_goX (s := ((T'.setTop (F0 m pc la (st.map (cw_v g.1)))).pushFrame (.throwing x)).setVm vm₁) (c := cJ) (cell := ce) (vm' := vm₂) (by simp [covers, i1, i2, hb2]) (by rw [i4]; decide) (by rw [i4]; exact hg₂) hz2 (by show ((T'.setTop (F0 m pc la (st.map (cw_v g.1)))).pushFrame (.throwing x)).heap[x]? = _; rw [throwing_heap]; exact o1) (VmData.ne_statics_of o2) (ct_ent_at hW₃ o3) (ct_ent_at hW₃ hfJ)).trans ?_
        have e1 : ce.cls = cJ := Option.some.inj (o3.symm.trans hfJ)
        rw [e1, if_pos (va_asg _ _), i3]
        rfl
      obtain ⟨t, s1, q1⟩ := kk x T'.heap (locs ++ L) la hl hP' hS' ((T'.setVm vm₁).setVm vm₂) rfl X₃
      exact ⟨t, stp.trans (ct_caught X'.here hfind s1), q1⟩
end
