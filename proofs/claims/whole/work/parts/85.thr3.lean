/-! throwing methods in the clean layer -/
def ct_C (l : Launch) (S0 s : State) (A : Nat → Prop) (g : wd_G) : Prop := l.flags = flags0 ∧ (∃ a0, ct_0 S0 a0) ∧ ct_St S0 s ∧ (∀ q, A q → S0.heap.size ≤ q) ∧ (∀ c ∈ wd_all, S0.heap.size ≤ g.1 c) ∧ ∀ (q : Nat) (cell : Cell), A q → s.heap[q]? = some cell → cell.vm.isStatics = false
/-- an object of that class -/
def ct_Ob (cls : String) (st : State) (x : Addr) (H : Heap) : Prop := ∃ ce : Cell, H[x]? = some ce ∧ ce.vm.isStatics = false ∧ st.vm.findClass cls = some ce.cls
def ct_B (g : wd_G) (sz : Nat) (X : wx_S) (S0 : State) (U : State) : Prop := cw_B wd_all g sz (wx_e X) (wx_l X) U ∧ ct_St S0 U
def ct_Q (g : wd_G) (A : Nat → Prop) (X : wx_S) (cls : String) : Array Value → State → Addr → State → Prop := fun _ st x t => ct_Ob cls st x t.heap ∧ va_P g.2.1 wd_cl (wd_w wd_all g (wx_e X) (wx_l X)) t.heap ∧ va_F A st t
/-- with these arguments, in this world, the method throws an object of class cls, and the world is as it was -/
def ct_M (y : MethodName) (cc : ByteArray) (nL : Nat) (ret : Option FieldType) (d : Nat) (av : List Value) (X : wx_S) (cls : String) : Prop :=
  ∀ (l : Launch) (g : wd_G) (sz : Nat) (S0 : State), l.flags = flags0 → (∃ a0, ct_0 S0 a0) → (∀ c ∈ wd_all, S0.heap.size ≤ g.1 c) →
    ct_Met l y (Cond.code y cc nL ret :: wd_tb) (cw_rm d 1 6) (va_Pc (av.map (cw_v g.1)) (ct_B g sz X S0)) (ct_Q g (va_A (wd_w wd_all g (wx_e X) (wx_l X)) sz) X cls) 1 6 (va_A (wd_w wd_all g (wx_e X) (wx_l X)) sz)
theorem ct_St.calling {S0 U : State} (h : ct_St S0 U) (f : JFrame) (mk : MethodId) (a : Array Value) : ct_St S0 (U.calling f mk a) := h
theorem ct_blind {av : List Value} {g : wd_G} {sz : Nat} {X : wx_S} {S0 : State} : FrameBlind (va_Pc av (ct_B g sz X S0)) := fun a U f mk q => by
  have h := cw_blind (av := av) (g := g) (sz := sz) (ids := wd_all) (σ := wx_e X) (τ := wx_l X) a U f mk ⟨q.1, q.2.1⟩
  exact ⟨h.1, h.2, q.2.2.calling f mk a⟩
theorem ct_St.at {l : Launch} {S0 s U : State} {A : Nat → Prop} {g : wd_G} {H : Heap} {locs : List Loc} (D : ct_C l S0 s A g) (hS : va_S A s.heap H locs) (hU : U.heap = H) (hW : s.WarmedH U.vm) : ct_St S0 U := by
  obtain ⟨-, -, ⟨w1, w2, w3⟩, hA, -⟩ := D
  refine ⟨State.WarmedH.trans w1 hW, by rw [hU]; exact Nat.le_trans w2 hS.1, fun q hq => ?_⟩
  rw [hU, hS.2.1 q (Nat.lt_of_lt_of_le hq w2) (fun z => by have := hA q z; omega), w3 q hq]
theorem ct_M.of {y : MethodName} {cc : ByteArray} {nL : Nat} {ret : Option FieldType} {d : Nat} {av : List Value} {X : wx_S} {cls : String} (hy : plainName y.cls = true) (hcat : av.all cw_c1 = true) (hlen : av.length ≤ nL)
    (h : ∀ (p : Program) (l : Launch) (e : Env) (s : State) (m : MethodId) (args : Array Value) (below : List Frame) (meth : Method) (c : Code) (A : Nat → Prop) (g : wd_G) (S0 : State), cw_C p s m args meth c A wd_all g cc nL y.cls ret → c.exceptionTable.isEmpty = true → ct_C l S0 s A g →
      cw_W p l e (cw_rm d 1 6) s m args below meth c A wd_all g 0 0 (ct_MQ below (ct_Q g A X cls) args s 1 6 A) nL 0 (cw_in av nL) [] (wx_e X) (wx_l X)) : ct_M y cc nL ret d av X cls := by
  intro l g sz S0 hf h0 hg
  refine ct_ofW (cc := cc) (maxL := nL) (ret := ret) hy rfl ?_
  intro p e s m args below meth c s₁ B hml hx hv
  obtain ⟨rfl, ⟨hsz, hP, hK, hD0, hN, hnd⟩, hSt⟩ := hv
  have hts := atoms_spec (ws := Cond.code y cc nL ret :: wd_tb) B.pre
  have hown : s.vm.findClass y.cls = some m.cls := findClass_of_methodNamed B.named
  subst hsz
  have hD := hD0.self (sz := s.heap.size)
  rw [lg_entry_eq]
  have key : ∀ (q : Nat) (e : va_E) (k : Nat), (wd_w wd_all g (wx_e X) (wx_l X))[k]? = some (q, e) → S0.heap.size ≤ q ∧ ∀ cell, s.heap[q]? = some cell → cell.vm.isStatics = false := by
    intro q e k hk
    refine ⟨?_, fun cell hcell => ?_⟩
    · obtain ⟨c', hc', he'⟩ := List.mem_map.mp (List.mem_of_getElem? hk)
      cases he'
      exact hg c' hc'
    · have z := hP k _ hk
      cases e with
      | inl a =>
        have z : s.heap[q]? = some (vp_cell a.1 a.2) := z
        cases z.symm.trans hcell
        rcases a with ⟨c0, n0, a1 | a1 | a1 | a1 | a1⟩ <;> rfl
      | inr o =>
        obtain ⟨r, -, cell', g1, -, g3, -⟩ := z
        cases g1.symm.trans hcell
        rw [g3]; rfl
  refine h p l e s m _ below meth c (va_A (wd_w wd_all g (wx_e X) (wx_l X)) s.heap.size) g S0 ⟨B.exec, B.bytes, hml, hown, fun w hw => hts w (List.mem_cons_of_mem _ hw), hN, hK, fun σ' τ' => wd_D hD, fun q hq => Or.inr hq, B.returns, B.notSynchronized, hnd⟩ hx ⟨hf, h0, hSt, fun q hq => ?_, hg, fun q cell hq hcell => ?_⟩ s.heap [] _ (cw_lh_in (fun w hw => cw_c1_cat (List.all_eq_true.mp hcat w hw) g.1) hlen) hP va_S.rf
  · rcases hq with ⟨k, e', hk⟩ | hq
    · exact (key q e' k hk).1
    · exact Nat.le_trans hSt.2.1 hq
  · rcases hq with ⟨k, e', hk⟩ | hq
    · exact (key q e' k hk).2 cell hcell
    · exact absurd (Array.getElem?_eq_some_iff.mp hcell).1 (by omega)
section
variable {p : Program} {l : Launch} {e : Env} {R : Room} {s : State} {m : MethodId} {args : Array Value} {below : List Frame} {meth : Method} {c : Code} {A : Nat → Prop} {g : wd_G} {cells slots : Nat} {cc : ByteArray} {nL pc : Nat} {own : String} {ret : Option FieldType} {ls : List (Option Value)} {st : List Value} {S0 : State}
/-- a call that throws, up to the note over the caller's frame -/
theorem ct_go (C : cw_C p s m args meth c A wd_all g cc nL own ret) (D : ct_C l S0 s A g) {y : MethodName} {cc' : ByteArray} {nL' n idx d ci N q : Nat} {ret' : Option FieldType} {fl : List (Nat × Nat)} {Tt : u_T} {ty0 : Nat → FieldType} {As stk : List Value} {X : wx_S} {cls : String} (K : cw_kV own idx y cc' nL' ret' n) (hc : wd_cls ci y.cls Tt N ty0) (hi : wd_is wd_all q (4, ci, fl))
    (hd : decode cc pc = .ok (.invokevirtual idx, 3)) (hs : stk = As.reverse ++ .ref q :: st) (hn : As.length = n) (hw : ((st.map (cw_v g.1)).map fun v => v.category).sum ≤ 8) (hR : d + 1 ≤ R.frames ∧ 8 + (nL' + 11) + 40 * d ≤ R.locals) (hf : cells + 1 ≤ R.cells ∧ slots + 6 ≤ R.slots)
    (hM : ct_M y cc' nL' ret' d (.ref q :: As) X cls) {H : Heap} {locs : List Loc} {la : Array Slot} (hla : la.size = nL) (hP : va_P g.2.1 wd_cl (wd_w wd_all g (wx_e X) (wx_l X)) H) (hS : va_S A s.heap H locs) {T : State} (hT : T.heap = H) (Xs : Stand p l e R s m args below meth c T locs cells slots) :
    ∃ (x : Addr) (T' : State) (L : List Loc), Stand p l e R s m args below meth c T' (locs ++ L) (cells + 1) (slots + 6) ∧ va_S A s.heap T'.heap (locs ++ L) ∧ va_P g.2.1 wd_cl (wd_w wd_all g (wx_e X) (wx_l X)) T'.heap ∧ ct_Ob cls s x T'.heap ∧
      Steps p.tables e below (T.setTop (F0 m pc la (stk.map (cw_v g.1)))) ((T'.setTop (F0 m pc la (st.map (cw_v g.1)))).pushFrame (.throwing x)) := by
  have hts := cw_hts C
  obtain ⟨i, hids⟩ := List.getElem?_of_mem hi.1
  have he := wd_at (ids := wd_all) (g := g) (σ := wx_e X) (τ := wx_l X) hids
  rw [wd_ce_o hi.2] at he
  obtain ⟨cell, hr1, hr2, hr3⟩ := va_recv (cw_hK C) hP hc.1 he
  obtain ⟨mk, methM, hnamed, hmethM, hstM, habM⟩ := Cond.instanceMethod_spec (hts _ K.2.1)
  obtain ⟨methM', cM, hmethM', hcM, -, hlM, -, -, -, hsigM⟩ := Cond.code_spec hnamed (hts _ K.2.2.2.2.1)
  cases hmethM.symm.trans hmethM'
  obtain ⟨c2, r2, m2, q1, q2, q3, q4, kP, hkP, hkPi⟩ := Cond.selects_spec (hts _ K.2.2.1)
  have hy : y.cls ≠ "java/lang/invoke/MethodHandle" ∧ y.cls ≠ "java/lang/invoke/VarHandle" := ⟨K.2.2.2.2.2.1, K.2.2.2.2.2.2.1⟩
  have hcl : s.vm.findClass y.cls = some cell.cls := hr3
  cases hcl.symm.trans q1
  cases (State.methodFound?_of_named hnamed hy).symm.trans q2
  cases hnamed.symm.trans q3
  have hselP : selectMethod e.platform s.vm cell.cls mk = .method mk := by rw [Launch.admits_selectMethod Xs.admits]; exact q4
  have hlen : (As.map (cw_v g.1)).length = methM.sig.parameters.length := by
    have z := K.2.2.2.2.2.2.2
    rw [hsigM] at z
    have z : methM.sig.parameters.length = n := by simpa using z
    rw [List.length_map, hn, z]
  obtain ⟨vm₁, X₁, go⟩ := Xs.invokevirtual C.1 C.2.2.2.1 (hts _ K.1) hnamed hmethM hstM hkP hkPi hy (a := g.1 q) (cell := cell) (by rw [hT]; exact hr1) (fun z h => by rw [h] at hr2; cases hr2) hselP hmethM habM hkP hkPi (g := F0 m pc la (stk.map (cw_v g.1))) rfl (argsL := As.map (cw_v g.1)) (rest := st.map (cw_v g.1)) hlen (by rw [hs]; simp [cw_v]) (by rw [C.2.1]; exact hd)
  have hnT := X₁.named hnamed
  obtain ⟨kY, hkY, -⟩ := className_of_methodNamed hnT
  have hini : (Cond.initialized y.cls).before args (T.setVm vm₁) = true := word_at X₁.warmed (wd_good _ K.2.2.2.1) (hts _ K.2.2.2.1)
  have hW : s.WarmedH (T.setVm vm₁).vm := X₁.warmed
  have hpre := cw_pre C hP (.ref q :: As) (T.setVm vm₁) hT hW
  obtain ⟨x, t, T', L, X', hL, e1, e2, hq, stp⟩ := ct_in (g := F0 m pc la (st.map (cw_v g.1))) (ig := .invokevirtual idx) (len := 3) (a := ((.ref q :: As).map (cw_v g.1)).toArray) X₁ (hM l g H.size S0 D.1 D.2.1 D.2.2.2.2.1) hnT (by rw [hW.alike.method?]; exact hmethM) hcM hkY (Cond.initialized_spec (findClass_of_methodNamed hnT) hkY hini)
    (fun w hw => by
      rcases List.mem_cons.mp hw with rfl | hw
      · exact word_at hW (wd_good _ K.2.2.2.2.1) (hts _ K.2.2.2.2.1)
      · exact word_at hW (wd_good _ hw) (hts _ hw))
    (ct_blind _ _ _ _ ⟨hpre.1, hpre.2, ct_St.at D hS hT hW⟩) (by rw [C.2.2.1]; exact hla) (by rw [C.2.1]; exact hd) hR.1 (by rw [hlM]; have z := lv_room (m := m) (pc := pc) (ls := la) (rest := st.map (cw_v g.1)) hw; have z2 := hR.2; simp only [cw_rm]; omega) hf.1 hf.2
  obtain ⟨ob, hP1, hz, hk⟩ := hq
  have hF : ∀ z, va_A (wd_w wd_all g (wx_e X) (wx_l X)) H.size z → A z := fun z h => by
    rcases h with ⟨k, x, h⟩ | h
    · exact (cw_hD C _ _).2 k _ h
    · exact cw_hA C z (Nat.le_trans hS.1 h)
  have hz : H.size ≤ t.heap.size := by rw [← hT]; exact hz
  have hk : ∀ z, z < H.size → ¬ va_A (wd_w wd_all g (wx_e X) (wx_l X)) H.size z → t.heap[z]? = H[z]? := fun z h1 h2 => by
    have := hk z (by show z < T.heap.size; rw [hT]; exact h1) h2
    rw [this]; show T.heap[z]? = _; rw [hT]
  refine ⟨x, T', L, X', ⟨by rw [e1]; exact Nat.le_trans hS.1 hz, fun z h1 h2 => ?_, fun z hz => ?_⟩, by rw [e1]; exact hP1, ?_, go _ fun acts => by rw [doInvoke_state]; exact stp⟩
  · rw [e1, hk z (Nat.lt_of_lt_of_le h1 hS.1) (fun w => h2 (hF z w))]
    exact hS.2.1 z h1 h2
  · rcases List.mem_append.mp hz with h | h
    · exact hS.2.2 z h
    · exact hF _ (hL z h)
  · obtain ⟨ce, o1, o2, o3⟩ := ob
    refine ⟨ce, by rw [e1]; exact o1, o2, ?_⟩
    have o3 : vm₁.findClass cls = some ce.cls := o3
    rw [← hW.alike.findClass]
    exact o3
end
