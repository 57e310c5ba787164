/-! the law's twelve wrappers: methods with a table of handlers -/
def ct_V (y : MethodName) (cc : ByteArray) (nL : Nat) (hh : List (Nat × Nat × Nat × Nat)) (d mc ms : Nat) (av : List Value) (X : wx_S) (Q : Option Value → wx_S → Prop) : Prop :=
  ∀ (l : Launch) (g : wd_G) (sz : Nat) (S0 : State), l.flags = flags0 → (∃ a0, ct_0 S0 a0) → (∀ c ∈ wd_all, S0.heap.size ≤ g.1 c) →
    Met l y (Cond.codeWith y cc nL (some .int) hh :: wd_tb) (cw_rm d mc ms) (va_Pc (av.map (cw_v g.1)) (ct_B g sz X S0)) (cw_Q wd_all g (va_A (wd_w wd_all g (wx_e X) (wx_l X)) sz) (fun v σ' τ' => ∃ X' : wx_S, σ' = wx_e X' ∧ τ' = wx_l X' ∧ Q v X')) mc ms (va_A (wd_w wd_all g (wx_e X) (wx_l X)) sz)
theorem ct_V.of {y : MethodName} {cc : ByteArray} {nL : Nat} {hh : List (Nat × Nat × Nat × Nat)} {d mc ms : Nat} {av : List Value} {X : wx_S} {Q : Option Value → wx_S → Prop} (ls : List (Option Value)) (hy : plainName y.cls = true) (hcat : av.all cw_c1 = true) (hlen : av.length ≤ nL) (hls : cw_in av nL = ls)
    (h : ∀ (p : Program) (l : Launch) (e : Env) (s : State) (m : MethodId) (args : Array Value) (below : List Frame) (meth : Method) (c : Code) (A : Nat → Prop) (g : wd_G) (S0 : State), cw_C p s m args meth c A wd_all g cc nL y.cls (some .int) → c.exceptionTable.toList.map (fun h => (h.startPc, h.endPc, h.handlerPc, h.catchType)) = hh → ct_C l S0 s A g →
      cw_W p l e (cw_rm d mc ms) s m args below meth c A wd_all g 0 0 (cw_G below args s A wd_all g mc ms (fun v σ' τ' => ∃ X' : wx_S, σ' = wx_e X' ∧ τ' = wx_l X' ∧ Q v X')) nL 0 ls [] (wx_e X) (wx_l X)) : ct_V y cc nL hh d mc ms av X Q := by
  subst hls
  intro l g sz S0 hf h0 hg
  refine va_MetW (cc := cc) (maxL := nL) (ret := some .int) (hh := hh) hy rfl ?_
  intro p e s m args below meth c s₁ B hml hv
  obtain ⟨rfl, ⟨hsz, hP, hK, hD0, hN, hnd⟩, hSt⟩ := hv
  have hts := atoms_spec (ws := Cond.codeWith y cc nL (some .int) hh :: wd_tb) B.pre
  have hown : s.vm.findClass y.cls = some m.cls := findClass_of_methodNamed B.named
  subst hsz
  have hD := hD0.self (sz := s.heap.size)
  have hx : c.exceptionTable.toList.map (fun h => (h.startPc, h.endPc, h.handlerPc, h.catchType)) = hh := by
    obtain ⟨m9, meth9, c9, hn9, h1, h2, -, -, h3, -⟩ := Cond.codeWith_spec (hts _ List.mem_cons_self)
    cases hn9.symm.trans B.named
    cases h1.symm.trans B.method
    cases h2.symm.trans (Stand.of_body B).code
    exact h3
  rw [lg_entry_eq]
  have key : ∀ (q : Nat) (e : va_E) (k : Nat), (wd_w wd_all g (wx_e X) (wx_l X))[k]? = some (q, e) → S0.heap.size ≤ q ∧ ∀ cell, s.heap[q]? = some cell → cell.vm.isStatics = false := by
    intro q e k hk
    refine ⟨?_, fun cell hcell => ?_⟩
    · obtain ⟨c', hc', he'⟩ := List.mem_map.mp (List.mem_of_getElem? hk)
      cases he'
      exact hg c' hc'
    · have z := hP k _ hk
      cases e with
      | inl a =>
        have z : s.heap[q]? = some (vp_cell a.1 a.2) := z
        cases z.symm.trans hcell
        rcases a with ⟨c0, n0, a1 | a1 | a1 | a1 | a1⟩ <;> rfl
      | inr o =>
        obtain ⟨r, -, cell', g1, -, g3, -⟩ := z
        cases g1.symm.trans hcell
        rw [g3]; rfl
  refine h p l e s m _ below meth c (va_A (wd_w wd_all g (wx_e X) (wx_l X)) s.heap.size) g S0 ⟨B.exec, B.bytes, hml, hown, fun w hw => hts w (List.mem_cons_of_mem _ hw), hN, hK, fun σ' τ' => wd_D hD, fun q hq => Or.inr hq, B.returns, B.notSynchronized, hnd⟩ hx ⟨hf, h0, hSt, fun q hq => ?_, hg, fun q cell hq hcell => ?_⟩ s.heap [] _ (cw_lh_in (fun w hw => cw_c1_cat (List.all_eq_true.mp hcat w hw) g.1) hlen) hP va_S.rf
  · rcases hq with ⟨k, e', hk⟩ | hq
    · exact (key q e' k hk).1
    · exact Nat.le_trans hSt.2.1 hq
  · rcases hq with ⟨k, e', hk⟩ | hq
    · exact (key q e' k hk).2 cell hcell
    · exact absurd (Array.getElem?_eq_some_iff.mp hcell).1 (by omega)
def ct_kS (own : String) (idx : Nat) (y : MethodName) (cc : ByteArray) (nL : Nat) (hh : List (Nat × Nat × Nat × Nat)) (n : Nat) : Prop := Cond.methodLink own idx y ∈ wd_tb ∧ Cond.static y ∈ wd_tb ∧ Cond.initialized y.cls ∈ wd_tb ∧ Cond.codeWith y cc nL (some .int) hh ∈ wd_tb ∧ (y.cls ≠ "java/lang/invoke/MethodHandle" ∧ y.cls ≠ "java/lang/invoke/VarHandle" ∧ (parseMethodDescriptor y.desc).map (fun d => d.parameters.length) = some n)
section
variable {p : Program} {l : Launch} {e : Env} {R : Room} {s : State} {m : MethodId} {args : Array Value} {below : List Frame} {meth : Method} {c : Code} {A : Nat → Prop} {g : wd_G} {cells slots : Nat} {cc : ByteArray} {nL pc : Nat} {own : String} {ret : Option FieldType} {ls : List (Option Value)} {st : List Value} {S0 : State} {G : State → Prop}
theorem ct_callS (C : cw_C p s m args meth c A wd_all g cc nL own ret) (D : ct_C l S0 s A g) {y : MethodName} {cc' : ByteArray} {nL' n idx d mc ms : Nat} {hh : List (Nat × Nat × Nat × Nat)} {As stk : List Value} {X : wx_S} {Q' : Option Value → wx_S → Prop} (K : ct_kS own idx y cc' nL' hh n)
    (hd : decode cc pc = .ok (.invokestatic idx, 3)) (hs : stk = As.reverse ++ st) (hn : As.length = n) (hw : ((st.map (cw_v g.1)).map fun v => v.category).sum ≤ 8) (hR : d + 1 ≤ R.frames ∧ 8 + (nL' + 11) + 40 * d ≤ R.locals) (hf : cells + mc ≤ R.cells ∧ slots + ms ≤ R.slots)
    (hM : ct_V y cc' nL' hh d mc ms As X Q')
    (kk : ∀ (v : Option Value) (X' : wx_S), Q' v X' → cw_W p l e R s m args below meth c A wd_all g (cells + mc) (slots + ms) G nL (pc + 3) ls (v.toList ++ st) (wx_e X') (wx_l X')) : cw_W p l e R s m args below meth c A wd_all g cells slots G nL pc ls stk (wx_e X) (wx_l X) := by
  intro H locs la hl hP hS
  have hts := cw_hts C
  have hy : y.cls ≠ "java/lang/invoke/MethodHandle" ∧ y.cls ≠ "java/lang/invoke/VarHandle" := ⟨K.2.2.2.2.1, K.2.2.2.2.2.1⟩
  have hK : Back l R p e below s args y 3 8 (PreOf R mc ms (va_Pc (As.map (cw_v g.1)) (ct_B g H.size X S0))) (PostOf (cw_Q wd_all g (va_A (wd_w wd_all g (wx_e X) (wx_l X)) H.size) (fun v σ' τ' => ∃ X' : wx_S, σ' = wx_e X' ∧ τ' = wx_l X' ∧ Q' v X')) mc ms (va_A (wd_w wd_all g (wx_e X) (wx_l X)) H.size)) :=
    va_backW (hh := hh) (bytes := cc') (maxL := nL') (ret := some .int) (hM l g H.size S0 D.1 D.2.1 D.2.2.2.2.1) ct_blind rfl rfl hR.1 hR.2 (fun w hw a' U hW => by
      rcases List.mem_cons.mp hw with rfl | hw
      · exact word_at hW (wd_good _ K.2.2.2.1) (hts _ K.2.2.2.1)
      · exact word_at hW (wd_good _ hw) (hts _ hw)) List.mem_cons_self (fun a' U hW => word_at hW (wd_good _ K.2.2.1) (hts _ K.2.2.1))
  have hrun : va_Run p l e R s m args below meth c H locs cells slots mc ms (F0 m pc la (stk.map (cw_v g.1))) (st.map (cw_v g.1)) (cw_Q wd_all g (va_A (wd_w wd_all g (wx_e X) (wx_l X)) H.size) (fun v σ' τ' => ∃ X' : wx_S, σ' = wx_e X' ∧ τ' = wx_l X' ∧ Q' v X') (As.map (cw_v g.1)).toArray) (va_A (wd_w wd_all g (wx_e X) (wx_l X)) H.size) := by
    intro T hT Xs
    obtain ⟨mk, methM, cM, hnamed, hmethM, -, -, -, -, -, -, hsigM⟩ := Cond.codeWith_spec (hts _ K.2.2.2.1)
    have hstatic : methM.isStatic = true := Cond.static_spec hnamed hmethM (hts _ K.2.1)
    obtain ⟨kP, hkP, -⟩ := className_of_methodNamed hnamed
    have hinitP : kP.init = .initialized := Cond.initialized_spec (findClass_of_methodNamed hnamed) hkP (hts _ K.2.2.1)
    have hlen : (As.map (cw_v g.1)).length = methM.sig.parameters.length := by
      have z := K.2.2.2.2.2.2
      rw [hsigM] at z
      have z : methM.sig.parameters.length = n := by simpa using z
      rw [List.length_map, hn, z]
    obtain ⟨vm₁, X₁, go⟩ := Xs.invokestatic C.1 C.2.2.2.1 (hts _ K.1) hnamed hmethM hstatic hkP hinitP hy (g := F0 m pc la (stk.map (cw_v g.1))) rfl (argsL := As.map (cw_v g.1)) (rest := st.map (cw_v g.1)) hlen (by rw [hs]; simp) (by rw [C.2.1]; exact hd)
    have hW : s.WarmedH (T.setVm vm₁).vm := X₁.warmed
    have hpre := cw_pre C hP As (T.setVm vm₁) hT hW
    obtain ⟨v, ⟨U', l2, c2, s2⟩, X', ⟨g', mk', t, L, e1, e2, hq, h1, hL, h2, h3⟩, stp⟩ := hK m meth c ⟨T.setVm vm₁, locs, cells, slots⟩ (F0 m pc la (st.map (cw_v g.1))) (.invokestatic idx) mk (As.map (cw_v g.1)).toArray X₁ rfl (by rw [C.2.2.1]; exact hl.1) (by rw [C.2.1]; exact hd) (lv_room hw) (X₁.named hnamed) ⟨hf.1, hf.2, hpre.1, hpre.2, ct_St.at D hS hT hW⟩
    dsimp only [Pt.U, Pt.locs, Pt.cells, Pt.slots] at X' e1 e2 h1 h2 h3 stp
    subst h1; subst h2; subst h3
    exact ⟨v, (T.setVm vm₁).calling g' mk' (As.map (cw_v g.1)).toArray, t, U', L, hT, X', hL, e1, e2, hq, fun target h => go _ fun acts => by rw [doInvoke_state]; exact stp.trans h⟩
  refine cw_back C hP hS hrun ?_
  rintro v σ' τ' H1 locs1 ⟨X', rfl, rfl, hq⟩ hP1 hS1
  rw [cw_toList]
  exact kk v X' hq H1 locs1 la hl hP1 hS1
end
/-- the number that stands for an int as a long -/
def zl_ (v : Nat) : Nat := (nI v).toInt64.toUInt64.toNat
theorem zl_lN (v : Nat) : lN (zl_ v) = (nI v).toInt64 := by
  unfold lN zl_
  apply Int64.toBitVec_inj.mp
  simp
