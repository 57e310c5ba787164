/-! the throwing roads: what the tables and the statics give at every later state -/
def ct_up : List String := ["java/lang/RuntimeException", "java/lang/Exception"]
def ct_IO : String := "java/lang/IndexOutOfBoundsException"
def ct_IS : String := "java/lang/IllegalStateException"
def ct_oa : List Cond := Bundle.ownAtoms "DagLedger" 194 ct_IO ct_up ++ Bundle.ownAtoms "DagLedger" 201 ct_IS ct_up
def ct_sf : List Cond := [.isRef (.static Bundle.tN "UNASSIGNED_STACK" Bundle.steD), .isRef (.static Bundle.tN "SUPPRESSED_SENTINEL" Bundle.listD)]
def ct_cls : Cond → Bool
  | .declares _ => true
  | .castable _ _ => true
  | .laysStatic _ _ _ => true
  | w => goodWord w
set_option maxRecDepth 100000 in
theorem ct_oa1 : ct_oa.all (fun w => (decide (w ∈ lw_tbl) && ct_cls w) || decide (w ∈ ct_sf)) = true := by decide +kernel
/-- what holds at the law's entry -/
def ct_0 (S0 : State) (a0 : Array Value) : Prop := (∀ w ∈ lw_tbl, w.before a0 S0 = true) ∧ (∀ w ∈ ct_sf, w.before a0 S0 = true) ∧ (Cond.not (Cond.castable ct_IS ct_IO)).before a0 S0 = true
/-- a later state: its tables are warmer, the cells of the law's entry are as they were -/
def ct_St (S0 U : State) : Prop := S0.WarmedH U.vm ∧ S0.heap.size ≤ U.heap.size ∧ ∀ q : Nat, q < S0.heap.size → U.heap[q]? = S0.heap[q]?
theorem ct_face {S0 U : State} {a0 a : Array Value} (hW : S0.WarmedH U.vm) {w : Cond} (hf : w.faceAtom = true) (ho : w.onTables = true) (h : w.before a0 S0 = true) : w.before a U = true := by
  have h1 := Cond.faceAtom_setVm (args := a0) hW.alike w hf h
  rw [Cond.onTables_vm (A' := a) (U' := U) U.vm w ho, State.setVm_self] at h1
  exact h1
theorem ct_lst {S0 U : State} {a0 a : Array Value} (hS : ct_St S0 U) {o n d : String} (h : (Cond.laysStatic o n d).before a0 S0 = true) : (Cond.laysStatic o n d).before a U = true := by
  have h1 : (Cond.laysStatic o n d).before a0 (S0.setVm U.vm) = true := Cond.holds_shifted (State.Shifted.of_warmed hS.1) _ [] rfl h
  have e1 : (S0.setVm U.vm).fieldFound? o n d = U.fieldFound? o n d := rfl
  simp only [Cond.before, Cond.holds, Cond.value, e1, State.vm_setVm] at h1 ⊢
  cases hc : U.vm.findClass o with
  | none => simp [hc] at h1
  | some c =>
    cases hf : U.fieldFound? o n d with
    | none => simp [hc, hf] at h1
    | some x =>
      obtain ⟨c', k, i, f⟩ := x
      simp only [hc, hf] at h1 ⊢
      cases hk : k.statics with
      | none => simp [hk] at h1
      | some q =>
        cases hq : S0.heap[q]? with
        | none => simp [hk, hq] at h1
        | some cell =>
          have hlt : q < S0.heap.size := (Array.getElem?_eq_some_iff.mp hq).1
          have hu := hS.2.2 q hlt
          simp only [hk, hq, Option.bind_some, State.heap_setVm, hu] at h1 ⊢
          exact h1
theorem ct_isr {S0 U : State} {a0 a : Array Value} (hS : ct_St S0 U) {o n d : String} (h : (Cond.isRef (.static o n d)).before a0 S0 = true) : (Cond.isRef (.static o n d)).before a U = true := by
  have h1 : (Cond.isRef (.static o n d)).before a0 (S0.setVm U.vm) = true := Cond.holds_shifted (State.Shifted.of_warmed hS.1) _ [] rfl h
  have e1 : (S0.setVm U.vm).fieldNamed? o n d true = U.fieldNamed? o n d true := rfl
  simp only [Cond.before, Cond.holds, Cond.value, Term.eval, e1] at h1 ⊢
  cases hf : U.fieldNamed? o n d true with
  | none => simp [hf] at h1
  | some x =>
    obtain ⟨c', k, i⟩ := x
    simp only [hf] at h1 ⊢
    cases hk : k.statics with
    | none => simp [hk] at h1
    | some q =>
      cases hq : S0.heap[q]? with
      | none => simp [hk, hq] at h1
      | some cell =>
        have hlt : q < S0.heap.size := (Array.getElem?_eq_some_iff.mp hq).1
        have hu := hS.2.2 q hlt
        simp only [Option.bind_eq_bind, Option.bind_some, hk, hq, State.heap_setVm, hu] at h1 ⊢
        exact h1
/-- every atom that the making of an exception asks, at every later state -/
theorem ct_tr {S0 U : State} {a0 : Array Value} (h0 : ct_0 S0 a0) (hS : ct_St S0 U) (a : Array Value) : ∀ w ∈ ct_oa, w.before a U = true := by
  intro w hw
  have h1 := List.all_eq_true.mp ct_oa1 w hw
  simp only [Bool.or_eq_true, Bool.and_eq_true, decide_eq_true_eq] at h1
  rcases h1 with ⟨h1, h2⟩ | h1
  · have hb := h0.1 w h1
    cases w <;> first
      | exact word_at hS.1 (good_of_word h2) hb
      | exact ct_face hS.1 rfl rfl hb
      | exact ct_lst hS hb
  · have hb := h0.2.1 w h1
    simp only [ct_sf, List.mem_cons, List.not_mem_nil, or_false] at h1
    rcases h1 with rfl | rfl
    · exact ct_isr hS hb
    · exact ct_isr hS hb
