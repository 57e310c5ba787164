/-! a method that throws: its contract, and a call of it -/
def ct_En (st t : State) (mc ms : Nat) (free : Addr → Prop) : Prop := ∃ L : List Loc, (st.WarmedH t.vm ∧ st.sameButNew ({ t with vm := st.vm } : State) L mc ms) ∧ ∀ q ∈ L, free q.base
def ct_Met (l : Launch) (y : MethodName) (ws : List Cond) (rm : Room) (Pc : Array Value → State → Prop) (Qx : Array Value → State → Addr → State → Prop) (mc ms : Nat) (free : Addr → Prop) : Prop :=
  MetFree l y (headSpec ws rm) Pc (fun _ _ _ _ _ => True) (fun a st o t => ∃ x, o = .threw x ∧ Qx a st x t ∧ ct_En st t mc ms free)
def ct_MQ (below : List Frame) (Qx : Array Value → State → Addr → State → Prop) (a : Array Value) (s : State) (mc ms : Nat) (free : Addr → Prop) : State → Prop := fun t =>
  ∃ x, t.status = .running ∧ Ended t below (.threw x) ∧ Qx a s x t ∧ ct_En s t mc ms free
theorem ct_ofW {l : Launch} {y : MethodName} {ws ws' : List Cond} {rm : Room} {Pc : Array Value → State → Prop} {Qx : Array Value → State → Addr → State → Prop} {mc ms : Nat} {free : Addr → Prop} {cc : ByteArray} {maxL : Nat} {ret : Option FieldType}
    (hy : plainName y.cls = true) (hw : ws = Cond.code y cc maxL ret :: ws')
    (body : ∀ p e s m args below meth c s₁, BodyLoose p l y (headSpec ws rm) cc maxL ret e s m args below meth c s₁ → c.maxLocals = maxL → c.exceptionTable.isEmpty = true → Pc args s →
      W p l e (headSpec ws rm).room s m args below meth c s.heap [] 0 0 (ct_MQ below Qx args s mc ms free) (entryFrame m args maxL)) : ct_Met l y ws rm Pc Qx mc ms free := by
  refine MetFree.of_bodyS (code := cc) (maxLocals := maxL) (ret := ret) hy ?_ ?_
  · intro args s m h hn
    obtain ⟨meth, c, h1, h2, h3, h4, h5, h6, -, -⟩ := Cond.code_spec hn (atoms_spec (ws := ws) h _ (by rw [hw]; exact List.mem_cons_self))
    exact ⟨meth, c, h1, h2, h3, h4, h5, h6⟩
  · intro p e s m args below meth c s₁ B hml hP _
    have hc := atoms_spec (ws := ws) B.pre _ (by rw [hw]; exact List.mem_cons_self)
    have hh0 : s₁.heap = s.heap := by rw [B.state]; rfl
    obtain ⟨t, a1, x, b1, b2, b3⟩ := body p e s m args below meth c s₁ B hml (B.noHandlers hc) hP s₁ hh0 (Stand.of_body B)
    exact ⟨t, .threw x, a1, b1, b2, x, rfl, b3⟩
section
variable {p : Program} {l : Launch} {e : Env} {R : Room} {s : State} {m : MethodId} {args : Array Value} {below : List Frame} {meth : Method} {c : Code} {T : State} {locs : List Loc} {cells slots : Nat}
/-- the callee's part, from the frame whose arguments are taken off -/
theorem ct_in {y : MethodName} {ws : List Cond} {rm : Room} {Pc : Array Value → State → Prop} {Qx : Array Value → State → Addr → State → Prop} {mc ms : Nat} {free : Addr → Prop} {mk : MethodId} {methM : Method} {cM : Code} {kY : Class} {g : JFrame} {ig : Instr} {len : Nat} {a : Array Value}
    (X : Stand p l e R s g.method args below meth c T locs cells slots) (hM : ct_Met l y ws rm Pc Qx mc ms free) (hn : T.methodNamed? y = some mk) (hm : T.vm.method? mk = some methM) (hc : methM.code = some cM) (hk : T.vm.classes[mk.cls]? = some kY) (hi : kY.init = .initialized)
    (hw : ∀ w ∈ ws, w.before a T = true) (hP : Pc a (T.calling g mk a)) (hsize : g.locals.size = c.maxLocals) (hd : decode c.code g.pc = .ok (ig, len))
    (hfr : rm.frames + 1 ≤ R.frames) (hlo : 2 * g.monitorRoom + (g.stack.map fun v => v.category).sum + (cM.maxLocals + 11) + rm.locals ≤ R.locals) (h1 : cells + rm.cells ≤ R.cells) (h2 : slots + rm.slots ≤ R.slots) :
    ∃ (x : Addr) (t T' : State) (L : List Loc), Stand p l e R s g.method args below meth c T' (locs ++ L) (cells + mc) (slots + ms) ∧ (∀ q ∈ L, free q.base) ∧ T'.heap = t.heap ∧ T'.vm = t.vm ∧ Qx a (T.calling g mk a) x t ∧
      Steps p.tables e below (doInvoke e (T.setTop g) [] mk a).1 ((T'.setTop g).pushFrame (.throwing x)) := by
  have h := X.here
  have happ : (headSpec ws rm).appliesLoose y e.platform (T.calling g mk a) = true := Spec.appliesLoose_calling (g := g) h hd hn hk hi (X.room_calling (g := g) (R' := rm) hsize hm hc hfr hlo h1 h2) (atoms_intro hw)
  obtain ⟨mid, hmid⟩ := h.above
  obtain ⟨o, s₂, st, -, hend, x, rfl, hq, L, ⟨hW, hsame0⟩, hL⟩ := Steps.callFree hM p X.admits X.cas X.clock (acts := []) (s := T.setTop g) (m := mk) (args := a) (mid := .java g :: mid) (below := below) (by rw [State.frames_setTop' g h.top, hmid]; rfl) happ hP trivial
  rw [State.frames_setTop' g h.top] at hend
  have hf : s₂.frames = .throwing x :: .java g :: T.frames.tail := hend
  have hW' : T.WarmedH s₂.vm := hW
  have hsame : (T.calling g mk a).sameButNew ({ s₂ with vm := (T.calling g mk a).vm } : State) L mc ms := hsame0
  obtain ⟨e2, q2, q3, q4, q5, q6⟩ := hsame
  obtain ⟨g₀, hg0⟩ := Option.isSome_iff_exists.mp h.top
  obtain ⟨r, hr⟩ := State.topJava?_eq_some.mp hg0
  generalize hT' : ({ T with heap := s₂.heap, slotsUsed := s₂.slotsUsed } : State).setVm s₂.vm = T'
  have hr' : T'.frames = .java g₀ :: r := by rw [← hT']; exact hr
  have hs : s₂ = (T'.setTop g).pushFrame (.throwing x) := by
    have z : s₂ = ({ s₂ with vm := (T.calling g mk a).vm } : State).setVm s₂.vm := rfl
    rw [e2] at z
    refine z.trans ?_
    rw [State.pushFrame, State.frames_setTop _ hr', State.setTop_of_frames _ hr', State.setFrames_setFrames]
    show ({ (T.calling g mk a).setFrames s₂.frames with heap := s₂.heap, slotsUsed := s₂.slotsUsed } : State).setVm s₂.vm = _
    rw [hf, State.calling_eq h.top, State.setFrames_setFrames, hr, ← hT']
    rfl
  have hsm : T.sameButNew ({ T with heap := s₂.heap, slotsUsed := s₂.slotsUsed } : State) L mc ms := by
    refine ⟨?_, q2, q3, q4, q5, q6⟩
    obtain ⟨th, ht, -⟩ := State.frames_cons hr
    show ({ T with heap := s₂.heap, slotsUsed := s₂.slotsUsed } : State) = { T.setFrames T.frames with heap := s₂.heap, slotsUsed := s₂.slotsUsed }
    rw [State.setFrames_self ht]
  refine ⟨x, s₂, T', L, ?_, hL, by rw [← hT']; rfl, by rw [← hT']; rfl, hq, ?_⟩
  · rw [← hT']
    exact ⟨X.admits, X.cas, X.clock, X.frames, X.room, X.hears, X.method, X.code, (X.here.setHeapUsed s₂.heap s₂.slotsUsed).setVm hW'.alike, X.tail, State.WarmedH.trans X.warmed hW', X.limits, X.bytes, X.same.trans (hsm.setVm s.vm)⟩
  · rw [← hs]; exact st
end
