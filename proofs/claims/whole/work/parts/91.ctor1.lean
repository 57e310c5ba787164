/-! the layer of the constructors: a world is a list of cells with their addresses, as the kit has it (written by wip/whole/m41.py) -/
abbrev kw_J := @W
def kw_C (p : Program) (s : State) (m : MethodId) (args : Array Value) (meth : Method) (c : Code) (A : Nat → Prop) (g : wd_G) (cc : ByteArray) (nL : Nat) (own : String) (ret : Option FieldType) : Prop :=
  p.tables.exec = Jvm.exec ∧ c.code = cc ∧ c.maxLocals = nL ∧ s.vm.findClass own = some m.cls ∧ (∀ w ∈ wd_tb, w.before args s = true) ∧ (∀ w ∈ wd_nb, va_Nw w s) ∧ va_K g.2.1 wd_cl (wd_ty g) s ∧ (∀ q, s.heap.size ≤ q → A q) ∧ meth.sig.returnType = ret ∧ meth.locks = false ∧ va_AO wd_R s
def kw_W (p : Program) (l : Launch) (e : Env) (R : Room) (s : State) (m : MethodId) (args : Array Value) (below : List Frame) (meth : Method) (c : Code) (A : Nat → Prop) (g : wd_G) (V : va_W) (cells slots : Nat) (G : State → Prop) (nL pc : Nat) (ls : List (Option Value)) (st : List Value) : Prop :=
  ∀ (H : Heap) (locs : List Loc) (la : Array Slot), cw_lh (fun x => x) nL ls la → va_P g.2.1 wd_cl V H → va_D A V → va_S A s.heap H locs → kw_J p l e R s m args below meth c H locs cells slots G (F0 m pc la (st.map (cw_v (fun x => x))))
section
variable {p : Program} {l : Launch} {e : Env} {R : Room} {s : State} {m : MethodId} {args : Array Value} {below : List Frame} {meth : Method} {c : Code} {A : Nat → Prop} {g : wd_G} {cells slots : Nat} {G : State → Prop} {cc : ByteArray} {nL pc : Nat} {own : String} {ret : Option FieldType} {ls : List (Option Value)} {st : List Value} {V : va_W}
theorem kw_iconst (C : kw_C p s m args meth c A g cc nL own ret) {n : Int} {v : Int32} (hd : decode cc pc = .ok (.iconst n, 1)) (hv : Int32.ofInt n = v) (k : kw_W p l e R s m args below meth c A g V cells slots G nL (pc + 1) ls (.int v :: st)) : kw_W p l e R s m args below meth c A g V cells slots G nL pc ls st := fun H locs la hl hP hD hS => lv_iconst C.1 C.2.1 hd hv (k H locs la hl hP hD hS)
theorem kw_bipush (C : kw_C p s m args meth c A g cc nL own ret) {n : Int} {v : Int32} (hd : decode cc pc = .ok (.bipush n, 2)) (hv : (Int8.ofInt n).toInt32 = v) (k : kw_W p l e R s m args below meth c A g V cells slots G nL (pc + 2) ls (.int v :: st)) : kw_W p l e R s m args below meth c A g V cells slots G nL pc ls st := fun H locs la hl hP hD hS => lv_bipush C.1 C.2.1 hd hv (k H locs la hl hP hD hS)
theorem kw_sipush (C : kw_C p s m args meth c A g cc nL own ret) {n : Int} {v : Int32} (hd : decode cc pc = .ok (.sipush n, 3)) (hv : (Int16.ofInt n).toInt32 = v) (k : kw_W p l e R s m args below meth c A g V cells slots G nL (pc + 3) ls (.int v :: st)) : kw_W p l e R s m args below meth c A g V cells slots G nL pc ls st := fun H locs la hl hP hD hS => lv_sipush C.1 C.2.1 hd hv (k H locs la hl hP hD hS)
theorem kw_iload_n (C : kw_C p s m args meth c A g cc nL own ret) {k0 : Fin 4} {x : Int32} (hd : decode cc pc = .ok (.iload_n k0, 1)) (h : ls[(k0 : Nat)]? = some (some (.int x))) (k : kw_W p l e R s m args below meth c A g V cells slots G nL (pc + 1) ls (.int x :: st)) : kw_W p l e R s m args below meth c A g V cells slots G nL pc ls st := fun H locs la hl hP hD hS => lv_iload_n C.1 C.2.1 hd rfl (hl.2.2 _ _ h).1 (k H locs la hl hP hD hS)
theorem kw_aload_n (C : kw_C p s m args meth c A g cc nL own ret) {k0 : Fin 4} {x : Nat} (hd : decode cc pc = .ok (.aload_n k0, 1)) (h : ls[(k0 : Nat)]? = some (some (.ref x))) (k : kw_W p l e R s m args below meth c A g V cells slots G nL (pc + 1) ls (.ref x :: st)) : kw_W p l e R s m args below meth c A g V cells slots G nL pc ls st := fun H locs la hl hP hD hS => lv_aload_n C.1 C.2.1 hd rfl (hl.2.2 _ _ h).1 (k H locs la hl hP hD hS)
theorem kw_aload (C : kw_C p s m args meth c A g cc nL own ret) {i x : Nat} (hd : decode cc pc = .ok (.aload i, 2)) (h : ls[i]? = some (some (.ref x))) (k : kw_W p l e R s m args below meth c A g V cells slots G nL (pc + 2) ls (.ref x :: st)) : kw_W p l e R s m args below meth c A g V cells slots G nL pc ls st := fun H locs la hl hP hD hS => lv_aload C.1 C.2.1 hd (hl.2.2 _ _ h).1 (k H locs la hl hP hD hS)
theorem kw_istore_n (C : kw_C p s m args meth c A g cc nL own ret) {k0 : Fin 4} {x : Int32} (hd : decode cc pc = .ok (.istore_n k0, 1)) (hi : (k0 : Nat) < nL) (k : kw_W p l e R s m args below meth c A g V cells slots G nL (pc + 1) (ls.set (k0 : Nat) (some (.int x))) st) : kw_W p l e R s m args below meth c A g V cells slots G nL pc ls (.int x :: st) := fun H locs la hl hP hD hS => lv_istore_n C.1 C.2.1 hd rfl (cw_lh_has hl) hi rfl (fun la' h' => k H locs la' (cw_lh_set (v := .int x) hl rfl h') hP hD hS)
theorem kw_astore_n (C : kw_C p s m args meth c A g cc nL own ret) {k0 : Fin 4} {x : Nat} (hd : decode cc pc = .ok (.astore_n k0, 1)) (hi : (k0 : Nat) < nL) (k : kw_W p l e R s m args below meth c A g V cells slots G nL (pc + 1) (ls.set (k0 : Nat) (some (.ref x))) st) : kw_W p l e R s m args below meth c A g V cells slots G nL pc ls (.ref x :: st) := fun H locs la hl hP hD hS => lv_astore_n C.1 C.2.1 hd rfl (cw_lh_has hl) hi rfl (fun la' h' => k H locs la' (cw_lh_set (v := .ref x) hl rfl h') hP hD hS)
theorem kw_iinc (C : kw_C p s m args meth c A g cc nL own ret) {i : Nat} {n : Int} {x v : Int32} (hd : decode cc pc = .ok (.iinc i n, 3)) (h : ls[i]? = some (some (.int x))) (hv : x + Int32.ofInt n = v) (hi : i < nL) (k : kw_W p l e R s m args below meth c A g V cells slots G nL (pc + 3) (ls.set i (some (.int v))) st) : kw_W p l e R s m args below meth c A g V cells slots G nL pc ls st := fun H locs la hl hP hD hS => by
  obtain ⟨k9, hk9⟩ := List.getElem?_of_mem (cw_pr_mem (ad := (fun x => x)) (q := (i, .int x)) |>.mpr ⟨.int x, h, rfl⟩)
  exact lv_iinc C.1 C.2.1 hd (cw_lh_has hl) hk9 hv hi rfl (fun la' h' => k H locs la' (cw_lh_set (v := .int v) hl rfl h') hP hD hS)
theorem kw_dup (C : kw_C p s m args meth c A g cc nL own ret) {u : Value} (hd : decode cc pc = .ok (.dup, 1)) (h1 : (cw_v (fun x => x) u).category = 1) (k : kw_W p l e R s m args below meth c A g V cells slots G nL (pc + 1) ls (u :: u :: st)) : kw_W p l e R s m args below meth c A g V cells slots G nL pc ls (u :: st) := fun H locs la hl hP hD hS => lv_dup C.1 C.2.1 hd h1 (k H locs la hl hP hD hS)
theorem kw_goto (C : kw_C p s m args meth c A g cc nL own ret) {off : Int} {tgt : Nat} (hd : decode cc pc = .ok (.goto off, 3)) (ht : (pc : Int) + off = (tgt : Int)) (k : kw_W p l e R s m args below meth c A g V cells slots G nL tgt ls st) : kw_W p l e R s m args below meth c A g V cells slots G nL pc ls st := fun H locs la hl hP hD hS => lv_goto C.1 C.2.1 hd ht (k H locs la hl hP hD hS)
theorem kw_icmp_ge (C : kw_C p s m args meth c A g cc nL own ret) {x y : Int32} {off : Int} {tgt : Nat} (hd : decode cc pc = .ok (.if_icmp .ge off, 3)) (ht : (pc : Int) + off = (tgt : Int)) (kt : y ≤ x → kw_W p l e R s m args below meth c A g V cells slots G nL tgt ls st) (kf : ¬ y ≤ x → kw_W p l e R s m args below meth c A g V cells slots G nL (pc + 3) ls st) : kw_W p l e R s m args below meth c A g V cells slots G nL pc ls (.int y :: .int x :: st) := fun H locs la hl hP hD hS => lv_icmp_ge C.1 C.2.1 hd ht (fun h => kt h H locs la hl hP hD hS) (fun h => kf h H locs la hl hP hD hS)
theorem kw_nn {N : Nat} (h : N < 100000) : ¬ nI N < 0 := fun z => vp_in_nI (show N < N + 1 by omega) (by omega) (Or.inl z)
theorem kw_objInit (C : kw_C p s m args meth c A g cc nL own ret) {idx a : Nat} (hlink : Cond.methodLink own idx Lib.objectInit ∈ wd_tb) (hinst : Cond.instanceMethod Lib.objectInit ∈ wd_tb) (hcode : Cond.code Lib.objectInit ⟨#[0xb1]⟩ 1 none ∈ wd_tb) (hd : decode cc pc = .ok (.invokespecial idx, 3)) (hR : 1 ≤ R.frames ∧ 20 ≤ R.locals) (hw : ((st.map (cw_v (fun x => x))).map fun v => v.category).sum ≤ 8)
    (k : kw_W p l e R s m args below meth c A g V cells slots G nL (pc + 3) ls st) : kw_W p l e R s m args below meth c A g V cells slots G nL pc ls (.ref a :: st) := fun H locs la hl hP hD hS => by
  have z := lv_room (m := m) (pc := pc) (ls := la) (rest := (Value.ref a :: st).map (cw_v (fun x => x))) hw
  exact W.objInit C.1 C.2.1 C.2.2.2.1 (C.2.2.2.2.1 _ hlink) (C.2.2.2.2.1 _ hinst) (C.2.2.2.2.1 _ hcode) (g := F0 m pc la ((Value.ref a :: st).map (cw_v (fun x => x)))) rfl (by rw [C.2.2.1]; exact hl.1) (a := a) (rest := st.map (cw_v (fun x => x))) rfl hd hR.1 (by omega) (k H locs la hl hP hD hS)
theorem kw_new (C : kw_C p s m args meth c A g cc nL own ret) {ci N idx : Nat} {K : String} {T : u_T} {ty0 : Nat → FieldType} (hc : wd_cls ci K T N ty0) (hcl : Cond.classLink own idx K ∈ wd_tb) (hins : Cond.instantiable K N ∈ wd_tb) (hini : Cond.initialized K ∈ wd_tb) (fs : List Value) (hfs : ∀ j, j < N → defaultValue (ty0 j) = vp_V fs j) (hf : cells + 1 ≤ R.cells ∧ slots + N ≤ R.slots) (hd : decode cc pc = .ok (.new idx, 3))
    (k : ∀ q : Nat, kw_W p l e R s m args below meth c A g (V ++ [(q, .inr (ci, fs))]) (cells + 1) (slots + N) G nL (pc + 3) ls (.ref q :: st)) : kw_W p l e R s m args below meth c A g V cells slots G nL pc ls st := fun H locs la hl hP hD hS =>
  va_new (cl := wd_cl) (D := g.2.1) (tys := wd_ty g) C.1 C.2.1 C.2.2.2.2.1 hc.2.1 ty0 hc.2.2.1 C.2.2.2.1 (C.2.2.2.2.1 _ hcl) (C.2.2.2.2.1 _ hins) (C.2.2.2.2.1 _ hini) C.2.2.2.2.2.2.1 hP hD hS C.2.2.2.2.2.2.2.1 hc.1 hfs hf.1 hf.2 hd (fun q H1 hP1 hD1 hS1 => k q H1 locs la hl hP1 hD1 hS1)
theorem kw_newi (C : kw_C p s m args meth c A g cc nL own ret) {N : Nat} (hN : N < 100000) (hw : Cond.arrayClass .int ∈ wd_tb) (hf : cells + 1 ≤ R.cells ∧ slots + N ≤ R.slots) (hd : decode cc pc = .ok (.newarray .int, 2))
    (k : ∀ q : Nat, kw_W p l e R s m args below meth c A g (V ++ [(q, .inl (g.2.2 0, N, .inl (fun _ => 0)))]) (cells + 1) (slots + N) G nL (pc + 2) ls (.ref q :: st)) : kw_W p l e R s m args below meth c A g V cells slots G nL pc ls (.int (nI N) :: st) := fun H locs la hl hP hD hS =>
  va_newa (atype := .int) (cl := wd_cl) (D := g.2.1) (tys := wd_ty g) (a0 := (N, .inl (fun _ => 0))) (ty := .int) C.1 C.2.1 (C.2.2.2.2.1 _ hw) rfl C.2.2.2.2.2.2.1 hP hD hS C.2.2.2.2.2.2.2.1 (fun _ => rfl) (kw_nn hN) (nI_clamp (by omega)) (by show N * 4 ≤ _; omega) hf.1 hf.2 hd (fun q cA H1 hK1 hP1 hD1 hS1 => by
    have h1 := (hK1.2 4 _ rfl).2
    have h2 := (C.2.2.2.2.2.2.1.2 0 _ rfl).2
    have e1 : cA = g.2.2 0 := Option.some.inj (h1.symm.trans h2)
    subst e1
    exact k q H1 locs la hl hP1 hD1 hS1)
theorem kw_newz (C : kw_C p s m args meth c A g cc nL own ret) {N : Nat} (hN : N < 100000) (hw : Cond.arrayClass .boolean ∈ wd_tb) (hf : cells + 1 ≤ R.cells ∧ slots + N ≤ R.slots) (hd : decode cc pc = .ok (.newarray .boolean, 2))
    (k : ∀ q : Nat, kw_W p l e R s m args below meth c A g (V ++ [(q, .inl (g.2.2 1, N, .inl (fun _ => 0)))]) (cells + 1) (slots + N) G nL (pc + 2) ls (.ref q :: st)) : kw_W p l e R s m args below meth c A g V cells slots G nL pc ls (.int (nI N) :: st) := fun H locs la hl hP hD hS =>
  va_newa (atype := .boolean) (cl := wd_cl) (D := g.2.1) (tys := wd_ty g) (a0 := (N, .inl (fun _ => 0))) (ty := .boolean) C.1 C.2.1 (C.2.2.2.2.1 _ hw) rfl C.2.2.2.2.2.2.1 hP hD hS C.2.2.2.2.2.2.2.1 (fun _ => rfl) (kw_nn hN) (nI_clamp (by omega)) (by show N * 1 ≤ _; omega) hf.1 hf.2 hd (fun q cA H1 hK1 hP1 hD1 hS1 => by
    have h1 := (hK1.2 4 _ rfl).2
    have h2 := (C.2.2.2.2.2.2.1.2 1 _ rfl).2
    have e1 : cA = g.2.2 1 := Option.some.inj (h1.symm.trans h2)
    subst e1
    exact k q H1 locs la hl hP1 hD1 hS1)
theorem kw_newl (C : kw_C p s m args meth c A g cc nL own ret) {N : Nat} (hN : N < 100000) (hw : Cond.arrayClass .long ∈ wd_tb) (hf : cells + 1 ≤ R.cells ∧ slots + N ≤ R.slots) (hd : decode cc pc = .ok (.newarray .long, 2))
    (k : ∀ q : Nat, kw_W p l e R s m args below meth c A g (V ++ [(q, .inl (g.2.2 2, N, .inr (.inl (fun _ => 0))))]) (cells + 1) (slots + N) G nL (pc + 2) ls (.ref q :: st)) : kw_W p l e R s m args below meth c A g V cells slots G nL pc ls (.int (nI N) :: st) := fun H locs la hl hP hD hS =>
  va_newa (atype := .long) (cl := wd_cl) (D := g.2.1) (tys := wd_ty g) (a0 := (N, .inr (.inl (fun _ => 0)))) (ty := .long) C.1 C.2.1 (C.2.2.2.2.1 _ hw) rfl C.2.2.2.2.2.2.1 hP hD hS C.2.2.2.2.2.2.2.1 (fun _ => rfl) (kw_nn hN) (nI_clamp (by omega)) (by show N * 8 ≤ _; omega) hf.1 hf.2 hd (fun q cA H1 hK1 hP1 hD1 hS1 => by
    have h1 := (hK1.2 4 _ rfl).2
    have h2 := (C.2.2.2.2.2.2.1.2 2 _ rfl).2
    have e1 : cA = g.2.2 2 := Option.some.inj (h1.symm.trans h2)
    subst e1
    exact k q H1 locs la hl hP1 hD1 hS1)
theorem kw_newq (C : kw_C p s m args meth c A g cc nL own ret) {N idx : Nat} (hN : N < 100000) (hcl : Cond.classLink own idx wd_R ∈ wd_tb) (hf : cells + 1 ≤ R.cells ∧ slots + N ≤ R.slots) (hd : decode cc pc = .ok (.anewarray idx, 3))
    (k : ∀ q : Nat, kw_W p l e R s m args below meth c A g (V ++ [(q, .inl (g.2.2 3, N, .inr (.inr (.inr (.inr (fun _ => none))))))]) (cells + 1) (slots + N) G nL (pc + 3) ls (.ref q :: st)) : kw_W p l e R s m args below meth c A g V cells slots G nL pc ls (.int (nI N) :: st) := fun H locs la hl hP hD hS =>
  va_newq (cl := wd_cl) (D := g.2.1) (tys := wd_ty g) (C := wd_R) C.1 C.2.1 C.2.2.2.1 (C.2.2.2.2.1 _ hcl) C.2.2.2.2.2.2.2.2.2.2 C.2.2.2.2.2.2.1 hP hD hS C.2.2.2.2.2.2.2.1 (kw_nn hN) (nI_clamp (by omega)) (by omega) hf.1 hf.2 hd (fun q cA H1 hK1 hP1 hD1 hS1 => by
    obtain ⟨_, _, -, -, -, h1⟩ := (hK1.2 4 _ rfl).2
    obtain ⟨_, _, -, -, -, h2⟩ := (C.2.2.2.2.2.2.1.2 3 _ rfl).2
    have e1 : cA = g.2.2 3 := Option.some.inj (h1.symm.trans h2)
    subst e1
    exact k q H1 locs la hl hP1 hD1 hS1)
theorem kw_putF (C : kw_C p s m args meth c A g cc nL own ret) (hin : meth.name = "<init>") (i : Nat) {a ci N k idx : Nat} {fs : List Value} {K : String} {T : u_T} {ty0 : Nat → FieldType} {v : Value} (hc : wd_cls ci K T N ty0) (hf : cw_kF own idx T k) (he : V[i]? = some (a, .inr (ci, fs))) (hk : k < N) (hfin : (T k).2.2.2 = true) (hdecl : (T k).1 = own) (hv : cw_v (fun x => x) v = v) (hn : narrow (ty0 k) v = v) (hfit : fits (ty0 k) v = true) (hlen : k < fs.length) (hd : decode cc pc = .ok (.putfield idx, 3))
    (kk : kw_W p l e R s m args below meth c A g (V.set i (a, .inr (ci, fs.set k v))) cells slots G nL (pc + 3) ls st) : kw_W p l e R s m args below meth c A g V cells slots G nL pc ls (v :: .ref a :: st) := fun H locs la hl hP hD hS => by
  rw [List.map_cons, hv]
  exact va_putF (D := g.2.1) (cl := wd_cl) (tys := wd_ty g) (v := v) (ty := ty0 k) (ref := (T k).1) C.1 C.2.1 C.2.2.2.2.1 hc.2.1 ty0 hc.2.2.1 hc.2.2.2 C.2.2.2.1 C.2.2.2.2.2.2.1 hP hD hS i he hc.1 k hk (C.2.2.2.2.1 _ hf) (fun _ h => h) hfin hin hdecl (hc.2.2.1 k hk) hn hfit hlen hd (fun H1 locs1 hP1 hD1 hS1 => kk H1 locs1 la hl hP1 hD1 hS1)
theorem kw_put (C : kw_C p s m args meth c A g cc nL own ret) (i : Nat) {a ci N k idx : Nat} {fs : List Value} {K : String} {T : u_T} {ty0 : Nat → FieldType} {v : Value} (hc : wd_cls ci K T N ty0) (hf : cw_kF own idx T k) (he : V[i]? = some (a, .inr (ci, fs))) (hk : k < N) (hfin : (T k).2.2.2 = false) (hv : cw_v (fun x => x) v = v) (hn : narrow (ty0 k) v = v) (hfit : fits (ty0 k) v = true) (hlen : k < fs.length) (hd : decode cc pc = .ok (.putfield idx, 3))
    (kk : kw_W p l e R s m args below meth c A g (V.set i (a, .inr (ci, fs.set k v))) cells slots G nL (pc + 3) ls st) : kw_W p l e R s m args below meth c A g V cells slots G nL pc ls (v :: .ref a :: st) := fun H locs la hl hP hD hS => by
  rw [List.map_cons, hv]
  exact va_put (D := g.2.1) (cl := wd_cl) (tys := wd_ty g) (v := v) (ty := ty0 k) (ref := (T k).1) C.1 C.2.1 C.2.2.2.2.1 hc.2.1 ty0 hc.2.2.1 hc.2.2.2 C.2.2.2.1 C.2.2.2.2.2.2.1 hP hD hS i he hc.1 k hk (C.2.2.2.2.1 _ hf) (fun _ h => h) hfin (hc.2.2.1 k hk) hn hfit hlen hd (fun H1 locs1 hP1 hD1 hS1 => kk H1 locs1 la hl hP1 hD1 hS1)
theorem kw_get (C : kw_C p s m args meth c A g cc nL own ret) (i : Nat) {a ci N k idx : Nat} {fs : List Value} {K : String} {T : u_T} {ty0 : Nat → FieldType} {v : Value} (hc : wd_cls ci K T N ty0) (hf : cw_kF own idx T k) (he : V[i]? = some (a, .inr (ci, fs))) (hk : k < N) (hfs : fs[k]? = some v) (hv : cw_v (fun x => x) v = v) (hd : decode cc pc = .ok (.getfield idx, 3))
    (kk : kw_W p l e R s m args below meth c A g V cells slots G nL (pc + 3) ls (v :: st)) : kw_W p l e R s m args below meth c A g V cells slots G nL pc ls (.ref a :: st) := fun H locs la hl hP hD hS => by
  have z := kk H locs la hl hP hD hS
  rw [List.map_cons, hv] at z
  exact va_get (D := g.2.1) (cl := wd_cl) (tys := wd_ty g) (v := v) (ref := (T k).1) C.1 C.2.1 C.2.2.2.2.1 hc.2.1 C.2.2.2.1 C.2.2.2.2.2.2.1 hP i he hc.1 k hk (C.2.2.2.2.1 _ hf) (fun _ h => h) hfs hd z
theorem kw_aast (C : kw_C p s m args meth c A g cc nL own ret) (i j : Nat) {a b n x : Nat} {fs : List Value} {f : Nat → Option Nat} (ha : V[i]? = some (a, .inl (g.2.2 3, n, .inr (.inr (.inr (.inr f)))))) (hb : V[j]? = some (b, .inr (4, fs))) (hx : x < n) (hn : n < 100000) (hd : decode cc pc = .ok (.aastore, 1))
    (kk : kw_W p l e R s m args below meth c A g (V.set i (a, .inl (g.2.2 3, n, .inr (.inr (.inr (.inr (va_up f x (some b)))))))) cells slots G nL (pc + 1) ls st) : kw_W p l e R s m args below meth c A g V cells slots G nL pc ls (.ref b :: .int (nI x) :: .ref a :: st) := fun H locs la hl hP hD hS =>
  va_astq (D := g.2.1) (cl := wd_cl) (tys := wd_ty g) (r := ("DagLedger$Replica", tt_Re, 13)) C.1 C.2.1 C.2.2.2.2.2.2.1 hP hD hS i 3 j 4 ha rfl hb rfl (vp_in_nI hx (by omega)) hd (fun H1 locs1 hP1 hD1 hS1 => by
    rw [nI_clamp (by omega)] at hP1 hD1
    exact kk H1 locs1 la hl hP1 hD1 hS1)
/-- what a constructor finds, and leaves -/
def kw_B (g : wd_G) (sz : Nat) (V : va_W) (U : State) : Prop := U.heap.size = sz ∧ va_P g.2.1 wd_cl V U.heap ∧ va_K g.2.1 wd_cl (wd_ty g) U ∧ va_D (fun _ => True) V ∧ (∀ w ∈ wd_nb, va_Nw w U) ∧ va_AO wd_R U
def kw_Q (g : wd_G) (A : Nat → Prop) (Q : va_W → Prop) : Array Value → State → Outcome → State → Prop := fun _ st oc t => (∃ V' : va_W, oc = .returned none ∧ Q V' ∧ va_P g.2.1 wd_cl V' t.heap ∧ va_D A V') ∧ va_F A st t
def kw_M (y : MethodName) (cc : ByteArray) (nL d mc ms : Nat) (av : List Value) (V : va_W) (Q : wd_G → va_W → Prop) : Prop :=
  ∀ (l : Launch) (g : wd_G) (sz : Nat), Met l y (Cond.code y cc nL none :: wd_tb) (cw_rm d mc ms) (va_Pc (av.map (cw_v (fun x => x))) (kw_B g sz V)) (kw_Q g (va_A V sz) (Q g)) mc ms (va_A V sz)
theorem kw_vret {Q : va_W → Prop} {mc ms : Nat} (C : kw_C p s m args meth c A g cc nL own none) (hd : decode cc pc = .ok (.return_, 1)) (h1 : cells ≤ mc) (h2 : slots ≤ ms) (hq : Q V) : kw_W p l e R s m args below meth c A g V cells slots (MQ below (kw_Q g A Q) args s mc ms A) nL pc ls [] := fun H locs la _ hP hD hS =>
  W.widen h1 h2 (W.vret C.1 C.2.1 C.2.2.2.2.2.2.2.2.1 (fun t ht _ => ⟨⟨V, rfl, hq, by rw [ht]; exact hP, hD⟩, hS.F ht⟩) hS.2.2 hd C.2.2.2.2.2.2.2.2.2.1)
theorem kw_blind {av : List Value} {sz : Nat} : FrameBlind (va_Pc av (kw_B g sz V)) := fun a U f mk q => by
  obtain ⟨q0, q1, qP, qK, qD, qN, qA⟩ := q
  exact ⟨q0, q1, qP, va_K.moved (u := U) (U := U.calling f mk a) (Vm.Alike.refl U.vm) qK, qD, fun w hw => va_Nw.same (u := U) (U := U.calling f mk a) (cw_N_on (wd_nbN w hw)) rfl (qN w hw), va_AO.moved (u := U) (U := U.calling f mk a) (Vm.Alike.refl U.vm) qA⟩
theorem kw_M.of {y : MethodName} {d mc ms : Nat} {av : List Value} {Q : wd_G → va_W → Prop} (ls : List (Option Value)) (hy : plainName y.cls = true) (hy1 : y.name = "<init>") (hcat : av.all cw_c1 = true) (hlen : av.length ≤ nL) (hls : cw_in av nL = ls)
    (h : ∀ (p : Program) (l : Launch) (e : Env) (s : State) (m : MethodId) (args : Array Value) (below : List Frame) (meth : Method) (c : Code) (A : Nat → Prop) (g : wd_G), kw_C p s m args meth c A g cc nL y.cls none → meth.name = "<init>" →
      kw_W p l e (cw_rm d mc ms) s m args below meth c A g V 0 0 (MQ below (kw_Q g A (Q g)) args s mc ms A) nL 0 ls []) : kw_M y cc nL d mc ms av V Q := by
  subst hls
  intro l g sz
  refine Met.ofW (cc := cc) (maxL := nL) (ret := none) hy rfl ?_
  intro p e s m args below meth c s₁ B hml hv
  obtain ⟨rfl, hsz, hP, hK, hD0, hN, hAO⟩ := hv
  have hts := atoms_spec (ws := Cond.code y cc nL none :: wd_tb) B.pre
  have hown : s.vm.findClass y.cls = some m.cls := findClass_of_methodNamed B.named
  have hin : meth.name = "<init>" := (name_of_methodNamed B.named B.method).1.trans hy1
  subst hsz
  have hD := hD0.self (sz := s.heap.size)
  rw [lg_entry_eq]
  exact h p l e s m _ below meth c (va_A V s.heap.size) g ⟨B.exec, B.bytes, hml, hown, fun w hw => hts w (List.mem_cons_of_mem _ hw), hN, hK, fun q hq => Or.inr hq, B.returns, B.notSynchronized, hAO⟩ hin s.heap [] _ (cw_lh_in (fun w hw => cw_c1_cat (List.all_eq_true.mp hcat w hw) (fun x => x)) hlen) hP hD va_S.rf
/-- behind a call that had the last cell as its world -/
theorem kw_back (C : kw_C p s m args meth c A g cc nL own ret) {H : Heap} {locs : List Loc} {la : Array Slot} {mc ms : Nat} {st0 rest : List Value} {av : Array Value} {x : Nat × va_E} {Q' : va_W → Prop} (hP : va_P g.2.1 wd_cl (V ++ [x]) H) (hD : va_D A (V ++ [x])) (hS : va_S A s.heap H locs)
    (hr : va_Run p l e R s m args below meth c H locs cells slots mc ms (F0 m pc la st0) rest (kw_Q g (va_A [x] H.size) Q' av) (va_A [x] H.size))
    (kk : ∀ (V' : va_W) (H1 : Heap) (locs1 : List Loc), Q' V' → va_P g.2.1 wd_cl (V ++ V') H1 → va_D A (V ++ V') → va_S A s.heap H1 locs1 → kw_J p l e R s m args below meth c H1 locs1 (cells + mc) (slots + ms) G (F0 m (pc + 3) la rest)) :
    kw_J p l e R s m args below meth c H locs cells slots G (F0 m pc la st0) := by
  have hxV : (V ++ [x])[V.length]? = some x := by simp
  have hVk : ∀ (k : Nat) (q : Nat × va_E), V[k]? = some q → (V ++ [x])[k]? = some q := fun k q hq => by
    rw [List.getElem?_append_left (List.getElem?_eq_some_iff.mp hq).1]; exact hq
  have hAx : A x.1 := hD.2 _ _ hxV
  have hF : ∀ q, va_A [x] H.size q → A q := fun q h => by
    rcases h with ⟨k, z, h⟩ | h
    · cases k with
      | zero => simp at h; have := congrArg Prod.fst h; simp at this; rw [← this]; exact hAx
      | succ k => simp at h
    · exact C.2.2.2.2.2.2.2.1 q (Nat.le_trans hS.1 h)
  have hout : ∀ (k : Nat) (q : Nat × va_E), V[k]? = some q → q.1 < H.size ∧ ¬ va_A [x] H.size q.1 := fun k q hq => by
    have hl := (hP k q (hVk k q hq)).lt
    refine ⟨hl, fun h => ?_⟩
    rcases h with ⟨k2, z, h⟩ | h
    · cases k2 with
      | zero =>
        simp at h
        have h1 : x.1 = q.1 := by rw [h]
        have := hD.1 k V.length q x (hVk k q hq) hxV h1.symm
        have h2 := (List.getElem?_eq_some_iff.mp hq).1
        omega
      | succ k2 => simp at h
    · omega
  intro T hT X
  obtain ⟨v, st₀, t, T', L, h0, X', hL, e1, e2, ⟨⟨V', hv, hq, hP1, hD1⟩, hz, hk⟩, stp⟩ := hr T hT X
  cases hv
  rw [h0] at hz hk
  rw [← e1] at hP1 hz
  have hPr : va_P g.2.1 wd_cl V T'.heap := fun k q hq => (hP k q (hVk k q hq)).kept (by rw [e1]; exact hk _ (hout k q hq).1 (hout k q hq).2)
  have hPj : va_P g.2.1 wd_cl (V ++ V') T'.heap := va_P.app hPr hP1
  have hDr : va_D A V := ⟨fun i j a b ha hb hab => hD.1 i j a b (hVk i a ha) (hVk j b hb) hab, fun k q hq => hD.2 k q (hVk k q hq)⟩
  have hDj : va_D A (V ++ V') := va_D.app hDr (hD1.weaken (fun k q _ h => hF q.1 h)) (fun i j a b ha hb hab => (hout i a ha).2 (by rw [hab]; exact hD1.2 j b hb))
  obtain ⟨t2, a1, b1⟩ := kk V' T'.heap (locs ++ L) hq hPj hDj
    ⟨Nat.le_trans hS.1 hz, fun q h1 h2 => by rw [e1, hk q (Nat.lt_of_lt_of_le h1 hS.1) (fun z => h2 (hF q z))]; exact hS.2.1 q h1 h2, fun q hq => by
      rcases List.mem_append.mp hq with h | h
      · exact hS.2.2 q h
      · exact hF _ (hL q h)⟩ T' rfl X'
  exact ⟨t2, stp t2 a1, b1⟩
def kw_kI (own : String) (idx : Nat) (y : MethodName) (cc : ByteArray) (nL n : Nat) : Prop := (Cond.methodLink own idx y ∈ wd_tb ∨ Cond.methodLinkNest own idx y "DagLedger" ∈ wd_nb) ∧ Cond.instanceMethod y ∈ wd_tb ∧ Cond.initialized y.cls ∈ wd_tb ∧ Cond.code y cc nL none ∈ wd_tb ∧ y.name = "<init>" ∧ (y.cls ≠ "java/lang/invoke/MethodHandle" ∧ y.cls ≠ "java/lang/invoke/VarHandle" ∧ (parseMethodDescriptor y.desc).map (fun d => d.parameters.length) = some n)
theorem kw_ctor (C : kw_C p s m args meth c A g cc nL own ret) {y : MethodName} {cc' : ByteArray} {nL' n idx d mc ms : Nat} {b : Nat} {x : va_E} {As stk : List Value} {Q' : wd_G → va_W → Prop} (K : kw_kI own idx y cc' nL' n) (hd : decode cc pc = .ok (.invokespecial idx, 3)) (hs : stk = As.reverse ++ .ref b :: st) (hn : As.length = n) (hw : ((st.map (cw_v (fun x => x))).map fun v => v.category).sum ≤ 8) (hR : d + 1 ≤ R.frames ∧ 8 + (nL' + 11) + 40 * d ≤ R.locals) (hf : cells + mc ≤ R.cells ∧ slots + ms ≤ R.slots)
    (hM : kw_M y cc' nL' d mc ms (.ref b :: As) [(b, x)] Q')
    (kk : ∀ V' : va_W, Q' g V' → kw_W p l e R s m args below meth c A g (V ++ V') (cells + mc) (slots + ms) G nL (pc + 3) ls st) : kw_W p l e R s m args below meth c A g (V ++ [(b, x)]) cells slots G nL pc ls stk := by
  intro H locs la hl hP hD hS
  have hts := C.2.2.2.2.1
  have hpre : PreS s H (va_Pc ((Value.ref b :: As).map (cw_v (fun x => x))) (kw_B g H.size [(b, x)])) (.ref b :: As.map (cw_v (fun x => x))) := ⟨kw_blind, fun U hU hW => by
    have hxV : (V ++ [(b, x)])[V.length]? = some (b, x) := by simp
    refine ⟨rfl, by rw [hU], fun k q hq => ?_, va_K.moved hW.alike C.2.2.2.2.2.2.1, ⟨fun i j a b' ha hb' hab => ?_, fun _ _ _ => trivial⟩, fun w hw => cw_N_warm (wd_nbN w hw) hW (C.2.2.2.2.2.1 w hw), va_AO.moved hW.alike C.2.2.2.2.2.2.2.2.2.2⟩
    · rw [hU]
      cases k with
      | zero => simp at hq; subst hq; exact hP _ _ hxV
      | succ k => simp at hq
    · cases i with
      | zero => cases j with
        | zero => rfl
        | succ j => simp at hb'
      | succ i => simp at ha⟩
  have hrun : va_Run p l e R s m args below meth c H locs cells slots mc ms (F0 m pc la (stk.map (cw_v (fun x => x)))) (st.map (cw_v (fun x => x))) (kw_Q g (va_A [(b, x)] H.size) (Q' g) (Value.ref b :: As.map (cw_v (fun x => x))).toArray) (va_A [(b, x)] H.size) := by
    rcases K.1 with hk | hk
    · exact va_runI (As := As.map (cw_v (fun x => x))) (rest := st.map (cw_v (fun x => x))) (n := n) ⟨C.1, C.2.1, C.2.2.1, C.2.2.2.1, hts⟩ (hM l g H.size) ⟨callB_of n hts (cw_goodIn K.2.2.2.1) rfl rfl rfl (hts _ K.2.2.1) (hts _ hk) K.2.2.2.2.2 hR, K.2.2.2.2.1, hts _ K.2.1⟩ hpre rfl (by rw [List.length_map]; exact hn) hl.1 (by rw [hs]; simp [cw_v]) (lv_room hw) hd hf
    · exact va_runIN (As := As.map (cw_v (fun x => x))) (rest := st.map (cw_v (fun x => x))) (n := n) ⟨C.1, C.2.1, C.2.2.1, C.2.2.2.1, hts⟩ (hM l g H.size) ⟨va_cnB n hts (cw_goodIn K.2.2.2.1) rfl rfl rfl (C.2.2.2.2.2.1 _ hk) (hts _ K.2.2.1) K.2.2.2.2.2 hR, K.2.2.2.2.1, hts _ K.2.1⟩ hpre rfl (by rw [List.length_map]; exact hn) hl.1 (by rw [hs]; simp [cw_v]) (lv_room hw) hd hf
  exact kw_back C hP hD hS hrun (fun V' H1 locs1 hq hP1 hD1 hS1 => kk V' hq H1 locs1 la hl hP1 hD1 hS1)
end
