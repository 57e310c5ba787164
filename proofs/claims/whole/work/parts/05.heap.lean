/-! The clean layer: fields, arrays, calls, returns. -/
/-- a class of the world: its place, its fields' words, their types -/
def wd_cls (ci : Nat) (K : String) (T : u_T) (N : Nat) (ty0 : Nat → FieldType) : Prop := wd_cl[ci]? = some (K, T, N) ∧ (∀ w ∈ u_ws K T N, w ∈ wd_tb) ∧ (∀ k, k < N → parseFieldDescriptor (T k).2.2.1 = some (ty0 k)) ∧ (∀ a, a < N → ∀ b, b < N → a ≠ b → (T a).2.1 ≠ (T b).2.1)
def cw_kF (own : String) (idx : Nat) (T : u_T) (k : Nat) : Prop := Cond.fieldLink own idx (T k).1 (T k).2.1 (T k).2.2.1 ∈ wd_tb
section
variable {p : Program} {l : Launch} {e : Env} {R : Room} {s : State} {m : MethodId} {args : Array Value} {below : List Frame} {meth : Method} {c : Code} {A : Nat → Prop} {ids : List Nat} {g : wd_G} {cells slots : Nat} {G : State → Prop} {cc : ByteArray} {nL pc : Nat} {own : String} {ret : Option FieldType} {ls : List (Option Value)} {st : List Value} {σ : wd_S} {τ : wd_L}
theorem cw_hts (C : cw_C p s m args meth c A ids g cc nL own ret) : ∀ w ∈ wd_tb, w.before args s = true := C.2.2.2.2.1
theorem cw_hK (C : cw_C p s m args meth c A ids g cc nL own ret) : va_K g.2.1 wd_cl (wd_ty g) s := C.2.2.2.2.2.2.1
theorem cw_hD (C : cw_C p s m args meth c A ids g cc nL own ret) : ∀ (σ : wd_S) (τ : wd_L), va_D A (wd_w ids g σ τ) := C.2.2.2.2.2.2.2.1
theorem cw_hA (C : cw_C p s m args meth c A ids g cc nL own ret) : ∀ q, s.heap.size ≤ q → A q := C.2.2.2.2.2.2.2.2.1
theorem cw_hr (C : cw_C p s m args meth c A ids g cc nL own ret) : meth.sig.returnType = ret := C.2.2.2.2.2.2.2.2.2.1
theorem cw_hlk (C : cw_C p s m args meth c A ids g cc nL own ret) : meth.locks = false := C.2.2.2.2.2.2.2.2.2.2.1
theorem cw_hn (C : cw_C p s m args meth c A ids g cc nL own ret) : ids.Nodup := C.2.2.2.2.2.2.2.2.2.2.2
theorem cw_getv (C : cw_C p s m args meth c A ids g cc nL own ret) {ci N k q idx : Nat} {K : String} {T : u_T} {ty0 : Nat → FieldType} {fl : List (Nat × Nat)} {f : Nat × Nat} (hc : wd_cls ci K T N ty0) (hf : cw_kF own idx T k) (hi : wd_is ids q (4, ci, fl)) (hk : k < N) (hfl : fl[k]? = some f) (hd : decode cc pc = .ok (.getfield idx, 3))
    (kk : cw_W p l e R s m args below meth c A ids g cells slots G nL (pc + 3) ls (wd_fv q σ τ k f :: st) σ τ) : cw_W p l e R s m args below meth c A ids g cells slots G nL pc ls (.ref q :: st) σ τ := by
  intro H locs la hl hP hS
  obtain ⟨i, hids⟩ := List.getElem?_of_mem hi.1
  have he := wd_at (ids := ids) (g := g) (σ := σ) (τ := τ) hids
  rw [wd_ce_o hi.2] at he
  exact va_get (D := g.2.1) (cl := wd_cl) (tys := wd_ty g) (v := cw_v g.1 (wd_fv q σ τ k f)) (ref := (T k).1) C.1 C.2.1 (cw_hts C) hc.2.1 C.2.2.2.1 (cw_hK C) hP i he hc.1 k hk (cw_hts C _ hf) (fun _ h => h) (by rw [List.getElem?_map, wd_fs_at hfl]; rfl) hd (kk H locs la hl hP hS)
theorem cw_geti (C : cw_C p s m args meth c A ids g cc nL own ret) {ci N k q idx j : Nat} {K : String} {T : u_T} {ty0 : Nat → FieldType} {fl : List (Nat × Nat)} (hc : wd_cls ci K T N ty0) (hf : cw_kF own idx T k) (hi : wd_is ids q (4, ci, fl)) (hk : k < N) (hfl : fl[k]? = some (0, j)) (hd : decode cc pc = .ok (.getfield idx, 3))
    (kk : cw_W p l e R s m args below meth c A ids g cells slots G nL (pc + 3) ls (.int (σ q k) :: st) σ τ) : cw_W p l e R s m args below meth c A ids g cells slots G nL pc ls (.ref q :: st) σ τ := cw_getv C hc hf hi hk hfl hd kk
theorem cw_getl (C : cw_C p s m args meth c A ids g cc nL own ret) {ci N k q idx j : Nat} {K : String} {T : u_T} {ty0 : Nat → FieldType} {fl : List (Nat × Nat)} (hc : wd_cls ci K T N ty0) (hf : cw_kF own idx T k) (hi : wd_is ids q (4, ci, fl)) (hk : k < N) (hfl : fl[k]? = some (1, j)) (hd : decode cc pc = .ok (.getfield idx, 3))
    (kk : cw_W p l e R s m args below meth c A ids g cells slots G nL (pc + 3) ls (.long (τ q k) :: st) σ τ) : cw_W p l e R s m args below meth c A ids g cells slots G nL pc ls (.ref q :: st) σ τ := cw_getv C hc hf hi hk hfl hd kk
theorem cw_getr (C : cw_C p s m args meth c A ids g cc nL own ret) {ci N k q q' idx j : Nat} {K : String} {T : u_T} {ty0 : Nat → FieldType} {fl : List (Nat × Nat)} (hc : wd_cls ci K T N ty0) (hf : cw_kF own idx T k) (hi : wd_is ids q (4, ci, fl)) (hk : k < N) (hfl : fl[k]? = some (2, j)) (hd : decode cc pc = .ok (.getfield idx, 3)) (hq : 4 * j = q')
    (kk : cw_W p l e R s m args below meth c A ids g cells slots G nL (pc + 3) ls (.ref q' :: st) σ τ) : cw_W p l e R s m args below meth c A ids g cells slots G nL pc ls (.ref q :: st) σ τ := by
  subst hq
  exact cw_getv C hc hf hi hk hfl hd kk
theorem cw_gets (C : cw_C p s m args meth c A ids g cc nL own ret) {ci N k b b' r idx j : Nat} {K : String} {T : u_T} {ty0 : Nat → FieldType} {fl : List (Nat × Nat)} (hr : r < 4) (h0 : b % 4 = 0) (hc : wd_cls ci K T N ty0) (hf : cw_kF own idx T k) (hi : wd_is ids (b + r) (4, ci, fl)) (hk : k < N) (hfl : fl[k]? = some (3, j)) (hd : decode cc pc = .ok (.getfield idx, 3)) (hq : 4 * j = b')
    (kk : cw_W p l e R s m args below meth c A ids g cells slots G nL (pc + 3) ls (.ref (b' + r) :: st) σ τ) : cw_W p l e R s m args below meth c A ids g cells slots G nL pc ls (.ref (b + r) :: st) σ τ := by
  subst hq
  refine cw_getv C hc hf hi hk hfl hd ?_
  have e9 : (b + r) % 4 = r := by omega
  show cw_W p l e R s m args below meth c A ids g cells slots G nL (pc + 3) ls (.ref (4 * j + (b + r) % 4) :: st) σ τ
  rw [e9]
  exact kk
theorem cw_puti (C : cw_C p s m args meth c A ids g cc nL own ret) {ci N k q idx j : Nat} {K : String} {T : u_T} {ty0 : Nat → FieldType} {fl : List (Nat × Nat)} {x : Int32} (hc : wd_cls ci K T N ty0) (hf : cw_kF own idx T k) (hi : wd_is ids q (4, ci, fl)) (hk : k < N) (hfl : fl[k]? = some (0, j)) (hfin : (T k).2.2.2 = false) (hn : narrow (ty0 k) (.int x) = .int x) (hfit : fits (ty0 k) (.int x) = true) (hd : decode cc pc = .ok (.putfield idx, 3))
    (kk : cw_W p l e R s m args below meth c A ids g cells slots G nL (pc + 3) ls st (cw_up σ q k x) τ) : cw_W p l e R s m args below meth c A ids g cells slots G nL pc ls (.int x :: .ref q :: st) σ τ := by
  intro H locs la hl hP hS
  obtain ⟨i, hids⟩ := List.getElem?_of_mem hi.1
  have he := wd_at (ids := ids) (g := g) (σ := σ) (τ := τ) hids
  rw [wd_ce_o hi.2] at he
  have hkl : k < fl.length := (List.getElem?_eq_some_iff.mp hfl).1
  refine va_put (D := g.2.1) (cl := wd_cl) (tys := wd_ty g) (v := .int x) (ty := ty0 k) (ref := (T k).1) C.1 C.2.1 (cw_hts C) hc.2.1 ty0 hc.2.2.1 hc.2.2.2 C.2.2.2.1 (cw_hK C) hP (cw_hD C σ τ) hS i he hc.1 k hk (cw_hts C _ hf) (fun _ h => h) hfin (hc.2.2.1 k hk) hn hfit (by rw [List.length_map, wd_fs_len]; exact hkl) hd (fun H1 locs1 hP1 _ hS1 => ?_)
  rw [wd_set (cw_hn C) (σ' := cw_up σ q k x) (τ' := τ) hids (fun c' h => cw_up_c h) (fun _ _ => rfl) (by
    rw [wd_ce_o hi.2, ← wd_fs_up hfl, List.map_set]; rfl)] at hP1
  exact kk H1 locs1 la hl hP1 hS1
theorem cw_putl (C : cw_C p s m args meth c A ids g cc nL own ret) {ci N k q idx j : Nat} {K : String} {T : u_T} {ty0 : Nat → FieldType} {fl : List (Nat × Nat)} {x : Int64} (hc : wd_cls ci K T N ty0) (hf : cw_kF own idx T k) (hi : wd_is ids q (4, ci, fl)) (hk : k < N) (hfl : fl[k]? = some (1, j)) (hfin : (T k).2.2.2 = false) (hn : narrow (ty0 k) (.long x) = .long x) (hfit : fits (ty0 k) (.long x) = true) (hd : decode cc pc = .ok (.putfield idx, 3))
    (kk : cw_W p l e R s m args below meth c A ids g cells slots G nL (pc + 3) ls st σ (cw_uq τ q k x)) : cw_W p l e R s m args below meth c A ids g cells slots G nL pc ls (.long x :: .ref q :: st) σ τ := by
  intro H locs la hl hP hS
  obtain ⟨i, hids⟩ := List.getElem?_of_mem hi.1
  have he := wd_at (ids := ids) (g := g) (σ := σ) (τ := τ) hids
  rw [wd_ce_o hi.2] at he
  have hkl : k < fl.length := (List.getElem?_eq_some_iff.mp hfl).1
  refine va_put (D := g.2.1) (cl := wd_cl) (tys := wd_ty g) (v := .long x) (ty := ty0 k) (ref := (T k).1) C.1 C.2.1 (cw_hts C) hc.2.1 ty0 hc.2.2.1 hc.2.2.2 C.2.2.2.1 (cw_hK C) hP (cw_hD C σ τ) hS i he hc.1 k hk (cw_hts C _ hf) (fun _ h => h) hfin (hc.2.2.1 k hk) hn hfit (by rw [List.length_map, wd_fs_len]; exact hkl) hd (fun H1 locs1 hP1 _ hS1 => ?_)
  rw [wd_set (cw_hn C) (σ' := σ) (τ' := cw_uq τ q k x) hids (fun _ _ => rfl) (fun c' h => cw_uq_c h) (by
    rw [wd_ce_o hi.2, ← wd_fs_uq hfl, List.map_set]; rfl)] at hP1
  exact kk H1 locs1 la hl hP1 hS1
theorem cw_iald (C : cw_C p s m args meth c A ids g cc nL own ret) {q n i : Nat} {fl : List (Nat × Nat)} {x : Int32} (hi : wd_is ids q (0, n, fl)) (hx : x = nI i) (hin : i < n) (hn : n < 2 ^ 31) (hd : decode cc pc = .ok (.iaload, 1))
    (kk : cw_W p l e R s m args below meth c A ids g cells slots G nL (pc + 1) ls (.int (σ q i) :: st) σ τ) : cw_W p l e R s m args below meth c A ids g cells slots G nL pc ls (.int x :: .ref q :: st) σ τ := by
  intro H locs la hl hP hS
  obtain ⟨i0, hids⟩ := List.getElem?_of_mem hi.1
  have he := wd_at (ids := ids) (g := g) (σ := σ) (τ := τ) hids
  rw [wd_ce_i hi.2] at he
  subst hx
  have kk := kk H locs la hl hP hS
  refine va_iald C.1 C.2.1 (cw_hK C) hP i0 0 he rfl (vp_in_nI hin hn) hd ?_
  rw [nI_clamp (Nat.lt_trans hin hn)]
  exact kk
theorem cw_zald (C : cw_C p s m args meth c A ids g cc nL own ret) {q n i : Nat} {fl : List (Nat × Nat)} {x : Int32} (hi : wd_is ids q (1, n, fl)) (hx : x = nI i) (hin : i < n) (hn : n < 2 ^ 31) (hd : decode cc pc = .ok (.baload, 1))
    (kk : cw_W p l e R s m args below meth c A ids g cells slots G nL (pc + 1) ls (.int (σ q i) :: st) σ τ) : cw_W p l e R s m args below meth c A ids g cells slots G nL pc ls (.int x :: .ref q :: st) σ τ := by
  intro H locs la hl hP hS
  obtain ⟨i0, hids⟩ := List.getElem?_of_mem hi.1
  have he := wd_at (ids := ids) (g := g) (σ := σ) (τ := τ) hids
  rw [wd_ce_z hi.2] at he
  subst hx
  have kk := kk H locs la hl hP hS
  refine va_zald C.1 C.2.1 (cw_hK C) hP i0 1 he rfl (vp_in_nI hin hn) hd ?_
  rw [nI_clamp (Nat.lt_trans hin hn)]
  exact kk
theorem cw_lald (C : cw_C p s m args meth c A ids g cc nL own ret) {q n i : Nat} {fl : List (Nat × Nat)} {x : Int32} (hi : wd_is ids q (2, n, fl)) (hx : x = nI i) (hin : i < n) (hn : n < 2 ^ 31) (hd : decode cc pc = .ok (.laload, 1))
    (kk : cw_W p l e R s m args below meth c A ids g cells slots G nL (pc + 1) ls (.long (τ q i) :: st) σ τ) : cw_W p l e R s m args below meth c A ids g cells slots G nL pc ls (.int x :: .ref q :: st) σ τ := by
  intro H locs la hl hP hS
  obtain ⟨i0, hids⟩ := List.getElem?_of_mem hi.1
  have he := wd_at (ids := ids) (g := g) (σ := σ) (τ := τ) hids
  rw [wd_ce_l hi.2] at he
  subst hx
  have kk := kk H locs la hl hP hS
  refine va_lald C.1 C.2.1 (cw_hK C) hP i0 2 he rfl (vp_in_nI hin hn) hd ?_
  rw [nI_clamp (Nat.lt_trans hin hn)]
  exact kk
theorem cw_aald (C : cw_C p s m args meth c A ids g cc nL own ret) {q n i j a b' : Nat} {x : Int32} (hi : wd_is ids q (3, n, [(a, j)])) (hx : x = nI i) (hin : i < n) (hn : n < 2 ^ 31) (hd : decode cc pc = .ok (.aaload, 1)) (hq : 4 * j = b')
    (kk : cw_W p l e R s m args below meth c A ids g cells slots G nL (pc + 1) ls (.ref (b' + i) :: st) σ τ) : cw_W p l e R s m args below meth c A ids g cells slots G nL pc ls (.int x :: .ref q :: st) σ τ := by
  subst hq
  intro H locs la hl hP hS
  obtain ⟨i0, hids⟩ := List.getElem?_of_mem hi.1
  have he := wd_at (ids := ids) (g := g) (σ := σ) (τ := τ) hids
  rw [wd_ce_r hi.2] at he
  subst hx
  have kk := kk H locs la hl hP hS
  refine va_aldq C.1 C.2.1 (cw_hK C) hP i0 3 he rfl (vp_in_nI hin hn) hd ?_
  rw [nI_clamp (Nat.lt_trans hin hn)]
  exact kk
theorem cw_alen (C : cw_C p s m args meth c A ids g cc nL own ret) {q n : Nat} {fl : List (Nat × Nat)} (hi : wd_is ids q (0, n, fl)) (hd : decode cc pc = .ok (.arraylength, 1))
    (kk : cw_W p l e R s m args below meth c A ids g cells slots G nL (pc + 1) ls (.int (nI n) :: st) σ τ) : cw_W p l e R s m args below meth c A ids g cells slots G nL pc ls (.ref q :: st) σ τ := by
  intro H locs la hl hP hS
  obtain ⟨i0, hids⟩ := List.getElem?_of_mem hi.1
  have he := wd_at (ids := ids) (g := g) (σ := σ) (τ := τ) hids
  rw [wd_ce_i hi.2] at he
  exact va_alen C.1 C.2.1 (cw_hK C) hP i0 0 he rfl rfl hd (kk H locs la hl hP hS)
theorem cw_iast (C : cw_C p s m args meth c A ids g cc nL own ret) {q n i : Nat} {fl : List (Nat × Nat)} {x y : Int32} (hi : wd_is ids q (0, n, fl)) (hx : x = nI i) (hin : i < n) (hn : n < 2 ^ 31) (hd : decode cc pc = .ok (.iastore, 1))
    (kk : cw_W p l e R s m args below meth c A ids g cells slots G nL (pc + 1) ls st (cw_up σ q i y) τ) : cw_W p l e R s m args below meth c A ids g cells slots G nL pc ls (.int y :: .int x :: .ref q :: st) σ τ := by
  intro H locs la hl hP hS
  obtain ⟨i0, hids⟩ := List.getElem?_of_mem hi.1
  have he := wd_at (ids := ids) (g := g) (σ := σ) (τ := τ) hids
  rw [wd_ce_i hi.2] at he
  subst hx
  refine va_iast C.1 C.2.1 (cw_hK C) hP (cw_hD C σ τ) hS i0 0 he rfl (vp_in_nI hin hn) hd (fun H1 locs1 hP1 _ hS1 => ?_)
  rw [nI_clamp (Nat.lt_trans hin hn), wd_set (cw_hn C) (σ' := cw_up σ q i y) (τ' := τ) hids (fun c' h => cw_up_c h) (fun _ _ => rfl) (by
    rw [wd_ce_i hi.2, cw_up_u])] at hP1
  exact kk H1 locs1 la hl hP1 hS1
theorem cw_zast (C : cw_C p s m args meth c A ids g cc nL own ret) {q n i : Nat} {fl : List (Nat × Nat)} {x y : Int32} (hi : wd_is ids q (1, n, fl)) (hx : x = nI i) (hin : i < n) (hn : n < 2 ^ 31) (hy : vp_nar .boolean y = y) (hd : decode cc pc = .ok (.bastore, 1))
    (kk : cw_W p l e R s m args below meth c A ids g cells slots G nL (pc + 1) ls st (cw_up σ q i y) τ) : cw_W p l e R s m args below meth c A ids g cells slots G nL pc ls (.int y :: .int x :: .ref q :: st) σ τ := by
  intro H locs la hl hP hS
  obtain ⟨i0, hids⟩ := List.getElem?_of_mem hi.1
  have he := wd_at (ids := ids) (g := g) (σ := σ) (τ := τ) hids
  rw [wd_ce_z hi.2] at he
  subst hx
  refine va_zast C.1 C.2.1 (cw_hK C) hP (cw_hD C σ τ) hS i0 1 he rfl (vp_in_nI hin hn) hd (fun H1 locs1 hP1 _ hS1 => ?_)
  rw [nI_clamp (Nat.lt_trans hin hn), hy, wd_set (cw_hn C) (σ' := cw_up σ q i y) (τ' := τ) hids (fun c' h => cw_up_c h) (fun _ _ => rfl) (by
    rw [wd_ce_z hi.2, cw_up_u])] at hP1
  exact kk H1 locs1 la hl hP1 hS1
theorem cw_last (C : cw_C p s m args meth c A ids g cc nL own ret) {q n i : Nat} {fl : List (Nat × Nat)} {x : Int32} {y : Int64} (hi : wd_is ids q (2, n, fl)) (hx : x = nI i) (hin : i < n) (hn : n < 2 ^ 31) (hd : decode cc pc = .ok (.lastore, 1))
    (kk : cw_W p l e R s m args below meth c A ids g cells slots G nL (pc + 1) ls st σ (cw_uq τ q i y)) : cw_W p l e R s m args below meth c A ids g cells slots G nL pc ls (.long y :: .int x :: .ref q :: st) σ τ := by
  intro H locs la hl hP hS
  obtain ⟨i0, hids⟩ := List.getElem?_of_mem hi.1
  have he := wd_at (ids := ids) (g := g) (σ := σ) (τ := τ) hids
  rw [wd_ce_l hi.2] at he
  subst hx
  refine va_last C.1 C.2.1 (cw_hK C) hP (cw_hD C σ τ) hS i0 2 he rfl (vp_in_nI hin hn) hd (fun H1 locs1 hP1 _ hS1 => ?_)
  rw [nI_clamp (Nat.lt_trans hin hn), wd_set (cw_hn C) (σ' := σ) (τ' := cw_uq τ q i y) hids (fun _ _ => rfl) (fun c' h => cw_uq_c h) (by
    rw [wd_ce_l hi.2, cw_uq_u])] at hP1
  exact kk H1 locs1 la hl hP1 hS1
/-! returns -/
variable {mc ms : Nat} {Q : Option Value → wd_S → wd_L → Prop}
theorem cw_ireturn (C : cw_C p s m args meth c A ids g cc nL own (some .int)) {x : Int32} (hd : decode cc pc = .ok (.ireturn, 1)) (h1 : cells ≤ mc) (h2 : slots ≤ ms) (hq : Q (some (.int x)) σ τ) :
    cw_W p l e R s m args below meth c A ids g cells slots (cw_G below args s A ids g mc ms Q) nL pc ls [.int x] σ τ := fun H locs la _ hP hS =>
  W.widen h1 h2 (W.iret (v := x) C.1 C.2.1 (cw_hr C) (fun t ht _ => ⟨⟨some (.int x), σ, τ, rfl, hq, by rw [ht]; exact hP⟩, hS.F ht⟩) hS.2.2 hd (cw_hlk C))
theorem cw_zreturn (C : cw_C p s m args meth c A ids g cc nL own (some .boolean)) {x : Int32} (hd : decode cc pc = .ok (.ireturn, 1)) (hn : narrow .boolean (.int x) = .int x) (h1 : cells ≤ mc) (h2 : slots ≤ ms) (hq : Q (some (.int x)) σ τ) :
    cw_W p l e R s m args below meth c A ids g cells slots (cw_G below args s A ids g mc ms Q) nL pc ls [.int x] σ τ := fun H locs la _ hP hS =>
  W.widen h1 h2 (W.zret (v := x) C.1 C.2.1 (cw_hr C) hn (fun t ht _ => ⟨⟨some (.int x), σ, τ, rfl, hq, by rw [ht]; exact hP⟩, hS.F ht⟩) hS.2.2 hd (cw_hlk C))
theorem cw_areturn {cn : String} (C : cw_C p s m args meth c A ids g cc nL own (some (.object cn))) {q : Nat} (hd : decode cc pc = .ok (.areturn, 1)) (h1 : cells ≤ mc) (h2 : slots ≤ ms) (hq : Q (some (.ref q)) σ τ) :
    cw_W p l e R s m args below meth c A ids g cells slots (cw_G below args s A ids g mc ms Q) nL pc ls [.ref q] σ τ := fun H locs la _ hP hS =>
  W.widen h1 h2 (W.aret (v := .ref (g.1 q)) C.1 C.2.1 (cw_hr C) (Or.inl ⟨cn, rfl⟩) (Or.inr ⟨_, rfl⟩) (fun t ht _ => ⟨⟨some (.ref q), σ, τ, rfl, hq, by rw [ht]; exact hP⟩, hS.F ht⟩) hS.2.2 hd (cw_hlk C))
theorem cw_vreturn (C : cw_C p s m args meth c A ids g cc nL own none) (hd : decode cc pc = .ok (.return_, 1)) (h1 : cells ≤ mc) (h2 : slots ≤ ms) (hq : Q none σ τ) :
    cw_W p l e R s m args below meth c A ids g cells slots (cw_G below args s A ids g mc ms Q) nL pc ls [] σ τ := fun H locs la _ hP hS =>
  W.widen h1 h2 (W.vret C.1 C.2.1 (cw_hr C) (fun t ht _ => ⟨⟨none, σ, τ, rfl, hq, by rw [ht]; exact hP⟩, hS.F ht⟩) hS.2.2 hd (cw_hlk C))
end
/-! a contract out of a walk -/
theorem cw_M.of {ids : List Nat} {y : MethodName} {cc : ByteArray} {nL : Nat} {ret : Option FieldType} {d mc ms : Nat} {av : List Value} {σ : wd_S} {τ : wd_L} {Q : Option Value → wd_S → wd_L → Prop} (hy : plainName y.cls = true) (hcat : av.all cw_c1 = true) (hlen : av.length ≤ nL)
    (h : ∀ (p : Program) (l : Launch) (e : Env) (s : State) (m : MethodId) (args : Array Value) (below : List Frame) (meth : Method) (c : Code) (A : Nat → Prop) (g : wd_G), cw_C p s m args meth c A ids g cc nL y.cls ret →
      cw_W p l e (cw_rm d mc ms) s m args below meth c A ids g 0 0 (cw_G below args s A ids g mc ms Q) nL 0 (cw_in av nL) [] σ τ) : cw_M ids y cc nL ret d mc ms av σ τ Q := by
  intro l g sz
  refine Met.ofW (cc := cc) (maxL := nL) (ret := ret) hy rfl ?_
  intro p e s m args below meth c s₁ B hml hv
  obtain ⟨rfl, hsz, hP, hK, hD0, hN, hnd⟩ := hv
  have hts := atoms_spec (ws := Cond.code y cc nL ret :: wd_tb) B.pre
  have hown : s.vm.findClass y.cls = some m.cls := findClass_of_methodNamed B.named
  subst hsz
  have hD := hD0.self (sz := s.heap.size)
  rw [lg_entry_eq]
  exact h p l e s m _ below meth c (va_A (wd_w ids g σ τ) s.heap.size) g ⟨B.exec, B.bytes, hml, hown, fun w hw => hts w (List.mem_cons_of_mem _ hw), hN, hK, fun σ' τ' => wd_D hD, fun q hq => Or.inr hq, B.returns, B.notSynchronized, hnd⟩ s.heap [] _ (cw_lh_in (fun w hw => cw_c1_cat (List.all_eq_true.mp hcat w hw) g.1) hlen) hP va_S.rf
/-! calls -/
def cw_kV (own : String) (idx : Nat) (y : MethodName) (cc : ByteArray) (nL : Nat) (ret : Option FieldType) (n : Nat) : Prop := Cond.methodLink own idx y ∈ wd_tb ∧ Cond.instanceMethod y ∈ wd_tb ∧ Cond.selects y.cls y y ∈ wd_tb ∧ Cond.initialized y.cls ∈ wd_tb ∧ Cond.code y cc nL ret ∈ wd_tb ∧ (y.cls ≠ "java/lang/invoke/MethodHandle" ∧ y.cls ≠ "java/lang/invoke/VarHandle" ∧ (parseMethodDescriptor y.desc).map (fun d => d.parameters.length) = some n)
def cw_kS (own : String) (idx : Nat) (y : MethodName) (cc : ByteArray) (nL : Nat) (ret : Option FieldType) (n : Nat) : Prop := Cond.methodLink own idx y ∈ wd_tb ∧ Cond.static y ∈ wd_tb ∧ Cond.initialized y.cls ∈ wd_tb ∧ Cond.code y cc nL ret ∈ wd_tb ∧ (y.cls ≠ "java/lang/invoke/MethodHandle" ∧ y.cls ≠ "java/lang/invoke/VarHandle" ∧ (parseMethodDescriptor y.desc).map (fun d => d.parameters.length) = some n)
def cw_kSN (own : String) (idx : Nat) (y : MethodName) (cc : ByteArray) (nL : Nat) (ret : Option FieldType) (n : Nat) (host : String) : Prop := Cond.methodLinkNest own idx y host ∈ wd_nb ∧ Cond.static y ∈ wd_tb ∧ Cond.initialized y.cls ∈ wd_tb ∧ Cond.code y cc nL ret ∈ wd_tb ∧ (y.cls ≠ "java/lang/invoke/MethodHandle" ∧ y.cls ≠ "java/lang/invoke/VarHandle" ∧ (parseMethodDescriptor y.desc).map (fun d => d.parameters.length) = some n)
theorem cw_goodIn {y : MethodName} {cc : ByteArray} {nL : Nat} {ret : Option FieldType} (h : Cond.code y cc nL ret ∈ wd_tb) : GoodIn wd_tb (Cond.code y cc nL ret :: wd_tb) := by
  intro w hw
  rcases List.mem_cons.mp hw with rfl | hw
  · exact ⟨h, wd_good _ h⟩
  · exact ⟨hw, wd_good _ hw⟩
theorem cw_blind {ids : List Nat} {av : List Value} {g : wd_G} {sz : Nat} {σ : wd_S} {τ : wd_L} : FrameBlind (va_Pc av (cw_B ids g sz σ τ)) := fun a U f mk q => by
  obtain ⟨q0, q1, qP, qK, qD, qN, qn⟩ := q
  exact ⟨q0, q1, qP, va_K.moved (u := U) (U := U.calling f mk a) (Vm.Alike.refl U.vm) qK, qD, fun w hw => va_Nw.same (u := U) (U := U.calling f mk a) (cw_N_on (wd_nbN w hw)) rfl (qN w hw), qn⟩
section
variable {p : Program} {l : Launch} {e : Env} {R : Room} {s : State} {m : MethodId} {args : Array Value} {below : List Frame} {meth : Method} {c : Code} {A : Nat → Prop} {ids : List Nat} {g : wd_G} {cells slots : Nat} {G : State → Prop} {cc : ByteArray} {nL pc : Nat} {own : String} {ret : Option FieldType} {ls : List (Option Value)} {st : List Value} {σ : wd_S} {τ : wd_L}
theorem cw_pre (C : cw_C p s m args meth c A ids g cc nL own ret) {H : Heap} (hP : va_P g.2.1 wd_cl (wd_w ids g σ τ) H) (av : List Value) : ∀ U : State, U.heap = H → s.WarmedH U.vm → va_Pc (av.map (cw_v g.1)) (cw_B ids g H.size σ τ) (av.map (cw_v g.1)).toArray U := fun U hU hW =>
  ⟨rfl, by rw [hU], by rw [hU]; exact hP, va_K.moved hW.alike (cw_hK C), (cw_hD C σ τ).weaken (fun _ _ _ _ => trivial), fun w hw => cw_N_warm (wd_nbN w hw) hW (C.2.2.2.2.2.1 w hw), cw_hn C⟩
theorem cw_back (C : cw_C p s m args meth c A ids g cc nL own ret) {H : Heap} {locs : List Loc} {la : Array Slot} {mc ms : Nat} {st0 rest : List Value} {a : Array Value} {Q' : Option Value → wd_S → wd_L → Prop} (hP : va_P g.2.1 wd_cl (wd_w ids g σ τ) H) (hS : va_S A s.heap H locs)
    (hr : va_Run p l e R s m args below meth c H locs cells slots mc ms (F0 m pc la st0) rest (cw_Q ids g (va_A (wd_w ids g σ τ) H.size) Q' a) (va_A (wd_w ids g σ τ) H.size))
    (kk : ∀ (v : Option Value) (σ' : wd_S) (τ' : wd_L) (H1 : Heap) (locs1 : List Loc), Q' v σ' τ' → va_P g.2.1 wd_cl (wd_w ids g σ' τ') H1 → va_S A s.heap H1 locs1 → W p l e R s m args below meth c H1 locs1 (cells + mc) (slots + ms) G (F0 m (pc + 3) la ((v.map (cw_v g.1)).toList ++ rest))) :
    W p l e R s m args below meth c H locs cells slots G (F0 m pc la st0) := by
  have hF : ∀ q, va_A (wd_w ids g σ τ) H.size q → A q := fun q h => by
    rcases h with ⟨k, x, h⟩ | h
    · exact (cw_hD C σ τ).2 k _ h
    · exact cw_hA C q (Nat.le_trans hS.1 h)
  intro T hT X
  obtain ⟨v, st₀, t, T', L, h0, X', hL, e1, e2, ⟨⟨v', σ', τ', hv, hq, hb⟩, hz, hk⟩, stp⟩ := hr T hT X
  cases hv
  rw [h0] at hz hk
  rw [← e1] at hb hz
  obtain ⟨t2, a1, b1⟩ := kk v' σ' τ' T'.heap (locs ++ L) hq hb
    ⟨Nat.le_trans hS.1 hz, fun q h1 h2 => by rw [e1, hk q (Nat.lt_of_lt_of_le h1 hS.1) (fun z => h2 (hF q z))]; exact hS.2.1 q h1 h2, fun q hq => by
      rcases List.mem_append.mp hq with h | h
      · exact hS.2.2 q h
      · exact hF _ (hL q h)⟩ T' rfl X'
  exact ⟨t2, stp t2 a1, b1⟩
theorem cw_toList (ad : Nat → Nat) (v : Option Value) (st : List Value) : (v.map (cw_v ad)).toList ++ st.map (cw_v ad) = (v.toList ++ st).map (cw_v ad) := by cases v <;> rfl
theorem cw_dki {z : Int32} {σ1 : wd_S} {τ1 : wd_L} (kk : cw_W p l e R s m args below meth c A ids g cells slots G nL pc ls (.int z :: st) σ1 τ1) : ∀ (v : Option Value) (σ' : wd_S) (τ' : wd_L), (v = some (.int z) ∧ σ' = σ1 ∧ τ' = τ1) → cw_W p l e R s m args below meth c A ids g cells slots G nL pc ls (v.toList ++ st) σ' τ' := by
  rintro _ _ _ ⟨rfl, rfl, rfl⟩
  exact kk
theorem cw_dkr {z : Nat} {σ1 : wd_S} {τ1 : wd_L} (kk : cw_W p l e R s m args below meth c A ids g cells slots G nL pc ls (.ref z :: st) σ1 τ1) : ∀ (v : Option Value) (σ' : wd_S) (τ' : wd_L), (v = some (.ref z) ∧ σ' = σ1 ∧ τ' = τ1) → cw_W p l e R s m args below meth c A ids g cells slots G nL pc ls (v.toList ++ st) σ' τ' := by
  rintro _ _ _ ⟨rfl, rfl, rfl⟩
  exact kk
theorem cw_dkv {σ1 : wd_S} {τ1 : wd_L} (kk : cw_W p l e R s m args below meth c A ids g cells slots G nL pc ls st σ1 τ1) : ∀ (v : Option Value) (σ' : wd_S) (τ' : wd_L), (v = none ∧ σ' = σ1 ∧ τ' = τ1) → cw_W p l e R s m args below meth c A ids g cells slots G nL pc ls (v.toList ++ st) σ' τ' := by
  rintro _ _ _ ⟨rfl, rfl, rfl⟩
  exact kk
theorem cw_callV (C : cw_C p s m args meth c A ids g cc nL own ret) {y : MethodName} {cc' : ByteArray} {nL' n idx d mc ms ci N q : Nat} {ret' : Option FieldType} {fl : List (Nat × Nat)} {T : u_T} {ty0 : Nat → FieldType} {As stk : List Value} {Q' : Option Value → wd_S → wd_L → Prop} (K : cw_kV own idx y cc' nL' ret' n) (hc : wd_cls ci y.cls T N ty0) (hi : wd_is ids q (4, ci, fl))
    (hd : decode cc pc = .ok (.invokevirtual idx, 3)) (hs : stk = As.reverse ++ .ref q :: st) (hn : As.length = n) (hw : ((st.map (cw_v g.1)).map fun v => v.category).sum ≤ 8) (hR : d + 1 ≤ R.frames ∧ 8 + (nL' + 11) + 40 * d ≤ R.locals) (hf : cells + mc ≤ R.cells ∧ slots + ms ≤ R.slots)
    (hM : cw_M ids y cc' nL' ret' d mc ms (.ref q :: As) σ τ Q')
    (kk : ∀ (v : Option Value) (σ' : wd_S) (τ' : wd_L), Q' v σ' τ' → cw_W p l e R s m args below meth c A ids g (cells + mc) (slots + ms) G nL (pc + 3) ls (v.toList ++ st) σ' τ') : cw_W p l e R s m args below meth c A ids g cells slots G nL pc ls stk σ τ := by
  intro H locs la hl hP hS
  obtain ⟨i, hids⟩ := List.getElem?_of_mem hi.1
  have he := wd_at (ids := ids) (g := g) (σ := σ) (τ := τ) hids
  rw [wd_ce_o hi.2] at he
  obtain ⟨cell, hr1, hr2, hr3⟩ := va_recv (cw_hK C) hP hc.1 he
  have hts := cw_hts C
  refine cw_back C hP hS (va_runV (C := y.cls) (As := As.map (cw_v g.1)) (rest := st.map (cw_v g.1)) (n := n) ⟨C.1, C.2.1, C.2.2.1, C.2.2.2.1, hts⟩ (hM l g H.size) ⟨callB_of n hts (cw_goodIn K.2.2.2.2.1) rfl rfl rfl (hts _ K.2.2.2.1) (hts _ K.1) K.2.2.2.2.2 hR, hts _ K.2.1, hts _ K.2.2.1⟩ ⟨cw_blind, ⟨cell, hr1, hr2, hr3⟩, cw_pre C hP (.ref q :: As)⟩ rfl (by rw [List.length_map]; exact hn) hl.1 (by rw [hs]; simp [cw_v]) (lv_room hw) hd hf) ?_
  intro v σ' τ' H1 locs1 hq hP1 hS1
  rw [cw_toList]
  exact kk v σ' τ' hq H1 locs1 la hl hP1 hS1
theorem cw_callS (C : cw_C p s m args meth c A ids g cc nL own ret) {y : MethodName} {cc' : ByteArray} {nL' n idx d mc ms : Nat} {ret' : Option FieldType} {As stk : List Value} {Q' : Option Value → wd_S → wd_L → Prop} (K : cw_kS own idx y cc' nL' ret' n)
    (hd : decode cc pc = .ok (.invokestatic idx, 3)) (hs : stk = As.reverse ++ st) (hn : As.length = n) (hw : ((st.map (cw_v g.1)).map fun v => v.category).sum ≤ 8) (hR : d + 1 ≤ R.frames ∧ 8 + (nL' + 11) + 40 * d ≤ R.locals) (hf : cells + mc ≤ R.cells ∧ slots + ms ≤ R.slots)
    (hM : cw_M ids y cc' nL' ret' d mc ms As σ τ Q')
    (kk : ∀ (v : Option Value) (σ' : wd_S) (τ' : wd_L), Q' v σ' τ' → cw_W p l e R s m args below meth c A ids g (cells + mc) (slots + ms) G nL (pc + 3) ls (v.toList ++ st) σ' τ') : cw_W p l e R s m args below meth c A ids g cells slots G nL pc ls stk σ τ := by
  intro H locs la hl hP hS
  have hts := cw_hts C
  refine cw_back C hP hS (va_runS (As := As.map (cw_v g.1)) (rest := st.map (cw_v g.1)) (n := n) ⟨C.1, C.2.1, C.2.2.1, C.2.2.2.1, hts⟩ (hM l g H.size) ⟨callB_of n hts (cw_goodIn K.2.2.2.1) rfl rfl rfl (hts _ K.2.2.1) (hts _ K.1) K.2.2.2.2 hR, hts _ K.2.1⟩ ⟨cw_blind, cw_pre C hP As⟩ rfl (by rw [List.length_map]; exact hn) hl.1 (by rw [hs]; simp) (lv_room hw) hd hf) ?_
  intro v σ' τ' H1 locs1 hq hP1 hS1
  rw [cw_toList]
  exact kk v σ' τ' hq H1 locs1 la hl hP1 hS1
theorem cw_callSN (C : cw_C p s m args meth c A ids g cc nL own ret) {y : MethodName} {cc' : ByteArray} {nL' n idx d mc ms : Nat} {ret' : Option FieldType} {host : String} {As stk : List Value} {Q' : Option Value → wd_S → wd_L → Prop} (K : cw_kSN own idx y cc' nL' ret' n host)
    (hd : decode cc pc = .ok (.invokestatic idx, 3)) (hs : stk = As.reverse ++ st) (hn : As.length = n) (hw : ((st.map (cw_v g.1)).map fun v => v.category).sum ≤ 8) (hR : d + 1 ≤ R.frames ∧ 8 + (nL' + 11) + 40 * d ≤ R.locals) (hf : cells + mc ≤ R.cells ∧ slots + ms ≤ R.slots)
    (hM : cw_M ids y cc' nL' ret' d mc ms As σ τ Q')
    (kk : ∀ (v : Option Value) (σ' : wd_S) (τ' : wd_L), Q' v σ' τ' → cw_W p l e R s m args below meth c A ids g (cells + mc) (slots + ms) G nL (pc + 3) ls (v.toList ++ st) σ' τ') : cw_W p l e R s m args below meth c A ids g cells slots G nL pc ls stk σ τ := by
  intro H locs la hl hP hS
  have hts := cw_hts C
  refine cw_back C hP hS (va_runSN (As := As.map (cw_v g.1)) (rest := st.map (cw_v g.1)) (n := n) ⟨C.1, C.2.1, C.2.2.1, C.2.2.2.1, hts⟩ (hM l g H.size) ⟨va_cnB n hts (cw_goodIn K.2.2.2.1) rfl rfl rfl (C.2.2.2.2.2.1 _ K.1) (hts _ K.2.2.1) K.2.2.2.2 hR, hts _ K.2.1, trivial⟩ ⟨cw_blind, cw_pre C hP As⟩ rfl (by rw [List.length_map]; exact hn) hl.1 (by rw [hs]; simp) (lv_room hw) hd hf) ?_
  intro v σ' τ' H1 locs1 hq hP1 hS1
  rw [cw_toList]
  exact kk v σ' τ' hq H1 locs1 la hl hP1 hS1
end
