/-! the law: what each of its calls gives -/
/-- the script's int j, as a number -/
def la_y (xs : Nat → Int32) (j : Nat) : Nat := (xs j).toUInt32.toNat
theorem la_y_lt (xs : Nat → Int32) (j : Nat) : la_y xs j < 4294967296 := (xs j).toUInt32.toNat_lt
theorem la_y_eq (xs : Nat → Int32) (j : Nat) : nI (la_y xs j) = xs j := by
  unfold nI la_y
  apply Int32.toBitVec_inj.mp
  simp
theorem la_cmp (x : Int64) : lg_cmp x x = 0 := by
  unfold lg_cmp
  simp
/-- a call of the law's wrapper and then of the reference; k tells how the class ended -/
def la_T (bool : Bool) (as : List Value) (yW : MethodName) (cW : ByteArray) (nW : Nat) (hh : List (Nat × Nat × Nat × Nat)) (rt : Option FieldType) (yB : MethodName) (cB : ByteArray) (nB : Nat) (X : wx_S) : Prop :=
  ∃ (k mc ms d v : Nat) (X1 X2 : wx_S), k ≤ 2 ∧ mc ≤ 1 ∧ ms ≤ 6 ∧ d ≤ 7 ∧ ct_V yW cW nW hh 9 mc ms ([.ref 0] ++ as ++ [.ref 260]) X (fun w X' => w = some (.int (nI k)) ∧ X' = X1) ∧ nw_M wd_all yB cB nB rt d 0 0 (.ref 136 :: as) X1 (fun w X' => w = some (.int (nI v)) ∧ X' = X2) ∧ X2 136 0 = k ∧ rl_all X2 X2 ∧ (k = 0 → if bool = true then v ≤ 1 ∧ X2 260 0 = v else X2 260 0 = zl_ v)
theorem la_all {X : wx_S} (h : rl_all X X) (v : Nat) : rl_all (wx_u X 136 0 v) (wx_u X 136 0 v) := rl_all_A (rl_all_thr v h) (fun c k hc => wx_u_nc (by omega))
theorem la_good {bool : Bool} {as : List Value} {yW : MethodName} {cW : ByteArray} {nW : Nat} {hh : List (Nat × Nat × Nat × Nat)} {rt : Option FieldType} {yA : MethodName} {cA : ByteArray} {nA dA : Nat} {yB : MethodName} {cB : ByteArray} {nB dB : Nat} {X : wx_S} (hp : rl_pair rt as yA cA nA dA yB cB nB dB X) (hd : dB ≤ 7) (hrt : bool = true → rt = some .boolean) (out : Nat → Nat) (hout : ∀ v, (bool = true → v ≤ 1) → if bool = true then out v = v else out v = zl_ v)
    (hw : ∀ (v : Nat) (X1 : wx_S), (bool = true → v ≤ 1) → nw_M wd_all yA cA nA rt dA 0 0 (.ref 0 :: as) X (fun w X' => w = some (.int (nI v)) ∧ X' = X1) → ct_V yW cW nW hh 9 0 0 ([.ref 0] ++ as ++ [.ref 260]) X (fun w X' => w = some (.int (nI 0)) ∧ X' = wx_u X1 260 0 (out v))) : la_T bool as yW cW nW hh rt yB cB nB X := by
  obtain ⟨v, X1, hv, hA, -, hB⟩ := hp
  have hv' : bool = true → v ≤ 1 := fun h => hv (hrt h)
  obtain ⟨X2, m2, t2, o2, a2⟩ := hB (wx_u X1 260 0 (out v)) (fun c k hc => wx_u_nc hc)
  refine ⟨0, 0, 0, dB, v, _, X2, by decide, by decide, by decide, hd, hw v X1 hv' hA, m2, t2, a2, fun _ => ?_⟩
  have z := hout v hv'
  have w : X2 260 0 = out v := by rw [o2, wx_u_eq]
  cases bool with
  | true => exact ⟨hv' rfl, w.trans z⟩
  | false => exact w.trans z
theorem la_bad {bool : Bool} {as : List Value} {yW : MethodName} {cW : ByteArray} {nW : Nat} {hh : List (Nat × Nat × Nat × Nat)} {rt : Option FieldType} {yB : MethodName} {cB : ByteArray} {nB : Nat} {X : wx_S} (h : rl_all X X) (k : Nat) (hk : k = 1 ∨ k = 2) (v d : Nat) (hd : d ≤ 7) (hw : ct_V yW cW nW hh 9 1 6 ([.ref 0] ++ as ++ [.ref 260]) X (fun w X' => w = some (.int (nI k)) ∧ X' = X)) (hB : nw_M wd_all yB cB nB rt d 0 0 (.ref 136 :: as) X (fun w X' => w = some (.int (nI v)) ∧ X' = wx_u X 136 0 k)) : la_T bool as yW cW nW hh rt yB cB nB X :=
  ⟨k, 1, 6, d, v, X, wx_u X 136 0 k, by omega, by decide, by decide, hd, hw, hB, wx_u_eq _ _ _ _, la_all h k, fun h0 => by omega⟩
section
variable {X : wx_S} (h : rl_all X X) {n k a f t : Nat} (hn : n < 4294967296) (hk : k < 4294967296) (ha : a < 4294967296) (hf : f < 4294967296) (ht : t < 4294967296)
theorem la_submit (h : rl_all X X) (hn : n < 4294967296) (hf : f < 4294967296) (ht : t < 4294967296) (ha : a < 4294967296) : la_T false [.int (nI n), .int (nI f), .int (nI t), .int (nI a)] yy_La_submit cc_La_submit 7 hh_La_submit (some .int) yy_Mo_submit cc_Mo_submit 5 X := by
  by_cases hr : n < 4
  · by_cases hup : X (64 + n) 8 = 1
    · exact la_good (rl_p_submit h hr hf ht ha hup) (by decide) (fun e => by cases e) zl_ (fun v _ => rfl) (fun v X1 _ hA => ct_La_submit hA)
    · exact la_bad h 2 (Or.inr rfl) _ _ (by decide) (ct_La_submit_dn (ct_Le_submit_dn X n f t a hr (rl_hsa hr h.1) hup)) (mm_Mo_submit_dn X n hr f t a (rl_hst h.1) (by rw [← rl_up hr h.1]; exact hup))
  · exact la_bad h 1 (Or.inl rfl) _ _ (by decide) (ct_La_submit_bad (ct_Le_submit X n f t a hn (by omega))) (mm_Mo_submit_bad X n hn (by omega) f t a)
theorem la_pump (h : rl_all X X) (hn : n < 4294967296) (hk : k < 4294967296) : la_T false [.int (nI n), .int (nI k)] yy_La_pump cc_La_pump 5 hh_La_pump (some .int) yy_Mo_pump cc_Mo_pump 4 X := by
  by_cases hr : n < 4
  · by_cases hup : X (64 + n) 8 = 1
    · exact la_good (rl_p_pump h hr hk hup) (by decide) (fun e => by cases e) zl_ (fun v _ => rfl) (fun v X1 _ hA => ct_La_pump hA)
    · exact la_bad h 2 (Or.inr rfl) _ _ (by decide) (ct_La_pump_dn (ct_Le_pump_dn X n k hr (rl_hsa hr h.1) hup)) (mm_Mo_pump_dn X n hr k (rl_hst h.1) (by rw [← rl_up hr h.1]; exact hup))
  · exact la_bad h 1 (Or.inl rfl) _ _ (by decide) (ct_La_pump_bad (ct_Le_pump X n k hn (by omega))) (mm_Mo_pump_bad X n hn (by omega) k)
theorem la_deliver (h : rl_all X X) (hn : n < 4294967296) (hk : k < 4294967296) : la_T true [.int (nI k), .int (nI n)] yy_La_deliver cc_La_deliver 5 hh_La_deliver (some .boolean) yy_Mo_deliver cc_Mo_deliver 3 X := by
  by_cases hr : n < 4
  · exact la_good (rl_p_deliver h hr hk) (by decide) (fun _ => rfl) (fun v => v) (fun v _ => rfl) (fun v X1 hv hA => ct_La_deliver (hv rfl) hA)
  · exact la_bad h 1 (Or.inl rfl) _ _ (by decide) (ct_La_deliver_bad (ct_Le_deliver X n k hn (by omega))) (mm_Mo_deliver_bad X n hn (by omega) k)
theorem la_tick (h : rl_all X X) (hn : n < 4294967296) : la_T true [.int (nI n)] yy_La_tick cc_La_tick 4 hh_La_tick (some .boolean) yy_Mo_tick cc_Mo_tick 2 X := by
  by_cases hr : n < 4
  · exact la_good (rl_p_tick h hr) (by decide) (fun _ => rfl) (fun v => v) (fun v _ => rfl) (fun v X1 hv hA => ct_La_tick (hv rfl) hA)
  · exact la_bad h 1 (Or.inl rfl) _ _ (by decide) (ct_La_tick_bad (ct_Le_tick X n hn (by omega))) (mm_Mo_tick_bad X n hn (by omega))
theorem la_crash (h : rl_all X X) (hn : n < 4294967296) : la_T true [.int (nI n)] yy_La_crash cc_La_crash 4 hh_La_crash (some .boolean) yy_Mo_crash cc_Mo_crash 2 X := by
  by_cases hr : n < 4
  · exact la_good (rl_p_crash h hr) (by decide) (fun _ => rfl) (fun v => v) (fun v _ => rfl) (fun v X1 hv hA => ct_La_crash (hv rfl) hA)
  · exact la_bad h 1 (Or.inl rfl) _ _ (by decide) (ct_La_crash_bad (ct_Le_crash X n hn (by omega))) (mm_Mo_crash_bad X n hn (by omega))
theorem la_restart (h : rl_all X X) (hn : n < 4294967296) : la_T true [.int (nI n)] yy_La_restart cc_La_restart 4 hh_La_restart (some .boolean) yy_Mo_restart cc_Mo_restart 2 X := by
  by_cases hr : n < 4
  · exact la_good (rl_p_restart h hr) (by decide) (fun _ => rfl) (fun v => v) (fun v _ => rfl) (fun v X1 hv hA => ct_La_restart (hv rfl) hA)
  · exact la_bad h 1 (Or.inl rfl) _ _ (by decide) (ct_La_restart_bad (ct_Le_restart X n hn (by omega))) (mm_Mo_restart_bad X n hn (by omega))
theorem la_cut (h : rl_all X X) (hn : n < 4294967296) (hk : k < 4294967296) : la_T true [.int (nI n), .int (nI k)] yy_La_cut cc_La_cut 5 hh_La_cut (some .boolean) yy_Mo_cut cc_Mo_cut 3 X := by
  by_cases hr : n < 4
  · exact la_good (rl_p_cut h hr hk) (by decide) (fun _ => rfl) (fun v => v) (fun v _ => rfl) (fun v X1 hv hA => ct_La_cut (hv rfl) hA)
  · exact la_bad h 1 (Or.inl rfl) _ _ (by decide) (ct_La_cut_bad (ct_Le_cut X n k hn (by omega))) (mm_Mo_cut_bad X n hn (by omega) k)
theorem la_corrupt (h : rl_all X X) (hn : n < 4294967296) : la_T true [.int (nI n)] yy_La_corrupt cc_La_corrupt 4 hh_La_corrupt (some .boolean) yy_Mo_corrupt cc_Mo_corrupt 2 X := by
  by_cases hr : n < 4
  · exact la_good (rl_p_corrupt h hr) (by decide) (fun _ => rfl) (fun v => v) (fun v _ => rfl) (fun v X1 hv hA => ct_La_corrupt (hv rfl) hA)
  · exact la_bad h 1 (Or.inl rfl) _ _ (by decide) (ct_La_corrupt_bad (ct_Le_corrupt X n hn (by omega))) (mm_Mo_corrupt_bad X n hn (by omega))
theorem la_node (h : rl_all X X) (hn : n < 4294967296) (hk : k < 4294967296) : la_T false [.int (nI n), .int (nI k)] yy_La_node cc_La_node 5 hh_La_node (some .int) yy_Mo_node cc_Mo_node 5 X := by
  by_cases hr : n < 4
  · exact la_good (rl_p_node h hr hk) (by decide) (fun e => by cases e) zl_ (fun v _ => rfl) (fun v X1 _ hA => ct_La_node hA)
  · exact la_bad h 1 (Or.inl rfl) _ _ (by decide) (ct_La_node_bad (ct_Le_node X n k hn (by omega))) (mm_Mo_node_bad X n hn (by omega) k)
theorem la_dag (h : rl_all X X) (hn : n < 4294967296) (hk : k < 4294967296) (ha : a < 4294967296) : la_T false [.int (nI n), .int (nI k), .int (nI a)] yy_La_dag cc_La_dag 6 hh_La_dag (some .int) yy_Mo_dag cc_Mo_dag 4 X := by
  by_cases hr : n < 4
  · exact la_good (rl_p_dag h hr hk ha) (by decide) (fun e => by cases e) zl_ (fun v _ => rfl) (fun v X1 _ hA => ct_La_dag hA)
  · exact la_bad h 1 (Or.inl rfl) _ _ (by decide) (ct_La_dag_bad (ct_Le_dag X n k a hn (by omega))) (mm_Mo_dag_bad X n hn (by omega) k a)
theorem la_at (h : rl_all X X) (hn : n < 4294967296) (hk : k < 4294967296) : la_T false [.int (nI n), .int (nI k)] yy_La_at cc_La_at 5 hh_La_at (some .int) yy_Mo_at cc_Mo_at 3 X := by
  by_cases hr : n < 4
  · exact la_good (rl_p_at h hr hk) (by decide) (fun e => by cases e) zl_ (fun v _ => rfl) (fun v X1 _ hA => ct_La_at hA)
  · exact la_bad h 1 (Or.inl rfl) _ _ (by decide) (ct_La_at_bad (ct_Le_at X n k hn (by omega))) (mm_Mo_at_bad X n hn (by omega) k)
theorem la_balance (h : rl_all X X) (hn : n < 4294967296) (hk : k < 4294967296) : la_T false [.int (nI n), .int (nI k)] yy_La_balance cc_La_balance 5 hh_La_balance (some .int) yy_Mo_balance cc_Mo_balance 3 X := by
  by_cases hr : n < 4
  · exact la_good (rl_p_balance h hr hk) (by decide) (fun e => by cases e) zl_ (fun v _ => rfl) (fun v X1 _ hA => ct_La_balance hA)
  · exact la_bad h 1 (Or.inl rfl) _ _ (by decide) (ct_La_balance_bad (ct_Le_balance X n k hn (by omega))) (mm_Mo_balance_bad X n hn (by omega) k)
end
section
variable {p : Program} {l : Launch} {e : Env} {R : Room} {s : State} {m : MethodId} {args : Array Value} {below : List Frame} {meth : Method} {c : Code} {A : Nat → Prop} {ids : List Nat} {g : wd_G} {cells slots : Nat} {G : State → Prop} {cc : ByteArray} {nL pc : Nat} {own : String} {ret : Option FieldType} {ls : List (Option Value)} {st : List Value} {σ : wd_S} {τ : wd_L}
theorem cw_aload_nq (C : cw_C p s m args meth c A ids g cc nL own ret) {k0 : Fin 4} {x : Nat} (hd : decode cc pc = .ok (.aload_n k0, 1)) (h : ls[(k0 : Nat)]? = some (some (.retAddr x))) (k : cw_W p l e R s m args below meth c A ids g cells slots G nL (pc + 1) ls (.retAddr x :: st) σ τ) : cw_W p l e R s m args below meth c A ids g cells slots G nL pc ls st σ τ := fun H locs la hl hP hS => lv_aload_n C.1 C.2.1 hd rfl (hl.2.2 _ _ h).1 (k H locs la hl hP hS)
theorem nw_sld (C : cw_C p s m args meth c A ids g cc nL own ret) {b L j : Nat} {xs : Nat → Int32} (hX : va_X b L xs s s.heap) (hbl : b < s.heap.size) (hbA : ¬ A b) (hj : j < L) (hL : L ≤ 2560) (hd : decode cc pc = .ok (.iaload, 1)) (k : cw_W p l e R s m args below meth c A ids g cells slots G nL (pc + 1) ls (.int (nI (la_y xs j)) :: st) σ τ) : cw_W p l e R s m args below meth c A ids g cells slots G nL pc ls (.int (nI j) :: .retAddr b :: st) σ τ := fun H locs la hl hP hS =>
  va_sld C.1 C.2.1 hX hbl hbA hS (vp_in_nI hj (by omega)) hd (by rw [nI_clamp (by omega), ← la_y_eq xs j]; exact k H locs la hl hP hS)
theorem nw_slen (C : cw_C p s m args meth c A ids g cc nL own ret) {b L : Nat} {xs : Nat → Int32} (hX : va_X b L xs s s.heap) (hbl : b < s.heap.size) (hbA : ¬ A b) (hd : decode cc pc = .ok (.arraylength, 1)) (k : cw_W p l e R s m args below meth c A ids g cells slots G nL (pc + 1) ls (.int (nI L) :: st) σ τ) : cw_W p l e R s m args below meth c A ids g cells slots G nL pc ls (.retAddr b :: st) σ τ := fun H locs la hl hP hS =>
  va_slen C.1 C.2.1 hX hbl hbA hS hd (k H locs la hl hP hS)
/-- less is known of the locals -/
theorem cw_wk (ls' : List (Option Value)) (h : ∀ (i : Nat) (v : Value), ls'[i]? = some (some v) → ls[i]? = some (some v)) (k : cw_W p l e R s m args below meth c A ids g cells slots G nL pc ls' st σ τ) : cw_W p l e R s m args below meth c A ids g cells slots G nL pc ls st σ τ := fun H locs la hl hP hS => k H locs la ⟨hl.1, hl.2.1, fun i v hv => hl.2.2 i v (h i v hv)⟩ hP hS
theorem la_sub5 {L i : Nat} (hL : L ≤ 2560) (hi : i ≤ 2560) : nI L - nI 5 < nI i ↔ L < i + 5 := by
  by_cases h5 : 5 ≤ L
  · rw [pk_sub h5, wx_lt (by omega) (by omega)]; omega
  · have h0 : nI L - nI 5 < nI 0 := by
      rcases (show L = 0 ∨ L = 1 ∨ L = 2 ∨ L = 3 ∨ L = 4 by omega) with rfl | rfl | rfl | rfl | rfl <;> decide +kernel
    have h1 : nI 0 ≤ nI i := (wx_le (by decide) (by omega)).mpr (Nat.zero_le _)
    constructor
    · intro _; omega
    · intro _
      rw [Int32.lt_iff_toInt_lt] at h0 ⊢
      rw [Int32.le_iff_toInt_le] at h1
      omega
end
