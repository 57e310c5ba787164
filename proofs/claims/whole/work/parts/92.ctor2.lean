/-! Arrays.fill on a new array, and the constructors of the class (written by wip/whole/m42.py) -/
theorem kw_fill {p : Program} {l : Launch} {e : Env} {R : Room} {s : State} {m : MethodId} {args : Array Value} {below : List Frame} {meth : Method} {c : Code} {A : Nat → Prop} {g : wd_G} {cells slots : Nat} {G : State → Prop} {cc : ByteArray} {nL pc : Nat} {own : String} {ret : Option FieldType} {ls : List (Option Value)} {st : List Value} {V : va_W}
    (C : kw_C p s m args meth c A g cc nL own ret) (i : Nat) {b n val c0 idx : Nat} (hc0 : wd_is [c0] c0 (0, n, [])) (hn : n < 100000) (hb : V[i]? = some (b, .inl (g.2.2 0, n, .inl (fun _ => 0)))) (K : cw_kS own idx yy_Ar_fill cc_Ar_fill 4 none 2) (hd : decode cc pc = .ok (.invokestatic idx, 3)) (hw : ((st.map (cw_v (fun x => x))).map fun v => v.category).sum ≤ 8) (hR : 2 ≤ R.frames ∧ 63 ≤ R.locals) (hf : cells ≤ R.cells ∧ slots ≤ R.slots)
    (kk : kw_W p l e R s m args below meth c A g (V.set i (b, .inl (g.2.2 0, n, .inl (fun k => nI (if k < n then val else 0))))) cells slots G nL (pc + 3) ls st) : kw_W p l e R s m args below meth c A g V cells slots G nL pc ls (.int (nI val) :: .ref b :: st) := by
  intro H locs la hl hP hD hS
  have hts := C.2.2.2.2.1
  have e0 : wd_w [c0] ((fun _ => b, g.2) : wd_G) (wx_e (fun _ _ => 0)) (wx_l (fun _ _ => 0)) = [(b, .inl (g.2.2 0, n, .inl (fun _ => 0)))] := by
    show [(b, wd_ce ((fun _ => b, g.2) : wd_G) (wx_e (fun _ _ => 0)) (wx_l (fun _ _ => 0)) c0)] = _
    rw [wd_ce_i hc0.2]; rfl
  have hrun : va_Run p l e R s m args below meth c H locs cells slots 0 0 (F0 m pc la ((Value.int (nI val) :: .ref b :: st).map (cw_v (fun x => x)))) (st.map (cw_v (fun x => x))) (cw_Q [c0] ((fun _ => b, g.2) : wd_G) (va_A (wd_w [c0] ((fun _ => b, g.2) : wd_G) (wx_e (fun _ _ => 0)) (wx_l (fun _ _ => 0))) H.size) (fun v σ' τ' => ∃ X' : wx_S, σ' = wx_e X' ∧ τ' = wx_l X' ∧ (v = none ∧ X' = zz_fill (fun _ _ => 0) c0 n val)) ([Value.ref b, .int (nI val)] : List Value).toArray) (va_A (wd_w [c0] ((fun _ => b, g.2) : wd_G) (wx_e (fun _ _ => 0)) (wx_l (fun _ _ => 0))) H.size) := by
    refine va_runS (As := [Value.ref b, .int (nI val)]) (rest := st.map (cw_v (fun x => x))) (n := 2) ⟨C.1, C.2.1, C.2.2.1, C.2.2.2.1, hts⟩ (mm_Ar_fill (ids := [c0]) (fun _ _ => 0) c0 n val [] hc0 (by omega) l ((fun _ => b, g.2) : wd_G) H.size) ⟨callB_of 2 hts (cw_goodIn K.2.2.2.1) rfl rfl rfl (hts _ K.2.2.1) (hts _ K.1) K.2.2.2.2 ⟨by show 1 + 1 ≤ _; exact hR.1, by show 8 + (4 + 11) + 40 * 1 ≤ _; exact hR.2⟩, hts _ K.2.1⟩ ⟨cw_blind, fun U hU hW => ⟨rfl, by rw [hU], ?_, va_K.moved hW.alike C.2.2.2.2.2.2.1, ?_, fun w hw => cw_N_warm (wd_nbN w hw) hW (C.2.2.2.2.2.1 w hw), by simp⟩⟩ rfl rfl hl.1 rfl (lv_room hw) hd ⟨by rw [Nat.add_zero]; exact hf.1, by rw [Nat.add_zero]; exact hf.2⟩
    · rw [e0, hU]
      intro k q hq
      cases k with
      | zero => simp at hq; subst hq; exact hP _ _ hb
      | succ k => simp at hq
    · rw [e0]
      refine ⟨fun i j a b' ha hb' hab => ?_, fun _ _ _ => trivial⟩
      cases i with
      | zero => cases j with
        | zero => rfl
        | succ j => simp at hb'
      | succ i => simp at ha
  have hF : ∀ q, va_A (wd_w [c0] ((fun _ => b, g.2) : wd_G) (wx_e (fun _ _ => 0)) (wx_l (fun _ _ => 0))) H.size q → (q = b ∨ H.size ≤ q) := fun q h => by
    rw [e0] at h
    rcases h with ⟨k, z, h⟩ | h
    · cases k with
      | zero => simp at h; exact Or.inl h.1.symm
      | succ k => simp at h
    · exact Or.inr h
  have hAF : ∀ q, (q = b ∨ H.size ≤ q) → A q := fun q h => by
    rcases h with rfl | h
    · exact hD.2 _ _ hb
    · exact C.2.2.2.2.2.2.2.1 q (Nat.le_trans hS.1 h)
  intro T hT X
  obtain ⟨v, st₀, t, T', L, h0, X', hL, e1, e2, ⟨⟨v', σ', τ', hv, ⟨X1, rfl, rfl, rfl, rfl⟩, hP1⟩, hz, hk⟩, stp⟩ := hrun T hT X
  cases hv
  rw [h0] at hz hk
  have e9 : wd_w [c0] ((fun _ => b, g.2) : wd_G) (wx_e (zz_fill (fun _ _ => 0) c0 n val)) (wx_l (zz_fill (fun _ _ => 0) c0 n val)) = [(b, .inl (g.2.2 0, n, .inl (fun k => nI (if k < n then val else 0))))] := by
    show [(b, wd_ce ((fun _ => b, g.2) : wd_G) _ _ c0)] = _
    rw [wd_ce_i hc0.2]
    have e8 : wx_e (zz_fill (fun _ _ => 0) c0 n val) c0 = fun k => nI (if k < n then val else 0) := by
      funext k; simp [wx_e, zz_fill]
    rw [e8]
  rw [e9] at hP1
  have hkeep : ∀ q, q < H.size → q ≠ b → T'.heap[q]? = H[q]? := fun q h1 h2 => by
    rw [e1]; exact hk q h1 (fun z => by rcases hF q z with h | h <;> omega)
  have hlt : ∀ (k : Nat) (q : Nat × va_E), V[k]? = some q → q.1 < H.size := fun k q hq => (hP k q hq).lt
  have hil : i < V.length := (List.getElem?_eq_some_iff.mp hb).1
  have hPj : va_P g.2.1 wd_cl (V.set i (b, .inl (g.2.2 0, n, .inl (fun k => nI (if k < n then val else 0))))) T'.heap := by
    intro k q hq
    by_cases hki : i = k
    · subst hki
      rw [List.getElem?_set_self hil] at hq
      cases hq
      rw [e1]
      exact hP1 0 _ rfl
    · rw [List.getElem?_set_ne hki] at hq
      refine (hP k q hq).kept (hkeep q.1 (hlt k q hq) (fun z => hki ?_))
      exact (hD.1 k i q _ hq hb z).symm
  have hDj : va_D A (V.set i (b, .inl (g.2.2 0, n, .inl (fun k => nI (if k < n then val else 0))))) := by
    have key : ∀ (k : Nat) (q : Nat × va_E), (V.set i (b, .inl (g.2.2 0, n, .inl (fun k => nI (if k < n then val else 0)))))[k]? = some q → ∃ q', V[k]? = some q' ∧ q'.1 = q.1 := fun k q hq => by
      by_cases hki : i = k
      · subst hki
        rw [List.getElem?_set_self hil] at hq
        cases hq
        exact ⟨_, hb, rfl⟩
      · rw [List.getElem?_set_ne hki] at hq
        exact ⟨q, hq, rfl⟩
    refine ⟨fun i' j' a1 b1 ha hb' hab => ?_, fun k q hq => ?_⟩
    · obtain ⟨a2, ha2, ea⟩ := key i' a1 ha
      obtain ⟨b2, hb2, eb⟩ := key j' b1 hb'
      exact hD.1 i' j' a2 b2 ha2 hb2 (by rw [ea, eb]; exact hab)
    · obtain ⟨q', h1, h2⟩ := key k q hq
      rw [← h2]; exact hD.2 k q' h1
  obtain ⟨t2, a1, b1⟩ := kk T'.heap (locs ++ L) la hl hPj hDj
    ⟨by rw [e1]; exact Nat.le_trans hS.1 hz, fun q h1 h2 => by rw [hkeep q (Nat.lt_of_lt_of_le h1 hS.1) (fun z => h2 (hAF q (Or.inl z)))]; exact hS.2.1 q h1 h2, fun q hq => by
      rcases List.mem_append.mp hq with h | h
      · exact hS.2.2 q h
      · exact hAF _ (hF _ (hL q h))⟩ T' rfl (by simpa using X')
  exact ⟨t2, stp t2 a1, b1⟩
theorem ko_inst : Cond.instanceMethod Lib.objectInit ∈ wd_tb := ct_w (by decide +kernel) (by decide +kernel)
theorem ko_code : Cond.code Lib.objectInit ⟨#[0xb1]⟩ 1 none ∈ wd_tb := ct_w (by decide +kernel) (by decide +kernel)
theorem ko_ai : Cond.arrayClass .int ∈ wd_tb := ct_w (by decide +kernel) (by decide +kernel)
theorem ko_az : Cond.arrayClass .boolean ∈ wd_tb := ct_w (by decide +kernel) (by decide +kernel)
theorem ko_al : Cond.arrayClass .long ∈ wd_tb := ct_w (by decide +kernel) (by decide +kernel)
theorem ko_Tr : Cond.methodLink "DagLedger$Transfers" 3 Lib.objectInit ∈ wd_tb := ct_w (by decide +kernel) (by decide +kernel)
set_option maxRecDepth 100000 in
set_option maxHeartbeats 4000000 in
theorem kc_Tr (a : Nat) : kw_M yy_Tr_init cc_Tr_init 1 1 3 120 [.ref a] [(a, .inr (1, [.null, .null, .null, .int 0]))] (fun g V' => ∃ b0 b1 b2 : Nat, V' = [(a, .inr (1, [.ref b0, .ref b1, .ref b2, .int 0])), (b0, .inl (g.2.2 0, 40, .inl (fun _ => 0))), (b1, .inl (g.2.2 0, 40, .inl (fun _ => 0))), (b2, .inl (g.2.2 0, 40, .inl (fun _ => 0)))]) := by
  refine kw_M.of [some (.ref a)] (by decide +kernel) rfl rfl (Nat.le_of_ble_eq_true rfl) rfl ?_
  intro p l e s m args below meth c A g C hin
  refine kw_aload_n C dd_Tr_init_0 rfl ?_
  refine kw_objInit C ko_Tr ko_inst ko_code dd_Tr_init_1 ⟨(Nat.le_of_ble_eq_true rfl), (Nat.le_of_ble_eq_true rfl)⟩ (Nat.le_of_ble_eq_true rfl) ?_
  refine kw_aload_n C dd_Tr_init_4 rfl ?_
  refine kw_bipush (v := nI 40) C dd_Tr_init_5 (by decide +kernel) ?_
  refine kw_newi (N := 40) C (by decide) ko_ai ⟨(Nat.le_of_ble_eq_true rfl), (Nat.le_of_ble_eq_true rfl)⟩ dd_Tr_init_7 (fun b0 => ?_)
  refine kw_putF C hin 0 wc_1 kF_Tr_9 rfl (by decide) rfl rfl rfl rfl rfl (Nat.le_of_ble_eq_true rfl) dd_Tr_init_9 ?_
  refine kw_aload_n C dd_Tr_init_12 rfl ?_
  refine kw_bipush (v := nI 40) C dd_Tr_init_13 (by decide +kernel) ?_
  refine kw_newi (N := 40) C (by decide) ko_ai ⟨(Nat.le_of_ble_eq_true rfl), (Nat.le_of_ble_eq_true rfl)⟩ dd_Tr_init_15 (fun b1 => ?_)
  refine kw_putF C hin 0 wc_1 kF_Tr_15 rfl (by decide) rfl rfl rfl rfl rfl (Nat.le_of_ble_eq_true rfl) dd_Tr_init_17 ?_
  refine kw_aload_n C dd_Tr_init_20 rfl ?_
  refine kw_bipush (v := nI 40) C dd_Tr_init_21 (by decide +kernel) ?_
  refine kw_newi (N := 40) C (by decide) ko_ai ⟨(Nat.le_of_ble_eq_true rfl), (Nat.le_of_ble_eq_true rfl)⟩ dd_Tr_init_23 (fun b2 => ?_)
  refine kw_putF C hin 0 wc_1 kF_Tr_18 rfl (by decide) rfl rfl rfl rfl rfl (Nat.le_of_ble_eq_true rfl) dd_Tr_init_25 ?_
  exact kw_vret C dd_Tr_init_28 (Nat.le_of_ble_eq_true rfl) (Nat.le_of_ble_eq_true rfl) ⟨b0, b1, b2, rfl⟩
theorem ko_Ve : Cond.methodLink "DagLedger$Vertices" 3 Lib.objectInit ∈ wd_tb := ct_w (by decide +kernel) (by decide +kernel)
set_option maxRecDepth 100000 in
set_option maxHeartbeats 4000000 in
theorem kc_Ve (a : Nat) : kw_M yy_Ve_init cc_Ve_init 1 1 5 450 [.ref a] [(a, .inr (2, [.null, .null, .null, .null, .null, .int 0]))] (fun g V' => ∃ b0 b1 b2 b3 b4 : Nat, V' = [(a, .inr (2, [.ref b0, .ref b1, .ref b2, .ref b3, .ref b4, .int 0])), (b0, .inl (g.2.2 0, 90, .inl (fun _ => 0))), (b1, .inl (g.2.2 0, 90, .inl (fun _ => 0))), (b2, .inl (g.2.2 0, 90, .inl (fun _ => 0))), (b3, .inl (g.2.2 0, 90, .inl (fun _ => 0))), (b4, .inl (g.2.2 0, 90, .inl (fun _ => 0)))]) := by
  refine kw_M.of [some (.ref a)] (by decide +kernel) rfl rfl (Nat.le_of_ble_eq_true rfl) rfl ?_
  intro p l e s m args below meth c A g C hin
  refine kw_aload_n C dd_Ve_init_0 rfl ?_
  refine kw_objInit C ko_Ve ko_inst ko_code dd_Ve_init_1 ⟨(Nat.le_of_ble_eq_true rfl), (Nat.le_of_ble_eq_true rfl)⟩ (Nat.le_of_ble_eq_true rfl) ?_
  refine kw_aload_n C dd_Ve_init_4 rfl ?_
  refine kw_bipush (v := nI 90) C dd_Ve_init_5 (by decide +kernel) ?_
  refine kw_newi (N := 90) C (by decide) ko_ai ⟨(Nat.le_of_ble_eq_true rfl), (Nat.le_of_ble_eq_true rfl)⟩ dd_Ve_init_7 (fun b0 => ?_)
  refine kw_putF C hin 0 wc_5 kF_Ve_9 rfl (by decide) rfl rfl rfl rfl rfl (Nat.le_of_ble_eq_true rfl) dd_Ve_init_9 ?_
  refine kw_aload_n C dd_Ve_init_12 rfl ?_
  refine kw_bipush (v := nI 90) C dd_Ve_init_13 (by decide +kernel) ?_
  refine kw_newi (N := 90) C (by decide) ko_ai ⟨(Nat.le_of_ble_eq_true rfl), (Nat.le_of_ble_eq_true rfl)⟩ dd_Ve_init_15 (fun b1 => ?_)
  refine kw_putF C hin 0 wc_5 kF_Ve_15 rfl (by decide) rfl rfl rfl rfl rfl (Nat.le_of_ble_eq_true rfl) dd_Ve_init_17 ?_
  refine kw_aload_n C dd_Ve_init_20 rfl ?_
  refine kw_bipush (v := nI 90) C dd_Ve_init_21 (by decide +kernel) ?_
  refine kw_newi (N := 90) C (by decide) ko_ai ⟨(Nat.le_of_ble_eq_true rfl), (Nat.le_of_ble_eq_true rfl)⟩ dd_Ve_init_23 (fun b2 => ?_)
  refine kw_putF C hin 0 wc_5 kF_Ve_18 rfl (by decide) rfl rfl rfl rfl rfl (Nat.le_of_ble_eq_true rfl) dd_Ve_init_25 ?_
  refine kw_aload_n C dd_Ve_init_28 rfl ?_
  refine kw_bipush (v := nI 90) C dd_Ve_init_29 (by decide +kernel) ?_
  refine kw_newi (N := 90) C (by decide) ko_ai ⟨(Nat.le_of_ble_eq_true rfl), (Nat.le_of_ble_eq_true rfl)⟩ dd_Ve_init_31 (fun b3 => ?_)
  refine kw_putF C hin 0 wc_5 kF_Ve_21 rfl (by decide) rfl rfl rfl rfl rfl (Nat.le_of_ble_eq_true rfl) dd_Ve_init_33 ?_
  refine kw_aload_n C dd_Ve_init_36 rfl ?_
  refine kw_bipush (v := nI 90) C dd_Ve_init_37 (by decide +kernel) ?_
  refine kw_newi (N := 90) C (by decide) ko_ai ⟨(Nat.le_of_ble_eq_true rfl), (Nat.le_of_ble_eq_true rfl)⟩ dd_Ve_init_39 (fun b4 => ?_)
  refine kw_putF C hin 0 wc_5 kF_Ve_24 rfl (by decide) rfl rfl rfl rfl rfl (Nat.le_of_ble_eq_true rfl) dd_Ve_init_41 ?_
  exact kw_vret C dd_Ve_init_44 (Nat.le_of_ble_eq_true rfl) (Nat.le_of_ble_eq_true rfl) ⟨b0, b1, b2, b3, b4, rfl⟩
theorem ko_Bo : Cond.methodLink "DagLedger$Board" 3 Lib.objectInit ∈ wd_tb := ct_w (by decide +kernel) (by decide +kernel)
set_option maxRecDepth 100000 in
set_option maxHeartbeats 4000000 in
theorem kc_Bo (a : Nat) : kw_M yy_Bo_init cc_Bo_init 1 1 3 2406 [.ref a] [(a, .inr (3, [.null, .null, .null, .int 0]))] (fun g V' => ∃ b0 b1 b2 : Nat, V' = [(a, .inr (3, [.ref b0, .ref b1, .ref b2, .int 0])), (b0, .inl (g.2.2 0, 802, .inl (fun _ => 0))), (b1, .inl (g.2.2 0, 802, .inl (fun _ => 0))), (b2, .inl (g.2.2 0, 802, .inl (fun _ => 0)))]) := by
  refine kw_M.of [some (.ref a)] (by decide +kernel) rfl rfl (Nat.le_of_ble_eq_true rfl) rfl ?_
  intro p l e s m args below meth c A g C hin
  refine kw_aload_n C dd_Bo_init_0 rfl ?_
  refine kw_objInit C ko_Bo ko_inst ko_code dd_Bo_init_1 ⟨(Nat.le_of_ble_eq_true rfl), (Nat.le_of_ble_eq_true rfl)⟩ (Nat.le_of_ble_eq_true rfl) ?_
  refine kw_aload_n C dd_Bo_init_4 rfl ?_
  refine kw_sipush (v := nI 802) C dd_Bo_init_5 (by decide +kernel) ?_
  refine kw_newi (N := 802) C (by decide) ko_ai ⟨(Nat.le_of_ble_eq_true rfl), (Nat.le_of_ble_eq_true rfl)⟩ dd_Bo_init_8 (fun b0 => ?_)
  refine kw_putF C hin 0 wc_11 kF_Bo_9 rfl (by decide) rfl rfl rfl rfl rfl (Nat.le_of_ble_eq_true rfl) dd_Bo_init_10 ?_
  refine kw_aload_n C dd_Bo_init_13 rfl ?_
  refine kw_sipush (v := nI 802) C dd_Bo_init_14 (by decide +kernel) ?_
  refine kw_newi (N := 802) C (by decide) ko_ai ⟨(Nat.le_of_ble_eq_true rfl), (Nat.le_of_ble_eq_true rfl)⟩ dd_Bo_init_17 (fun b1 => ?_)
  refine kw_putF C hin 0 wc_11 kF_Bo_15 rfl (by decide) rfl rfl rfl rfl rfl (Nat.le_of_ble_eq_true rfl) dd_Bo_init_19 ?_
  refine kw_aload_n C dd_Bo_init_22 rfl ?_
  refine kw_sipush (v := nI 802) C dd_Bo_init_23 (by decide +kernel) ?_
  refine kw_newi (N := 802) C (by decide) ko_ai ⟨(Nat.le_of_ble_eq_true rfl), (Nat.le_of_ble_eq_true rfl)⟩ dd_Bo_init_26 (fun b2 => ?_)
  refine kw_putF C hin 0 wc_11 kF_Bo_18 rfl (by decide) rfl rfl rfl rfl rfl (Nat.le_of_ble_eq_true rfl) dd_Bo_init_28 ?_
  exact kw_vret C dd_Bo_init_31 (Nat.le_of_ble_eq_true rfl) (Nat.le_of_ble_eq_true rfl) ⟨b0, b1, b2, rfl⟩
theorem ko_Di : Cond.methodLink "DagLedger$Disk" 3 Lib.objectInit ∈ wd_tb := ct_w (by decide +kernel) (by decide +kernel)
set_option maxRecDepth 100000 in
set_option maxHeartbeats 4000000 in
theorem kc_Di (a : Nat) : kw_M yy_Di_init cc_Di_init 1 1 3 48 [.ref a] [(a, .inr (5, [.null, .int 0, .int 0, .null, .null, .int 0, .int 0]))] (fun g V' => ∃ b0 b1 b2 : Nat, V' = [(a, .inr (5, [.ref b0, .int 0, .int 0, .ref b1, .ref b2, .int 0, .int 0])), (b0, .inl (g.2.2 0, 40, .inl (fun _ => 0))), (b1, .inl (g.2.2 0, 4, .inl (fun _ => 0))), (b2, .inl (g.2.2 0, 4, .inl (fun _ => 0)))]) := by
  refine kw_M.of [some (.ref a)] (by decide +kernel) rfl rfl (Nat.le_of_ble_eq_true rfl) rfl ?_
  intro p l e s m args below meth c A g C hin
  refine kw_aload_n C dd_Di_init_0 rfl ?_
  refine kw_objInit C ko_Di ko_inst ko_code dd_Di_init_1 ⟨(Nat.le_of_ble_eq_true rfl), (Nat.le_of_ble_eq_true rfl)⟩ (Nat.le_of_ble_eq_true rfl) ?_
  refine kw_aload_n C dd_Di_init_4 rfl ?_
  refine kw_bipush (v := nI 40) C dd_Di_init_5 (by decide +kernel) ?_
  refine kw_newi (N := 40) C (by decide) ko_ai ⟨(Nat.le_of_ble_eq_true rfl), (Nat.le_of_ble_eq_true rfl)⟩ dd_Di_init_7 (fun b0 => ?_)
  refine kw_putF C hin 0 wc_17 kF_Di_9 rfl (by decide) rfl rfl rfl rfl rfl (Nat.le_of_ble_eq_true rfl) dd_Di_init_9 ?_
  refine kw_aload_n C dd_Di_init_12 rfl ?_
  refine kw_iconst (v := nI 4) C dd_Di_init_13 (by decide +kernel) ?_
  refine kw_newi (N := 4) C (by decide) ko_ai ⟨(Nat.le_of_ble_eq_true rfl), (Nat.le_of_ble_eq_true rfl)⟩ dd_Di_init_14 (fun b1 => ?_)
  refine kw_putF C hin 0 wc_17 kF_Di_15 rfl (by decide) rfl rfl rfl rfl rfl (Nat.le_of_ble_eq_true rfl) dd_Di_init_16 ?_
  refine kw_aload_n C dd_Di_init_19 rfl ?_
  refine kw_iconst (v := nI 4) C dd_Di_init_20 (by decide +kernel) ?_
  refine kw_newi (N := 4) C (by decide) ko_ai ⟨(Nat.le_of_ble_eq_true rfl), (Nat.le_of_ble_eq_true rfl)⟩ dd_Di_init_21 (fun b2 => ?_)
  refine kw_putF C hin 0 wc_17 kF_Di_18 rfl (by decide) rfl rfl rfl rfl rfl (Nat.le_of_ble_eq_true rfl) dd_Di_init_23 ?_
  exact kw_vret C dd_Di_init_26 (Nat.le_of_ble_eq_true rfl) (Nat.le_of_ble_eq_true rfl) ⟨b0, b1, b2, rfl⟩
theorem ko_No : Cond.methodLink "DagLedger$Notes" 3 Lib.objectInit ∈ wd_tb := ct_w (by decide +kernel) (by decide +kernel)
set_option maxRecDepth 100000 in
set_option maxHeartbeats 4000000 in
theorem kc_No (a : Nat) : kw_M yy_No_init cc_No_init 1 1 3 270 [.ref a] [(a, .inr (6, [.null, .null, .null, .int 0]))] (fun g V' => ∃ b0 b1 b2 : Nat, V' = [(a, .inr (6, [.ref b0, .ref b1, .ref b2, .int 0])), (b0, .inl (g.2.2 0, 90, .inl (fun _ => 0))), (b1, .inl (g.2.2 0, 90, .inl (fun _ => 0))), (b2, .inl (g.2.2 0, 90, .inl (fun _ => 0)))]) := by
  refine kw_M.of [some (.ref a)] (by decide +kernel) rfl rfl (Nat.le_of_ble_eq_true rfl) rfl ?_
  intro p l e s m args below meth c A g C hin
  refine kw_aload_n C dd_No_init_0 rfl ?_
  refine kw_objInit C ko_No ko_inst ko_code dd_No_init_1 ⟨(Nat.le_of_ble_eq_true rfl), (Nat.le_of_ble_eq_true rfl)⟩ (Nat.le_of_ble_eq_true rfl) ?_
  refine kw_aload_n C dd_No_init_4 rfl ?_
  refine kw_bipush (v := nI 90) C dd_No_init_5 (by decide +kernel) ?_
  refine kw_newi (N := 90) C (by decide) ko_ai ⟨(Nat.le_of_ble_eq_true rfl), (Nat.le_of_ble_eq_true rfl)⟩ dd_No_init_7 (fun b0 => ?_)
  refine kw_putF C hin 0 wc_21 kF_No_9 rfl (by decide) rfl rfl rfl rfl rfl (Nat.le_of_ble_eq_true rfl) dd_No_init_9 ?_
  refine kw_aload_n C dd_No_init_12 rfl ?_
  refine kw_bipush (v := nI 90) C dd_No_init_13 (by decide +kernel) ?_
  refine kw_newi (N := 90) C (by decide) ko_ai ⟨(Nat.le_of_ble_eq_true rfl), (Nat.le_of_ble_eq_true rfl)⟩ dd_No_init_15 (fun b1 => ?_)
  refine kw_putF C hin 0 wc_21 kF_No_15 rfl (by decide) rfl rfl rfl rfl rfl (Nat.le_of_ble_eq_true rfl) dd_No_init_17 ?_
  refine kw_aload_n C dd_No_init_20 rfl ?_
  refine kw_bipush (v := nI 90) C dd_No_init_21 (by decide +kernel) ?_
  refine kw_newi (N := 90) C (by decide) ko_ai ⟨(Nat.le_of_ble_eq_true rfl), (Nat.le_of_ble_eq_true rfl)⟩ dd_No_init_23 (fun b2 => ?_)
  refine kw_putF C hin 0 wc_21 kF_No_18 rfl (by decide) rfl rfl rfl rfl rfl (Nat.le_of_ble_eq_true rfl) dd_No_init_25 ?_
  exact kw_vret C dd_No_init_28 (Nat.le_of_ble_eq_true rfl) (Nat.le_of_ble_eq_true rfl) ⟨b0, b1, b2, rfl⟩
theorem ko_Dg : Cond.methodLink "DagLedger$Dag" 3 Lib.objectInit ∈ wd_tb := ct_w (by decide +kernel) (by decide +kernel)
set_option maxRecDepth 100000 in
set_option maxHeartbeats 4000000 in
theorem kc_Dg (a vt : Nat) : kw_M yy_Dg_init cc_Dg_init 2 2 2 80 [.ref a, .ref vt] [(a, .inr (7, [.null, .null, .null, .int 0]))] (fun g V' => ∃ b0 b1 : Nat, V' = [(a, .inr (7, [.ref vt, .ref b0, .ref b1, .int 0])), (b0, .inl (g.2.2 0, 64, .inl (fun k => nI (if k < 64 then 4294967295 else 0)))), (b1, .inl (g.2.2 0, 16, .inl (fun _ => 0)))]) := by
  refine kw_M.of [some (.ref a), some (.ref vt)] (by decide +kernel) rfl rfl (Nat.le_of_ble_eq_true rfl) rfl ?_
  intro p l e s m args below meth c A g C hin
  refine kw_aload_n C dd_Dg_init_0 rfl ?_
  refine kw_objInit C ko_Dg ko_inst ko_code dd_Dg_init_1 ⟨(Nat.le_of_ble_eq_true rfl), (Nat.le_of_ble_eq_true rfl)⟩ (Nat.le_of_ble_eq_true rfl) ?_
  refine kw_aload_n C dd_Dg_init_4 rfl ?_
  refine kw_bipush (v := nI 64) C dd_Dg_init_5 (by decide +kernel) ?_
  refine kw_newi (N := 64) C (by decide) ko_ai ⟨(Nat.le_of_ble_eq_true rfl), (Nat.le_of_ble_eq_true rfl)⟩ dd_Dg_init_7 (fun b0 => ?_)
  refine kw_putF C hin 0 wc_25 kF_Dg_9 rfl (by decide) rfl rfl rfl rfl rfl (Nat.le_of_ble_eq_true rfl) dd_Dg_init_9 ?_
  refine kw_aload_n C dd_Dg_init_12 rfl ?_
  refine kw_bipush (v := nI 16) C dd_Dg_init_13 (by decide +kernel) ?_
  refine kw_newi (N := 16) C (by decide) ko_ai ⟨(Nat.le_of_ble_eq_true rfl), (Nat.le_of_ble_eq_true rfl)⟩ dd_Dg_init_15 (fun b1 => ?_)
  refine kw_putF C hin 0 wc_25 kF_Dg_15 rfl (by decide) rfl rfl rfl rfl rfl (Nat.le_of_ble_eq_true rfl) dd_Dg_init_17 ?_
  refine kw_aload_n C dd_Dg_init_20 rfl ?_
  refine kw_aload_n C dd_Dg_init_21 rfl ?_
  refine kw_putF C hin 0 wc_25 kF_Dg_18 rfl (by decide) rfl rfl rfl rfl rfl (Nat.le_of_ble_eq_true rfl) dd_Dg_init_22 ?_
  refine kw_aload_n C dd_Dg_init_25 rfl ?_
  refine kw_get C 0 wc_25 kF_Dg_9 rfl (by decide) rfl rfl dd_Dg_init_26 ?_
  refine kw_iconst (v := nI 4294967295) C dd_Dg_init_29 (by decide +kernel) ?_
  refine kw_fill (c0 := 104) C 1 ⟨by decide, rfl⟩ (by decide) rfl kS_Dg_22 dd_Dg_init_30 (Nat.le_of_ble_eq_true rfl) ⟨(Nat.le_of_ble_eq_true rfl), (Nat.le_of_ble_eq_true rfl)⟩ ⟨(Nat.le_of_ble_eq_true rfl), (Nat.le_of_ble_eq_true rfl)⟩ ?_
  exact kw_vret C dd_Dg_init_33 (Nat.le_of_ble_eq_true rfl) (Nat.le_of_ble_eq_true rfl) ⟨b0, b1, rfl⟩
theorem ko_Bk : Cond.methodLink "DagLedger$Book" 3 Lib.objectInit ∈ wd_tb := ct_w (by decide +kernel) (by decide +kernel)
set_option maxRecDepth 100000 in
set_option maxHeartbeats 4000000 in
theorem kc_Bk (a tr : Nat) : kw_M yy_Bk_init cc_Bk_init 2 2 2 44 [.ref a, .ref tr] [(a, .inr (8, [.null, .null, .int 0, .long 0, .null]))] (fun g V' => ∃ b0 b1 : Nat, V' = [(a, .inr (8, [.ref tr, .ref b0, .int 0, .long 0, .ref b1])), (b0, .inl (g.2.2 0, 40, .inl (fun _ => 0))), (b1, .inl (g.2.2 0, 4, .inl (fun k => nI (if k < 4 then 100 else 0))))]) := by
  refine kw_M.of [some (.ref a), some (.ref tr)] (by decide +kernel) rfl rfl (Nat.le_of_ble_eq_true rfl) rfl ?_
  intro p l e s m args below meth c A g C hin
  refine kw_aload_n C dd_Bk_init_0 rfl ?_
  refine kw_objInit C ko_Bk ko_inst ko_code dd_Bk_init_1 ⟨(Nat.le_of_ble_eq_true rfl), (Nat.le_of_ble_eq_true rfl)⟩ (Nat.le_of_ble_eq_true rfl) ?_
  refine kw_aload_n C dd_Bk_init_4 rfl ?_
  refine kw_bipush (v := nI 40) C dd_Bk_init_5 (by decide +kernel) ?_
  refine kw_newi (N := 40) C (by decide) ko_ai ⟨(Nat.le_of_ble_eq_true rfl), (Nat.le_of_ble_eq_true rfl)⟩ dd_Bk_init_7 (fun b0 => ?_)
  refine kw_putF C hin 0 wc_28 kF_Bk_9 rfl (by decide) rfl rfl rfl rfl rfl (Nat.le_of_ble_eq_true rfl) dd_Bk_init_9 ?_
  refine kw_aload_n C dd_Bk_init_12 rfl ?_
  refine kw_iconst (v := nI 4) C dd_Bk_init_13 (by decide +kernel) ?_
  refine kw_newi (N := 4) C (by decide) ko_ai ⟨(Nat.le_of_ble_eq_true rfl), (Nat.le_of_ble_eq_true rfl)⟩ dd_Bk_init_14 (fun b1 => ?_)
  refine kw_putF C hin 0 wc_28 kF_Bk_15 rfl (by decide) rfl rfl rfl rfl rfl (Nat.le_of_ble_eq_true rfl) dd_Bk_init_16 ?_
  refine kw_aload_n C dd_Bk_init_19 rfl ?_
  refine kw_aload_n C dd_Bk_init_20 rfl ?_
  refine kw_putF C hin 0 wc_28 kF_Bk_18 rfl (by decide) rfl rfl rfl rfl rfl (Nat.le_of_ble_eq_true rfl) dd_Bk_init_21 ?_
  refine kw_aload_n C dd_Bk_init_24 rfl ?_
  refine kw_get C 0 wc_28 kF_Bk_15 rfl (by decide) rfl rfl dd_Bk_init_25 ?_
  refine kw_bipush (v := nI 100) C dd_Bk_init_28 (by decide +kernel) ?_
  refine kw_fill (c0 := 120) C 2 ⟨by decide, rfl⟩ (by decide) rfl kS_Bk_22 dd_Bk_init_30 (Nat.le_of_ble_eq_true rfl) ⟨(Nat.le_of_ble_eq_true rfl), (Nat.le_of_ble_eq_true rfl)⟩ ⟨(Nat.le_of_ble_eq_true rfl), (Nat.le_of_ble_eq_true rfl)⟩ ?_
  exact kw_vret C dd_Bk_init_33 (Nat.le_of_ble_eq_true rfl) (Nat.le_of_ble_eq_true rfl) ⟨b0, b1, rfl⟩
theorem ko_Co : Cond.methodLink "DagLedger$Commits" 3 Lib.objectInit ∈ wd_tb := ct_w (by decide +kernel) (by decide +kernel)
set_option maxRecDepth 100000 in
set_option maxHeartbeats 4000000 in
theorem kc_Co (a vt dg bk : Nat) : kw_M yy_Co_init cc_Co_init 4 1 2 30 [.ref a, .ref vt, .ref dg, .ref bk] [(a, .inr (9, [.null, .null, .null, .null, .null, .int 0]))] (fun g V' => ∃ b0 b1 : Nat, V' = [(a, .inr (9, [.ref vt, .ref dg, .ref bk, .ref b0, .ref b1, .int 0])), (b0, .inl (g.2.2 0, 15, .inl (fun _ => 0))), (b1, .inl (g.2.2 0, 15, .inl (fun _ => 0)))]) := by
  refine kw_M.of [some (.ref a), some (.ref vt), some (.ref dg), some (.ref bk)] (by decide +kernel) rfl rfl (Nat.le_of_ble_eq_true rfl) rfl ?_
  intro p l e s m args below meth c A g C hin
  refine kw_aload_n C dd_Co_init_0 rfl ?_
  refine kw_objInit C ko_Co ko_inst ko_code dd_Co_init_1 ⟨(Nat.le_of_ble_eq_true rfl), (Nat.le_of_ble_eq_true rfl)⟩ (Nat.le_of_ble_eq_true rfl) ?_
  refine kw_aload_n C dd_Co_init_4 rfl ?_
  refine kw_bipush (v := nI 15) C dd_Co_init_5 (by decide +kernel) ?_
  refine kw_newi (N := 15) C (by decide) ko_ai ⟨(Nat.le_of_ble_eq_true rfl), (Nat.le_of_ble_eq_true rfl)⟩ dd_Co_init_7 (fun b0 => ?_)
  refine kw_putF C hin 0 wc_31 kF_Co_9 rfl (by decide) rfl rfl rfl rfl rfl (Nat.le_of_ble_eq_true rfl) dd_Co_init_9 ?_
  refine kw_aload_n C dd_Co_init_12 rfl ?_
  refine kw_bipush (v := nI 15) C dd_Co_init_13 (by decide +kernel) ?_
  refine kw_newi (N := 15) C (by decide) ko_ai ⟨(Nat.le_of_ble_eq_true rfl), (Nat.le_of_ble_eq_true rfl)⟩ dd_Co_init_15 (fun b1 => ?_)
  refine kw_putF C hin 0 wc_31 kF_Co_15 rfl (by decide) rfl rfl rfl rfl rfl (Nat.le_of_ble_eq_true rfl) dd_Co_init_17 ?_
  refine kw_aload_n C dd_Co_init_20 rfl ?_
  refine kw_aload_n C dd_Co_init_21 rfl ?_
  refine kw_putF C hin 0 wc_31 kF_Co_18 rfl (by decide) rfl rfl rfl rfl rfl (Nat.le_of_ble_eq_true rfl) dd_Co_init_22 ?_
  refine kw_aload_n C dd_Co_init_25 rfl ?_
  refine kw_aload_n C dd_Co_init_26 rfl ?_
  refine kw_putF C hin 0 wc_31 kF_Co_22 rfl (by decide) rfl rfl rfl rfl rfl (Nat.le_of_ble_eq_true rfl) dd_Co_init_27 ?_
  refine kw_aload_n C dd_Co_init_30 rfl ?_
  refine kw_aload_n C dd_Co_init_31 rfl ?_
  refine kw_putF C hin 0 wc_31 kF_Co_26 rfl (by decide) rfl rfl rfl rfl rfl (Nat.le_of_ble_eq_true rfl) dd_Co_init_32 ?_
  exact kw_vret C dd_Co_init_35 (Nat.le_of_ble_eq_true rfl) (Nat.le_of_ble_eq_true rfl) ⟨b0, b1, rfl⟩
theorem ko_Re : Cond.methodLink "DagLedger$Replica" 3 Lib.objectInit ∈ wd_tb := ct_w (by decide +kernel) (by decide +kernel)
theorem kl_Re_9 : Cond.classLink "DagLedger$Replica" 9 "DagLedger$Disk" ∈ wd_tb := ct_w (by decide +kernel) (by decide +kernel)
theorem kn_Di : Cond.instantiable "DagLedger$Disk" 7 ∈ wd_tb := ct_w (by decide +kernel) (by decide +kernel)
theorem ki_Di : Cond.initialized "DagLedger$Disk" ∈ wd_tb := ct_w (by decide +kernel) (by decide +kernel)
theorem kd_Di : ∀ j, j < 7 → defaultValue (ty_Di j) = vp_V [.null, .int 0, .int 0, .null, .null, .int 0, .int 0] j := by
  intro j hj
  rcases (show j = 0 ∨ j = 1 ∨ j = 2 ∨ j = 3 ∨ j = 4 ∨ j = 5 ∨ j = 6 by omega) with rfl | rfl | rfl | rfl | rfl | rfl | rfl <;> rfl
theorem kI_Re_11 : kw_kI "DagLedger$Replica" 11 yy_Di_init cc_Di_init 1 0 := ⟨Or.inr (List.mem_of_getElem? (i := 3) rfl), ct_w (by decide +kernel) (by decide +kernel), ki_Di, ct_w (by decide +kernel) (by decide +kernel), rfl, ⟨by decide, by decide, by decide +kernel⟩⟩
theorem kl_Re_18 : Cond.classLink "DagLedger$Replica" 18 "DagLedger$Notes" ∈ wd_tb := ct_w (by decide +kernel) (by decide +kernel)
theorem kn_No : Cond.instantiable "DagLedger$Notes" 4 ∈ wd_tb := ct_w (by decide +kernel) (by decide +kernel)
theorem ki_No : Cond.initialized "DagLedger$Notes" ∈ wd_tb := ct_w (by decide +kernel) (by decide +kernel)
theorem kd_No : ∀ j, j < 4 → defaultValue (ty_No j) = vp_V [.null, .null, .null, .int 0] j := by
  intro j hj
  rcases (show j = 0 ∨ j = 1 ∨ j = 2 ∨ j = 3 by omega) with rfl | rfl | rfl | rfl <;> rfl
theorem kI_Re_20 : kw_kI "DagLedger$Replica" 20 yy_No_init cc_No_init 1 0 := ⟨Or.inr (List.mem_of_getElem? (i := 4) rfl), ct_w (by decide +kernel) (by decide +kernel), ki_No, ct_w (by decide +kernel) (by decide +kernel), rfl, ⟨by decide, by decide, by decide +kernel⟩⟩
theorem kl_Re_40 : Cond.classLink "DagLedger$Replica" 40 "DagLedger$Dag" ∈ wd_tb := ct_w (by decide +kernel) (by decide +kernel)
theorem kn_Dg : Cond.instantiable "DagLedger$Dag" 4 ∈ wd_tb := ct_w (by decide +kernel) (by decide +kernel)
theorem ki_Dg : Cond.initialized "DagLedger$Dag" ∈ wd_tb := ct_w (by decide +kernel) (by decide +kernel)
theorem kd_Dg : ∀ j, j < 4 → defaultValue (ty_Dg j) = vp_V [.null, .null, .null, .int 0] j := by
  intro j hj
  rcases (show j = 0 ∨ j = 1 ∨ j = 2 ∨ j = 3 by omega) with rfl | rfl | rfl | rfl <;> rfl
theorem kI_Re_42 : kw_kI "DagLedger$Replica" 42 yy_Dg_init cc_Dg_init 2 1 := ⟨Or.inl (ct_w (by decide +kernel) (by decide +kernel)), ct_w (by decide +kernel) (by decide +kernel), ki_Dg, ct_w (by decide +kernel) (by decide +kernel), rfl, ⟨by decide, by decide, by decide +kernel⟩⟩
theorem kl_Re_49 : Cond.classLink "DagLedger$Replica" 49 "DagLedger$Book" ∈ wd_tb := ct_w (by decide +kernel) (by decide +kernel)
theorem kn_Bk : Cond.instantiable "DagLedger$Book" 5 ∈ wd_tb := ct_w (by decide +kernel) (by decide +kernel)
theorem ki_Bk : Cond.initialized "DagLedger$Book" ∈ wd_tb := ct_w (by decide +kernel) (by decide +kernel)
theorem kd_Bk : ∀ j, j < 5 → defaultValue (ty_Bk j) = vp_V [.null, .null, .int 0, .long 0, .null] j := by
  intro j hj
  rcases (show j = 0 ∨ j = 1 ∨ j = 2 ∨ j = 3 ∨ j = 4 by omega) with rfl | rfl | rfl | rfl | rfl <;> rfl
theorem kI_Re_51 : kw_kI "DagLedger$Replica" 51 yy_Bk_init cc_Bk_init 2 1 := ⟨Or.inl (ct_w (by decide +kernel) (by decide +kernel)), ct_w (by decide +kernel) (by decide +kernel), ki_Bk, ct_w (by decide +kernel) (by decide +kernel), rfl, ⟨by decide, by decide, by decide +kernel⟩⟩
theorem kl_Re_58 : Cond.classLink "DagLedger$Replica" 58 "DagLedger$Commits" ∈ wd_tb := ct_w (by decide +kernel) (by decide +kernel)
theorem kn_Co : Cond.instantiable "DagLedger$Commits" 6 ∈ wd_tb := ct_w (by decide +kernel) (by decide +kernel)
theorem ki_Co : Cond.initialized "DagLedger$Commits" ∈ wd_tb := ct_w (by decide +kernel) (by decide +kernel)
theorem kd_Co : ∀ j, j < 6 → defaultValue (ty_Co j) = vp_V [.null, .null, .null, .null, .null, .int 0] j := by
  intro j hj
  rcases (show j = 0 ∨ j = 1 ∨ j = 2 ∨ j = 3 ∨ j = 4 ∨ j = 5 by omega) with rfl | rfl | rfl | rfl | rfl | rfl <;> rfl
theorem kI_Re_60 : kw_kI "DagLedger$Replica" 60 yy_Co_init cc_Co_init 4 3 := ⟨Or.inl (ct_w (by decide +kernel) (by decide +kernel)), ct_w (by decide +kernel) (by decide +kernel), ki_Co, ct_w (by decide +kernel) (by decide +kernel), rfl, ⟨by decide, by decide, by decide +kernel⟩⟩
set_option maxRecDepth 100000 in
set_option maxHeartbeats 4000000 in
theorem kc_Re (a r bd vt tr : Nat) : kw_M yy_Re_init cc_Re_init 5 3 17 498 [.ref a, .int (nI r), .ref bd, .ref vt, .ref tr] [(a, .inr (4, [.int 0, .null, .null, .null, .null, .null, .null, .null, .int 0, .int 0, .int 0, .int 0, .int 0]))] (fun g V' => ∃ b0 b1 b2 b3 b4 b5 b6 b7 b8 b9 b10 b11 b12 b13 b14 b15 b16 : Nat, V' = [(a, .inr (4, [.int (nI r), .ref bd, .ref vt, .ref b0, .ref b4, .ref b8, .ref b11, .ref b14, .int (nI 1), .int 0, .int 0, .int 0, .int 0])), (b0, .inr (5, [.ref b1, .int 0, .int 0, .ref b2, .ref b3, .int 0, .int 0])), (b1, .inl (g.2.2 0, 40, .inl (fun _ => 0))), (b2, .inl (g.2.2 0, 4, .inl (fun _ => 0))), (b3, .inl (g.2.2 0, 4, .inl (fun _ => 0))), (b4, .inr (6, [.ref b5, .ref b6, .ref b7, .int 0])), (b5, .inl (g.2.2 0, 90, .inl (fun _ => 0))), (b6, .inl (g.2.2 0, 90, .inl (fun _ => 0))), (b7, .inl (g.2.2 0, 90, .inl (fun _ => 0))), (b8, .inr (7, [.ref vt, .ref b9, .ref b10, .int 0])), (b9, .inl (g.2.2 0, 64, .inl (fun k => nI (if k < 64 then 4294967295 else 0)))), (b10, .inl (g.2.2 0, 16, .inl (fun _ => 0))), (b11, .inr (8, [.ref tr, .ref b12, .int 0, .long 0, .ref b13])), (b12, .inl (g.2.2 0, 40, .inl (fun _ => 0))), (b13, .inl (g.2.2 0, 4, .inl (fun k => nI (if k < 4 then 100 else 0)))), (b14, .inr (9, [.ref vt, .ref b8, .ref b11, .ref b15, .ref b16, .int 0])), (b15, .inl (g.2.2 0, 15, .inl (fun _ => 0))), (b16, .inl (g.2.2 0, 15, .inl (fun _ => 0)))]) := by
  refine kw_M.of [some (.ref a), some (.int (nI r)), some (.ref bd), some (.ref vt), some (.ref tr)] (by decide +kernel) rfl rfl (Nat.le_of_ble_eq_true rfl) rfl ?_
  intro p l e s m args below meth c A g C hin
  refine kw_aload_n C dd_Re_init_0 rfl ?_
  refine kw_objInit C ko_Re ko_inst ko_code dd_Re_init_1 ⟨(Nat.le_of_ble_eq_true rfl), (Nat.le_of_ble_eq_true rfl)⟩ (Nat.le_of_ble_eq_true rfl) ?_
  refine kw_aload_n C dd_Re_init_4 rfl ?_
  refine kw_new C wc_17 kl_Re_9 kn_Di ki_Di [.null, .int 0, .int 0, .null, .null, .int 0, .int 0] kd_Di ⟨(Nat.le_of_ble_eq_true rfl), (Nat.le_of_ble_eq_true rfl)⟩ dd_Re_init_5 (fun b0 => ?_)
  refine kw_dup C dd_Re_init_8 rfl ?_
  refine kw_ctor (As := []) C kI_Re_11 dd_Re_init_9 rfl rfl (Nat.le_of_ble_eq_true rfl) ⟨(Nat.le_of_ble_eq_true rfl), (Nat.le_of_ble_eq_true rfl)⟩ ⟨(Nat.le_of_ble_eq_true rfl), (Nat.le_of_ble_eq_true rfl)⟩ (kc_Di b0) (fun V9 hV9 => ?_)
  obtain ⟨b1, b2, b3, rfl⟩ := hV9
  refine kw_putF C hin 0 wc_16 kF_Re_12 rfl (by decide) rfl rfl rfl rfl rfl (Nat.le_of_ble_eq_true rfl) dd_Re_init_12 ?_
  refine kw_aload_n C dd_Re_init_15 rfl ?_
  refine kw_new C wc_21 kl_Re_18 kn_No ki_No [.null, .null, .null, .int 0] kd_No ⟨(Nat.le_of_ble_eq_true rfl), (Nat.le_of_ble_eq_true rfl)⟩ dd_Re_init_16 (fun b4 => ?_)
  refine kw_dup C dd_Re_init_19 rfl ?_
  refine kw_ctor (As := []) C kI_Re_20 dd_Re_init_20 rfl rfl (Nat.le_of_ble_eq_true rfl) ⟨(Nat.le_of_ble_eq_true rfl), (Nat.le_of_ble_eq_true rfl)⟩ ⟨(Nat.le_of_ble_eq_true rfl), (Nat.le_of_ble_eq_true rfl)⟩ (kc_No b4) (fun V9 hV9 => ?_)
  obtain ⟨b5, b6, b7, rfl⟩ := hV9
  refine kw_putF C hin 0 wc_16 kF_Re_21 rfl (by decide) rfl rfl rfl rfl rfl (Nat.le_of_ble_eq_true rfl) dd_Re_init_23 ?_
  refine kw_aload_n C dd_Re_init_26 rfl ?_
  refine kw_iconst (v := nI 1) C dd_Re_init_27 (by decide +kernel) ?_
  refine kw_put C 0 wc_16 kF_Re_25 rfl (by decide) rfl rfl rfl rfl (Nat.le_of_ble_eq_true rfl) dd_Re_init_28 ?_
  refine kw_aload_n C dd_Re_init_31 rfl ?_
  refine kw_iload_n C dd_Re_init_32 rfl ?_
  refine kw_putF C hin 0 wc_16 kF_Re_29 rfl (by decide) rfl rfl rfl rfl rfl (Nat.le_of_ble_eq_true rfl) dd_Re_init_33 ?_
  refine kw_aload_n C dd_Re_init_36 rfl ?_
  refine kw_aload_n C dd_Re_init_37 rfl ?_
  refine kw_putF C hin 0 wc_16 kF_Re_32 rfl (by decide) rfl rfl rfl rfl rfl (Nat.le_of_ble_eq_true rfl) dd_Re_init_38 ?_
  refine kw_aload_n C dd_Re_init_41 rfl ?_
  refine kw_aload_n C dd_Re_init_42 rfl ?_
  refine kw_putF C hin 0 wc_16 kF_Re_36 rfl (by decide) rfl rfl rfl rfl rfl (Nat.le_of_ble_eq_true rfl) dd_Re_init_43 ?_
  refine kw_aload_n C dd_Re_init_46 rfl ?_
  refine kw_new C wc_25 kl_Re_40 kn_Dg ki_Dg [.null, .null, .null, .int 0] kd_Dg ⟨(Nat.le_of_ble_eq_true rfl), (Nat.le_of_ble_eq_true rfl)⟩ dd_Re_init_47 (fun b8 => ?_)
  refine kw_dup C dd_Re_init_50 rfl ?_
  refine kw_aload_n C dd_Re_init_51 rfl ?_
  refine kw_ctor (As := [.ref vt]) C kI_Re_42 dd_Re_init_52 rfl rfl (Nat.le_of_ble_eq_true rfl) ⟨(Nat.le_of_ble_eq_true rfl), (Nat.le_of_ble_eq_true rfl)⟩ ⟨(Nat.le_of_ble_eq_true rfl), (Nat.le_of_ble_eq_true rfl)⟩ (kc_Dg b8 vt) (fun V9 hV9 => ?_)
  obtain ⟨b9, b10, rfl⟩ := hV9
  refine kw_putF C hin 0 wc_16 kF_Re_45 rfl (by decide) rfl rfl rfl rfl rfl (Nat.le_of_ble_eq_true rfl) dd_Re_init_55 ?_
  refine kw_aload_n C dd_Re_init_58 rfl ?_
  refine kw_new C wc_28 kl_Re_49 kn_Bk ki_Bk [.null, .null, .int 0, .long 0, .null] kd_Bk ⟨(Nat.le_of_ble_eq_true rfl), (Nat.le_of_ble_eq_true rfl)⟩ dd_Re_init_59 (fun b11 => ?_)
  refine kw_dup C dd_Re_init_62 rfl ?_
  refine kw_aload C dd_Re_init_63 rfl ?_
  refine kw_ctor (As := [.ref tr]) C kI_Re_51 dd_Re_init_65 rfl rfl (Nat.le_of_ble_eq_true rfl) ⟨(Nat.le_of_ble_eq_true rfl), (Nat.le_of_ble_eq_true rfl)⟩ ⟨(Nat.le_of_ble_eq_true rfl), (Nat.le_of_ble_eq_true rfl)⟩ (kc_Bk b11 tr) (fun V9 hV9 => ?_)
  obtain ⟨b12, b13, rfl⟩ := hV9
  refine kw_putF C hin 0 wc_16 kF_Re_54 rfl (by decide) rfl rfl rfl rfl rfl (Nat.le_of_ble_eq_true rfl) dd_Re_init_68 ?_
  refine kw_aload_n C dd_Re_init_71 rfl ?_
  refine kw_new C wc_31 kl_Re_58 kn_Co ki_Co [.null, .null, .null, .null, .null, .int 0] kd_Co ⟨(Nat.le_of_ble_eq_true rfl), (Nat.le_of_ble_eq_true rfl)⟩ dd_Re_init_72 (fun b14 => ?_)
  refine kw_dup C dd_Re_init_75 rfl ?_
  refine kw_aload_n C dd_Re_init_76 rfl ?_
  refine kw_aload_n C dd_Re_init_77 rfl ?_
  refine kw_get C 0 wc_16 kF_Re_45 rfl (by decide) rfl rfl dd_Re_init_78 ?_
  refine kw_aload_n C dd_Re_init_81 rfl ?_
  refine kw_get C 0 wc_16 kF_Re_54 rfl (by decide) rfl rfl dd_Re_init_82 ?_
  refine kw_ctor (As := [.ref vt, .ref b8, .ref b11]) C kI_Re_60 dd_Re_init_85 rfl rfl (Nat.le_of_ble_eq_true rfl) ⟨(Nat.le_of_ble_eq_true rfl), (Nat.le_of_ble_eq_true rfl)⟩ ⟨(Nat.le_of_ble_eq_true rfl), (Nat.le_of_ble_eq_true rfl)⟩ (kc_Co b14 vt b8 b11) (fun V9 hV9 => ?_)
  obtain ⟨b15, b16, rfl⟩ := hV9
  refine kw_putF C hin 0 wc_16 kF_Re_63 rfl (by decide) rfl rfl rfl rfl rfl (Nat.le_of_ble_eq_true rfl) dd_Re_init_88 ?_
  exact kw_vret C dd_Re_init_91 (Nat.le_of_ble_eq_true rfl) (Nat.le_of_ble_eq_true rfl) ⟨b0, b1, b2, b3, b4, b5, b6, b7, b8, b9, b10, b11, b12, b13, b14, b15, b16, rfl⟩
