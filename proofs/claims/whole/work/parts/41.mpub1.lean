theorem wx_ingt {x n : Nat} (hx : x < 2147483648) (hn : n < 2147483648) : nI (if n = 0 then 4294967295 else n - 1) < nI x ↔ n ≤ x := by
  rw [wx_slt (by split <;> omega) hx]
  split <;> omega
set_option maxRecDepth 100000 in
set_option maxHeartbeats 4000000 in
theorem mm_Mo_in (X : wx_S) (x a h n : Nat) (hx : x < 4294967296) (ha : a < 2147483648) (hn : n < 2147483648) (hh : h = if n = 0 then 4294967295 else n - 1) : nw_M wd_all yy_Mo_in cc_Mo_in 3 (some .boolean) 1 0 0 [.int (nI x), .int (nI a), .int (nI h)] X (fun v X' => v = some (.int (nI (zb_n (a ≤ x ∧ x < n)))) ∧ X' = X) := by
  refine nw_of [some (.int (nI x)), some (.int (nI a)), some (.int (nI h))] (by decide +kernel) rfl (Nat.le_of_ble_eq_true rfl) rfl ?_
  intro p l e s m args below meth c A g C
  refine cw_iload_n C dd_Mo_in_0 rfl ?_
  refine cw_iload_n C dd_Mo_in_1 rfl ?_
  refine nw_scmp_lt (tgt := 14) C dd_Mo_in_2 (by decide) (by first | omega | (simp [wx_u] <;> omega)) (by first | omega | (simp [wx_u] <;> omega)) (fun h2 => ?_) (fun h2 => ?_)
  · refine cw_iconst (v := nI 0) C dd_Mo_in_14 (by decide +kernel) ?_
    exact cw_zreturn C dd_Mo_in_15 (nw_zn (by decide)) (Nat.le_of_ble_eq_true rfl) (Nat.le_of_ble_eq_true rfl) ⟨_, rfl, rfl, ⟨by first | exact congrArg (fun z => some (Value.int z)) (zb_t (by first | omega | (simp [wx_u] <;> omega))) | exact congrArg (fun z => some (Value.int z)) (zb_f (by first | omega | (simp [wx_u] <;> omega))), by first | rfl | simp [wx_u]⟩⟩
  · rw [hh]
    refine cw_iload_n C dd_Mo_in_5 rfl ?_
    refine cw_iload_n C dd_Mo_in_6 rfl ?_
    refine cw_icmp_gt (tgt := 14) C dd_Mo_in_7 (by decide) (fun z7 => ?_) (fun z7 => ?_)
    · have h7 := (wx_ingt h2.1 hn).mp z7
      refine cw_iconst (v := nI 0) C dd_Mo_in_14 (by decide +kernel) ?_
      exact cw_zreturn C dd_Mo_in_15 (nw_zn (by decide)) (Nat.le_of_ble_eq_true rfl) (Nat.le_of_ble_eq_true rfl) ⟨_, rfl, rfl, ⟨by first | exact congrArg (fun z => some (Value.int z)) (zb_t (by first | omega | (simp [wx_u] <;> omega))) | exact congrArg (fun z => some (Value.int z)) (zb_f (by first | omega | (simp [wx_u] <;> omega))), by first | rfl | simp [wx_u]⟩⟩
    · have h7 : ¬ n ≤ x := fun q => z7 ((wx_ingt h2.1 hn).mpr q)
      refine cw_iconst (v := nI 1) C dd_Mo_in_10 (by decide +kernel) ?_
      refine cw_goto (tgt := 15) C dd_Mo_in_11 (by decide) ?_
      exact cw_zreturn C dd_Mo_in_15 (nw_zn (by decide)) (Nat.le_of_ble_eq_true rfl) (Nat.le_of_ble_eq_true rfl) ⟨_, rfl, rfl, ⟨by first | exact congrArg (fun z => some (Value.int z)) (zb_t (by first | omega | (simp [wx_u] <;> omega))) | exact congrArg (fun z => some (Value.int z)) (zb_f (by first | omega | (simp [wx_u] <;> omega))), by first | rfl | simp [wx_u]⟩⟩
set_option maxRecDepth 100000 in
set_option maxHeartbeats 4000000 in
theorem mm_Mo_isNode (X : wx_S) (r : Nat) (hr : r < 4) : nw_M wd_all yy_Mo_isNode cc_Mo_isNode 2 (some .boolean) 2 0 0 [.ref 136, .int (nI r)] X (fun v X' => v = some (.int (nI 1)) ∧ X' = wx_u X 136 0 0) := by
  refine nw_of [some (.ref 136), some (.int (nI r))] (by decide +kernel) rfl (Nat.le_of_ble_eq_true rfl) rfl ?_
  intro p l e s m args below meth c A g C
  refine cw_aload_n C dd_Mo_isNode_0 rfl ?_
  refine cw_iload_n C dd_Mo_isNode_1 rfl ?_
  refine cw_iconst (v := nI 0) C dd_Mo_isNode_2 (by decide +kernel) ?_
  refine cw_iconst (v := nI 3) C dd_Mo_isNode_3 (by decide +kernel) ?_
  refine cw_callS (As := [_, _, _]) C kS_Mo_186 dd_Mo_isNode_4 rfl rfl (Nat.le_of_ble_eq_true rfl) ⟨(Nat.le_of_ble_eq_true rfl), (Nat.le_of_ble_eq_true rfl)⟩ ⟨(Nat.le_of_ble_eq_true rfl), (Nat.le_of_ble_eq_true rfl)⟩ (mm_Mo_in _ r 0 _ 4 (by omega) (by decide) (by omega) rfl) (nw_ki ?_)
  refine nw_zeq (tgt := 14) C dd_Mo_isNode_7 (by decide) (fun h7 => ?_) (fun h7 => ?_)
  · exact absurd h7 (by omega)
  · refine cw_iconst (v := nI 0) C dd_Mo_isNode_10 (by decide +kernel) ?_
    refine cw_goto (tgt := 15) C dd_Mo_isNode_11 (by decide) ?_
    refine nw_puti C wc_34 kF_Mo_105 is_34 (by decide) rfl rfl rfl rfl dd_Mo_isNode_15 ?_
    refine cw_aload_n C dd_Mo_isNode_18 rfl ?_
    refine nw_getiv C 0 wc_34 kF_Mo_105 is_34 (by decide) rfl dd_Mo_isNode_19 (by repeat (first | rfl | rw [wx_u_eq] | rw [wx_u_nc (by omega)] | rw [wx_u_nk (by omega)])) ?_
    refine nw_if_ne (tgt := 29) C dd_Mo_isNode_22 (by decide) (by decide) (fun h22 => ?_) (fun h22 => ?_)
    · exact absurd rfl h22
    · refine cw_iconst (v := nI 1) C dd_Mo_isNode_25 (by decide +kernel) ?_
      refine cw_goto (tgt := 30) C dd_Mo_isNode_26 (by decide) ?_
      exact cw_zreturn C dd_Mo_isNode_30 (nw_zn (by decide)) (Nat.le_of_ble_eq_true rfl) (Nat.le_of_ble_eq_true rfl) ⟨_, rfl, rfl, ⟨rfl, rfl⟩⟩
set_option maxRecDepth 100000 in
set_option maxHeartbeats 4000000 in
theorem mm_Mo_isNode_bad (X : wx_S) (n : Nat) (hn : n < 4294967296) (hb : 4 ≤ n) : nw_M wd_all yy_Mo_isNode cc_Mo_isNode 2 (some .boolean) 2 0 0 [.ref 136, .int (nI n)] X (fun v X' => v = some (.int (nI 0)) ∧ X' = wx_u X 136 0 1) := by
  refine nw_of [some (.ref 136), some (.int (nI n))] (by decide +kernel) rfl (Nat.le_of_ble_eq_true rfl) rfl ?_
  intro p l e s m args below meth c A g C
  refine cw_aload_n C dd_Mo_isNode_0 rfl ?_
  refine cw_iload_n C dd_Mo_isNode_1 rfl ?_
  refine cw_iconst (v := nI 0) C dd_Mo_isNode_2 (by decide +kernel) ?_
  refine cw_iconst (v := nI 3) C dd_Mo_isNode_3 (by decide +kernel) ?_
  refine cw_callS (As := [_, _, _]) C kS_Mo_186 dd_Mo_isNode_4 rfl rfl (Nat.le_of_ble_eq_true rfl) ⟨(Nat.le_of_ble_eq_true rfl), (Nat.le_of_ble_eq_true rfl)⟩ ⟨(Nat.le_of_ble_eq_true rfl), (Nat.le_of_ble_eq_true rfl)⟩ (mm_Mo_in _ n 0 _ 4 (by omega) (by decide) (by omega) rfl) (nw_ki ?_)
  refine nw_zeq (tgt := 14) C dd_Mo_isNode_7 (by decide) (fun h7 => ?_) (fun h7 => ?_)
  · refine cw_iconst (v := nI 1) C dd_Mo_isNode_14 (by decide +kernel) ?_
    refine nw_puti C wc_34 kF_Mo_105 is_34 (by decide) rfl rfl rfl rfl dd_Mo_isNode_15 ?_
    refine cw_aload_n C dd_Mo_isNode_18 rfl ?_
    refine nw_getiv C 1 wc_34 kF_Mo_105 is_34 (by decide) rfl dd_Mo_isNode_19 (by repeat (first | rfl | rw [wx_u_eq] | rw [wx_u_nc (by omega)] | rw [wx_u_nk (by omega)])) ?_
    refine nw_if_ne (tgt := 29) C dd_Mo_isNode_22 (by decide) (by decide) (fun h22 => ?_) (fun h22 => ?_)
    · refine cw_iconst (v := nI 0) C dd_Mo_isNode_29 (by decide +kernel) ?_
      exact cw_zreturn C dd_Mo_isNode_30 (nw_zn (by decide)) (Nat.le_of_ble_eq_true rfl) (Nat.le_of_ble_eq_true rfl) ⟨_, rfl, rfl, ⟨rfl, rfl⟩⟩
    · exact absurd h22 (by decide)
  · exact absurd h7 (by omega)
set_option maxRecDepth 100000 in
set_option maxHeartbeats 4000000 in
theorem mm_Mo_works (X : wx_S) (r : Nat) (hr : r < 4) (hst : ∀ i, i < 4 → X 192 i < 4294967296) : nw_M wd_all yy_Mo_works cc_Mo_works 2 (some .boolean) 3 0 0 [.ref 136, .int (nI r)] X (fun v X' => v = some (.int (nI (zb_n (X 192 r = 1)))) ∧ X' = wx_u X 136 0 0) := by
  refine nw_of [some (.ref 136), some (.int (nI r))] (by decide +kernel) rfl (Nat.le_of_ble_eq_true rfl) rfl ?_
  intro p l e s m args below meth c A g C
  have g1 := hst r hr
  refine cw_aload_n C dd_Mo_works_0 rfl ?_
  refine cw_iload_n C dd_Mo_works_1 rfl ?_
  refine cw_callV (As := [_]) C kV_Mo_190 wc_34 is_34 dd_Mo_works_2 rfl rfl (Nat.le_of_ble_eq_true rfl) ⟨(Nat.le_of_ble_eq_true rfl), (Nat.le_of_ble_eq_true rfl)⟩ ⟨(Nat.le_of_ble_eq_true rfl), (Nat.le_of_ble_eq_true rfl)⟩ (mm_Mo_isNode X r hr) (nw_ki ?_)
  refine nw_if_eq (tgt := 22) C dd_Mo_works_5 (by decide) (by decide) (fun h5 => ?_) (fun h5 => ?_)
  · exact absurd h5 (by decide)
  · refine cw_aload_n C dd_Mo_works_8 rfl ?_
    refine cw_getr (q' := 192) C wc_34 kF_Mo_50 is_34 (by decide) rfl dd_Mo_works_9 rfl ?_
    refine cw_iload_n C dd_Mo_works_12 rfl ?_
    refine nw_ialdv C (X 192 r) is_48 (by first | omega | (simp [wx_u] <;> omega)) (by decide) dd_Mo_works_13 (by repeat (first | rfl | rw [wx_u_eq] | rw [wx_u_nc (by omega)] | rw [wx_u_nk (by omega)])) ?_
    refine cw_iconst (v := nI 1) C dd_Mo_works_14 (by decide +kernel) ?_
    refine nw_icmp_ne (tgt := 22) C dd_Mo_works_15 (by decide) (by first | omega | (simp [wx_u] <;> omega)) (by first | omega | (simp [wx_u] <;> omega)) (fun h15 => ?_) (fun h15 => ?_)
    · refine cw_iconst (v := nI 0) C dd_Mo_works_22 (by decide +kernel) ?_
      exact cw_zreturn C dd_Mo_works_23 (nw_zn (by decide)) (Nat.le_of_ble_eq_true rfl) (Nat.le_of_ble_eq_true rfl) ⟨_, rfl, rfl, ⟨by first | exact congrArg (fun z => some (Value.int z)) (zb_t h15) | exact congrArg (fun z => some (Value.int z)) (zb_f h15), rfl⟩⟩
    · refine cw_iconst (v := nI 1) C dd_Mo_works_18 (by decide +kernel) ?_
      refine cw_goto (tgt := 23) C dd_Mo_works_19 (by decide) ?_
      exact cw_zreturn C dd_Mo_works_23 (nw_zn (by decide)) (Nat.le_of_ble_eq_true rfl) (Nat.le_of_ble_eq_true rfl) ⟨_, rfl, rfl, ⟨by first | exact congrArg (fun z => some (Value.int z)) (zb_t h15) | exact congrArg (fun z => some (Value.int z)) (zb_f h15), rfl⟩⟩
set_option maxRecDepth 100000 in
set_option maxHeartbeats 4000000 in
theorem mm_Mo_works_bad (X : wx_S) (n : Nat) (hn : n < 4294967296) (hb : 4 ≤ n) : nw_M wd_all yy_Mo_works cc_Mo_works 2 (some .boolean) 3 0 0 [.ref 136, .int (nI n)] X (fun v X' => v = some (.int (nI 0)) ∧ X' = wx_u X 136 0 1) := by
  refine nw_of [some (.ref 136), some (.int (nI n))] (by decide +kernel) rfl (Nat.le_of_ble_eq_true rfl) rfl ?_
  intro p l e s m args below meth c A g C
  refine cw_aload_n C dd_Mo_works_0 rfl ?_
  refine cw_iload_n C dd_Mo_works_1 rfl ?_
  refine cw_callV (As := [_]) C kV_Mo_190 wc_34 is_34 dd_Mo_works_2 rfl rfl (Nat.le_of_ble_eq_true rfl) ⟨(Nat.le_of_ble_eq_true rfl), (Nat.le_of_ble_eq_true rfl)⟩ ⟨(Nat.le_of_ble_eq_true rfl), (Nat.le_of_ble_eq_true rfl)⟩ (mm_Mo_isNode_bad X n hn hb) (nw_ki ?_)
  refine nw_if_eq (tgt := 22) C dd_Mo_works_5 (by decide) (by decide) (fun h5 => ?_) (fun h5 => ?_)
  · refine cw_iconst (v := nI 0) C dd_Mo_works_22 (by decide +kernel) ?_
    exact cw_zreturn C dd_Mo_works_23 (nw_zn (by decide)) (Nat.le_of_ble_eq_true rfl) (Nat.le_of_ble_eq_true rfl) ⟨_, rfl, rfl, ⟨rfl, rfl⟩⟩
  · exact absurd rfl h5
set_option maxRecDepth 100000 in
set_option maxHeartbeats 4000000 in
theorem mm_Mo_full (X : wx_S) (hm : X 136 13 < 2147483648) : nw_M wd_all yy_Mo_full cc_Mo_full 1 (some .boolean) 1 0 0 [.ref 136] X (fun v X' => v = some (.int (nI (zb_n (800 ≤ X 136 13)))) ∧ X' = X) := by
  refine nw_of [some (.ref 136)] (by decide +kernel) rfl (Nat.le_of_ble_eq_true rfl) rfl ?_
  intro p l e s m args below meth c A g C
  refine cw_aload_n C dd_Mo_full_0 rfl ?_
  refine nw_geti C wc_34 kF_Mo_112 is_34 (by decide) rfl dd_Mo_full_1 ?_
  refine cw_sipush (v := nI 800) C dd_Mo_full_4 (by decide +kernel) ?_
  refine nw_icmp_lt (tgt := 14) C dd_Mo_full_7 (by decide) (by first | omega | (simp [wx_u] <;> omega)) (by first | omega | (simp [wx_u] <;> omega)) (fun h7 => ?_) (fun h7 => ?_)
  · refine cw_iconst (v := nI 0) C dd_Mo_full_14 (by decide +kernel) ?_
    exact cw_zreturn C dd_Mo_full_15 (nw_zn (by decide)) (Nat.le_of_ble_eq_true rfl) (Nat.le_of_ble_eq_true rfl) ⟨_, rfl, rfl, ⟨by first | exact congrArg (fun z => some (Value.int z)) (zb_t (by first | omega | (simp [wx_u] <;> omega))) | exact congrArg (fun z => some (Value.int z)) (zb_f (by first | omega | (simp [wx_u] <;> omega))), by first | rfl | simp [wx_u]⟩⟩
  · refine cw_iconst (v := nI 1) C dd_Mo_full_10 (by decide +kernel) ?_
    refine cw_goto (tgt := 15) C dd_Mo_full_11 (by decide) ?_
    exact cw_zreturn C dd_Mo_full_15 (nw_zn (by decide)) (Nat.le_of_ble_eq_true rfl) (Nat.le_of_ble_eq_true rfl) ⟨_, rfl, rfl, ⟨by first | exact congrArg (fun z => some (Value.int z)) (zb_t (by first | omega | (simp [wx_u] <;> omega))) | exact congrArg (fun z => some (Value.int z)) (zb_f (by first | omega | (simp [wx_u] <;> omega))), by first | rfl | simp [wx_u]⟩⟩
set_option maxRecDepth 100000 in
set_option maxHeartbeats 4000000 in
theorem mm_Mo_submit_bad (X : wx_S) (n : Nat) (hn : n < 4294967296) (hb : 4 ≤ n) (f t a : Nat) : nw_M wd_all yy_Mo_submit cc_Mo_submit 5 (some .int) 3 0 0 [.ref 136, .int (nI n), .int (nI f), .int (nI t), .int (nI a)] X (fun v X' => v = some (.int (nI 0)) ∧ X' = wx_u X 136 0 1) := by
  refine nw_of [some (.ref 136), some (.int (nI n)), some (.int (nI f)), some (.int (nI t)), some (.int (nI a))] (by decide +kernel) rfl (Nat.le_of_ble_eq_true rfl) rfl ?_
  intro p l e s m args below meth c A g C
  refine cw_aload_n C dd_Mo_submit_0 rfl ?_
  refine cw_iload_n C dd_Mo_submit_1 rfl ?_
  refine cw_callV (As := [_]) C kV_Mo_190 wc_34 is_34 dd_Mo_submit_2 rfl rfl (Nat.le_of_ble_eq_true rfl) ⟨(Nat.le_of_ble_eq_true rfl), (Nat.le_of_ble_eq_true rfl)⟩ ⟨(Nat.le_of_ble_eq_true rfl), (Nat.le_of_ble_eq_true rfl)⟩ (mm_Mo_isNode_bad X n hn hb) (nw_ki ?_)
  refine nw_if_ne (tgt := 10) C dd_Mo_submit_5 (by decide) (by decide) (fun h5 => ?_) (fun h5 => ?_)
  · exact absurd rfl h5
  · refine cw_iconst (v := nI 0) C dd_Mo_submit_8 (by decide +kernel) ?_
    exact cw_ireturn C dd_Mo_submit_9 (Nat.le_of_ble_eq_true rfl) (Nat.le_of_ble_eq_true rfl) ⟨_, rfl, rfl, ⟨rfl, rfl⟩⟩
set_option maxRecDepth 100000 in
set_option maxHeartbeats 4000000 in
theorem mm_Mo_submit_dn (X : wx_S) (r : Nat) (hr : r < 4) (f t a : Nat) (hst : ∀ i, i < 4 → X 192 i < 4294967296) (hdn : X 192 r ≠ 1) : nw_M wd_all yy_Mo_submit cc_Mo_submit 5 (some .int) 3 0 0 [.ref 136, .int (nI r), .int (nI f), .int (nI t), .int (nI a)] X (fun v X' => v = some (.int (nI 0)) ∧ X' = wx_u X 136 0 2) := by
  refine nw_of [some (.ref 136), some (.int (nI r)), some (.int (nI f)), some (.int (nI t)), some (.int (nI a))] (by decide +kernel) rfl (Nat.le_of_ble_eq_true rfl) rfl ?_
  intro p l e s m args below meth c A g C
  have g1 := hst r hr
  refine cw_aload_n C dd_Mo_submit_0 rfl ?_
  refine cw_iload_n C dd_Mo_submit_1 rfl ?_
  refine cw_callV (As := [_]) C kV_Mo_190 wc_34 is_34 dd_Mo_submit_2 rfl rfl (Nat.le_of_ble_eq_true rfl) ⟨(Nat.le_of_ble_eq_true rfl), (Nat.le_of_ble_eq_true rfl)⟩ ⟨(Nat.le_of_ble_eq_true rfl), (Nat.le_of_ble_eq_true rfl)⟩ (mm_Mo_isNode X r hr) (nw_ki ?_)
  refine nw_if_ne (tgt := 10) C dd_Mo_submit_5 (by decide) (by decide) (fun h5 => ?_) (fun h5 => ?_)
  · refine cw_aload_n C dd_Mo_submit_10 rfl ?_
    refine cw_getr (q' := 192) C wc_34 kF_Mo_50 is_34 (by decide) rfl dd_Mo_submit_11 rfl ?_
    refine cw_iload_n C dd_Mo_submit_14 rfl ?_
    refine nw_ialdv C (X 192 r) is_48 (by first | omega | (simp [wx_u] <;> omega)) (by decide) dd_Mo_submit_15 (by repeat (first | rfl | rw [wx_u_eq] | rw [wx_u_nc (by omega)] | rw [wx_u_nk (by omega)])) ?_
    refine cw_iconst (v := nI 1) C dd_Mo_submit_16 (by decide +kernel) ?_
    refine nw_icmp_eq (tgt := 27) C dd_Mo_submit_17 (by decide) (by first | omega | (simp [wx_u] <;> omega)) (by first | omega | (simp [wx_u] <;> omega)) (fun h17 => ?_) (fun h17 => ?_)
    · exact absurd h17 hdn
    · refine cw_aload_n C dd_Mo_submit_20 rfl ?_
      refine cw_iconst (v := nI 2) C dd_Mo_submit_21 (by decide +kernel) ?_
      refine nw_puti C wc_34 kF_Mo_105 is_34 (by decide) rfl rfl rfl rfl dd_Mo_submit_22 ?_
      refine cw_iconst (v := nI 0) C dd_Mo_submit_25 (by decide +kernel) ?_
      exact cw_ireturn C dd_Mo_submit_26 (Nat.le_of_ble_eq_true rfl) (Nat.le_of_ble_eq_true rfl) ⟨_, rfl, rfl, ⟨rfl, wx_u_uu _ _ _ _ _⟩⟩
  · exact absurd h5 (by decide)
def zm_sub (X : wx_S) (r f t a : Nat) : Nat × wx_S :=
  if X 136 1 < 40 ∧ f < 4 ∧ t < 4 ∧ f ≠ t ∧ 1 ≤ a ∧ a ≤ 1000 then
    (if X 200 r = 0 then (4294967294, zm_fall X r)
     else (X 136 1, wx_u (wx_u (wx_u (wx_u (wx_u (zm_wrote X r) 140 (X 136 1) f) 144 (X 136 1) t) 148 (X 136 1) a) 152 (X 136 1) r) 136 1 (X 136 1 + 1)))
  else (4294967295, X)
set_option maxRecDepth 100000 in
set_option maxHeartbeats 4000000 in
theorem mm_Mo_submit (X : wx_S) (r : Nat) (hr : r < 4) (f t a : Nat) (hf : f < 4294967296) (ht : t < 4294967296) (ha : a < 4294967296) (hst : ∀ i, i < 4 → X 192 i < 4294967296) (hup : X 192 r = 1) (hn : X 136 1 ≤ 40) (hc : X 200 r < 4294967296) : nw_M wd_all yy_Mo_submit cc_Mo_submit 5 (some .int) 4 0 0 [.ref 136, .int (nI r), .int (nI f), .int (nI t), .int (nI a)] X (fun v X' => v = some (.int (nI (zm_sub (wx_u X 136 0 0) r f t a).1)) ∧ X' = (zm_sub (wx_u X 136 0 0) r f t a).2) := by
  refine nw_of [some (.ref 136), some (.int (nI r)), some (.int (nI f)), some (.int (nI t)), some (.int (nI a))] (by decide +kernel) rfl (Nat.le_of_ble_eq_true rfl) rfl ?_
  intro p l e s m args below meth c A g C
  have g1 := hst r hr
  have e1 : wx_u X 136 0 0 136 1 = X 136 1 := wx_u_nk (by decide)
  have e2 : wx_u X 136 0 0 200 r = X 200 r := wx_u_nc (by decide)
  refine cw_aload_n C dd_Mo_submit_0 rfl ?_
  refine cw_iload_n C dd_Mo_submit_1 rfl ?_
  refine cw_callV (As := [_]) C kV_Mo_190 wc_34 is_34 dd_Mo_submit_2 rfl rfl (Nat.le_of_ble_eq_true rfl) ⟨(Nat.le_of_ble_eq_true rfl), (Nat.le_of_ble_eq_true rfl)⟩ ⟨(Nat.le_of_ble_eq_true rfl), (Nat.le_of_ble_eq_true rfl)⟩ (mm_Mo_isNode X r hr) (nw_ki ?_)
  refine nw_if_ne (tgt := 10) C dd_Mo_submit_5 (by decide) (by decide) (fun h5 => ?_) (fun h5 => ?_)
  · refine cw_aload_n C dd_Mo_submit_10 rfl ?_
    refine cw_getr (q' := 192) C wc_34 kF_Mo_50 is_34 (by decide) rfl dd_Mo_submit_11 rfl ?_
    refine cw_iload_n C dd_Mo_submit_14 rfl ?_
    refine nw_ialdv C (X 192 r) is_48 (by first | omega | (simp [wx_u] <;> omega)) (by decide) dd_Mo_submit_15 (by repeat (first | rfl | rw [wx_u_eq] | rw [wx_u_nc (by omega)] | rw [wx_u_nk (by omega)])) ?_
    refine cw_iconst (v := nI 1) C dd_Mo_submit_16 (by decide +kernel) ?_
    refine nw_icmp_eq (tgt := 27) C dd_Mo_submit_17 (by decide) (by first | omega | (simp [wx_u] <;> omega)) (by first | omega | (simp [wx_u] <;> omega)) (fun h17 => ?_) (fun h17 => ?_)
    · refine cw_aload_n C dd_Mo_submit_27 rfl ?_
      refine nw_getiv C (X 136 1) wc_34 kF_Mo_176 is_34 (by decide) rfl dd_Mo_submit_28 (by repeat (first | rfl | rw [wx_u_eq] | rw [wx_u_nc (by omega)] | rw [wx_u_nk (by omega)])) ?_
      refine cw_bipush (v := nI 40) C dd_Mo_submit_31 (by decide +kernel) ?_
      refine nw_icmp_eq (tgt := 71) C dd_Mo_submit_33 (by decide) (by first | omega | (simp [wx_u] <;> omega)) (by first | omega | (simp [wx_u] <;> omega)) (fun h33 => ?_) (fun h33 => ?_)
      · refine cw_iconst (v := nI 4294967295) C dd_Mo_submit_71 (by decide +kernel) ?_
        exact cw_ireturn C dd_Mo_submit_72 (Nat.le_of_ble_eq_true rfl) (Nat.le_of_ble_eq_true rfl) ⟨_, rfl, rfl, ⟨by rw [zm_sub, e1, if_neg (by omega)], by rw [zm_sub, e1, if_neg (by omega)]⟩⟩
      · refine cw_iload_n C dd_Mo_submit_36 rfl ?_
        refine cw_iconst (v := nI 0) C dd_Mo_submit_37 (by decide +kernel) ?_
        refine cw_iconst (v := nI 3) C dd_Mo_submit_38 (by decide +kernel) ?_
        refine cw_callS (As := [_, _, _]) C kS_Mo_186 dd_Mo_submit_39 rfl rfl (Nat.le_of_ble_eq_true rfl) ⟨(Nat.le_of_ble_eq_true rfl), (Nat.le_of_ble_eq_true rfl)⟩ ⟨(Nat.le_of_ble_eq_true rfl), (Nat.le_of_ble_eq_true rfl)⟩ (mm_Mo_in _ f 0 _ 4 (by omega) (by decide) (by omega) rfl) (nw_ki ?_)
        refine nw_zeq (tgt := 71) C dd_Mo_submit_42 (by decide) (fun h42 => ?_) (fun h42 => ?_)
        · refine cw_iconst (v := nI 4294967295) C dd_Mo_submit_71 (by decide +kernel) ?_
          exact cw_ireturn C dd_Mo_submit_72 (Nat.le_of_ble_eq_true rfl) (Nat.le_of_ble_eq_true rfl) ⟨_, rfl, rfl, ⟨by rw [zm_sub, e1, if_neg (by omega)], by rw [zm_sub, e1, if_neg (by omega)]⟩⟩
        · refine cw_iload_n C dd_Mo_submit_45 rfl ?_
          refine cw_iconst (v := nI 0) C dd_Mo_submit_46 (by decide +kernel) ?_
          refine cw_iconst (v := nI 3) C dd_Mo_submit_47 (by decide +kernel) ?_
          refine cw_callS (As := [_, _, _]) C kS_Mo_186 dd_Mo_submit_48 rfl rfl (Nat.le_of_ble_eq_true rfl) ⟨(Nat.le_of_ble_eq_true rfl), (Nat.le_of_ble_eq_true rfl)⟩ ⟨(Nat.le_of_ble_eq_true rfl), (Nat.le_of_ble_eq_true rfl)⟩ (mm_Mo_in _ t 0 _ 4 (by omega) (by decide) (by omega) rfl) (nw_ki ?_)
          refine nw_zeq (tgt := 71) C dd_Mo_submit_51 (by decide) (fun h51 => ?_) (fun h51 => ?_)
          · refine cw_iconst (v := nI 4294967295) C dd_Mo_submit_71 (by decide +kernel) ?_
            exact cw_ireturn C dd_Mo_submit_72 (Nat.le_of_ble_eq_true rfl) (Nat.le_of_ble_eq_true rfl) ⟨_, rfl, rfl, ⟨by rw [zm_sub, e1, if_neg (by omega)], by rw [zm_sub, e1, if_neg (by omega)]⟩⟩
          · refine cw_iload_n C dd_Mo_submit_54 rfl ?_
            refine cw_iload_n C dd_Mo_submit_55 rfl ?_
            refine nw_icmp_eq (tgt := 71) C dd_Mo_submit_56 (by decide) (by first | omega | (simp [wx_u] <;> omega)) (by first | omega | (simp [wx_u] <;> omega)) (fun h56 => ?_) (fun h56 => ?_)
            · refine cw_iconst (v := nI 4294967295) C dd_Mo_submit_71 (by decide +kernel) ?_
              exact cw_ireturn C dd_Mo_submit_72 (Nat.le_of_ble_eq_true rfl) (Nat.le_of_ble_eq_true rfl) ⟨_, rfl, rfl, ⟨by rw [zm_sub, e1, if_neg (by omega)], by rw [zm_sub, e1, if_neg (by omega)]⟩⟩
            · refine cw_iload C dd_Mo_submit_59 rfl ?_
              refine cw_iconst (v := nI 1) C dd_Mo_submit_61 (by decide +kernel) ?_
              refine cw_sipush (v := nI 1000) C dd_Mo_submit_62 (by decide +kernel) ?_
              refine cw_callS (As := [_, _, _]) C kS_Mo_186 dd_Mo_submit_65 rfl rfl (Nat.le_of_ble_eq_true rfl) ⟨(Nat.le_of_ble_eq_true rfl), (Nat.le_of_ble_eq_true rfl)⟩ ⟨(Nat.le_of_ble_eq_true rfl), (Nat.le_of_ble_eq_true rfl)⟩ (mm_Mo_in _ a 1 _ 1001 (by omega) (by decide) (by omega) rfl) (nw_ki ?_)
              refine nw_zne (tgt := 73) C dd_Mo_submit_68 (by decide) (fun h68 => ?_) (fun h68 => ?_)
              · have hg : X 136 1 < 40 ∧ f < 4 ∧ t < 4 ∧ f ≠ t ∧ 1 ≤ a ∧ a ≤ 1000 := ⟨by omega, by omega, by omega, h56, by omega, by omega⟩
                refine cw_aload_n C dd_Mo_submit_73 rfl ?_
                refine cw_iload_n C dd_Mo_submit_74 rfl ?_
                by_cases hcut : X 200 r = 0
                · refine cw_callV (As := [_]) C kV_Mo_127 wc_34 is_34 dd_Mo_submit_75 rfl rfl (Nat.le_of_ble_eq_true rfl) ⟨(Nat.le_of_ble_eq_true rfl), (Nat.le_of_ble_eq_true rfl)⟩ ⟨(Nat.le_of_ble_eq_true rfl), (Nat.le_of_ble_eq_true rfl)⟩ (mm_Mo_record_dn (wx_u X 136 0 0) r hr (by rw [e2]; exact hcut)) (nw_ki ?_)
                  refine nw_if_ne (tgt := 84) C dd_Mo_submit_78 (by decide) (by decide) (fun h78 => ?_) (fun h78 => ?_)
                  · exact absurd rfl h78
                  · refine cw_bipush (v := nI 4294967294) C dd_Mo_submit_81 (by decide +kernel) ?_
                    exact cw_ireturn C dd_Mo_submit_83 (Nat.le_of_ble_eq_true rfl) (Nat.le_of_ble_eq_true rfl) ⟨_, rfl, rfl, ⟨by rw [zm_sub, e1, e2, if_pos hg, if_pos hcut], by rw [zm_sub, e1, e2, if_pos hg, if_pos hcut]⟩⟩
                · refine cw_callV (As := [_]) C kV_Mo_127 wc_34 is_34 dd_Mo_submit_75 rfl rfl (Nat.le_of_ble_eq_true rfl) ⟨(Nat.le_of_ble_eq_true rfl), (Nat.le_of_ble_eq_true rfl)⟩ ⟨(Nat.le_of_ble_eq_true rfl), (Nat.le_of_ble_eq_true rfl)⟩ (mm_Mo_record_ok (wx_u X 136 0 0) r hr (by rw [e2]; exact hcut) (by rw [e2]; exact hc)) (nw_ki ?_)
                  refine nw_if_ne (tgt := 84) C dd_Mo_submit_78 (by decide) (by decide) (fun h78 => ?_) (fun h78 => ?_)
                  · have e3 : zm_wrote (wx_u X 136 0 0) r 136 1 = X 136 1 := by rw [zm_wrote_oth _ _ _ (by decide) (by decide)]; exact e1
                    generalize hW : zm_wrote (wx_u X 136 0 0) r = W at e3 ⊢
                    refine cw_aload_n C dd_Mo_submit_84 rfl ?_
                    refine cw_getr (q' := 140) C wc_34 kF_Mo_7 is_34 (by decide) rfl dd_Mo_submit_85 rfl ?_
                    refine cw_aload_n C dd_Mo_submit_88 rfl ?_
                    refine nw_geti C wc_34 kF_Mo_176 is_34 (by decide) rfl dd_Mo_submit_89 ?_
                    refine cw_iload_n C dd_Mo_submit_92 rfl ?_
                    refine nw_iast C is_35 (by first | omega | (simp [wx_u] <;> omega)) (by decide) dd_Mo_submit_93 ?_
                    refine cw_aload_n C dd_Mo_submit_94 rfl ?_
                    refine cw_getr (q' := 144) C wc_34 kF_Mo_13 is_34 (by decide) rfl dd_Mo_submit_95 rfl ?_
                    refine cw_aload_n C dd_Mo_submit_98 rfl ?_
                    refine nw_getiv C (W 136 1) wc_34 kF_Mo_176 is_34 (by decide) rfl dd_Mo_submit_99 (by repeat (first | rfl | rw [wx_u_eq] | rw [wx_u_nc (by omega)] | rw [wx_u_nk (by omega)])) ?_
                    refine cw_iload_n C dd_Mo_submit_102 rfl ?_
                    refine nw_iast C is_36 (by first | omega | (simp [wx_u] <;> omega)) (by decide) dd_Mo_submit_103 ?_
                    refine cw_aload_n C dd_Mo_submit_104 rfl ?_
                    refine cw_getr (q' := 148) C wc_34 kF_Mo_16 is_34 (by decide) rfl dd_Mo_submit_105 rfl ?_
                    refine cw_aload_n C dd_Mo_submit_108 rfl ?_
                    refine nw_getiv C (W 136 1) wc_34 kF_Mo_176 is_34 (by decide) rfl dd_Mo_submit_109 (by repeat (first | rfl | rw [wx_u_eq] | rw [wx_u_nc (by omega)] | rw [wx_u_nk (by omega)])) ?_
                    refine cw_iload C dd_Mo_submit_112 rfl ?_
                    refine nw_iast C is_37 (by first | omega | (simp [wx_u] <;> omega)) (by decide) dd_Mo_submit_114 ?_
                    refine cw_aload_n C dd_Mo_submit_115 rfl ?_
                    refine cw_getr (q' := 152) C wc_34 kF_Mo_19 is_34 (by decide) rfl dd_Mo_submit_116 rfl ?_
                    refine cw_aload_n C dd_Mo_submit_119 rfl ?_
                    refine nw_getiv C (W 136 1) wc_34 kF_Mo_176 is_34 (by decide) rfl dd_Mo_submit_120 (by repeat (first | rfl | rw [wx_u_eq] | rw [wx_u_nc (by omega)] | rw [wx_u_nk (by omega)])) ?_
                    refine cw_iload_n C dd_Mo_submit_123 rfl ?_
                    refine nw_iast C is_38 (by first | omega | (simp [wx_u] <;> omega)) (by decide) dd_Mo_submit_124 ?_
                    refine cw_aload_n C dd_Mo_submit_125 rfl ?_
                    refine cw_dup C dd_Mo_submit_126 rfl ?_
                    refine nw_getiv C (W 136 1) wc_34 kF_Mo_176 is_34 (by decide) rfl dd_Mo_submit_127 (by repeat (first | rfl | rw [wx_u_eq] | rw [wx_u_nc (by omega)] | rw [wx_u_nk (by omega)])) ?_
                    refine cw_iconst (v := nI 1) C dd_Mo_submit_130 (by decide +kernel) ?_
                    refine nw_iadd C dd_Mo_submit_131 ?_
                    refine nw_puti C wc_34 kF_Mo_176 is_34 (by decide) rfl rfl rfl rfl dd_Mo_submit_132 ?_
                    refine cw_aload_n C dd_Mo_submit_135 rfl ?_
                    refine nw_getiv C (W 136 1 + 1) wc_34 kF_Mo_176 is_34 (by decide) rfl dd_Mo_submit_136 (by repeat (first | rfl | rw [wx_u_eq] | rw [wx_u_nc (by omega)] | rw [wx_u_nk (by omega)])) ?_
                    refine cw_iconst (v := nI 1) C dd_Mo_submit_139 (by decide +kernel) ?_
                    refine nw_isub C dd_Mo_submit_140 (by omega) ?_
                    exact cw_ireturn C dd_Mo_submit_141 (Nat.le_of_ble_eq_true rfl) (Nat.le_of_ble_eq_true rfl) ⟨_, rfl, rfl, ⟨by rw [zm_sub, e1, e2, if_pos hg, if_neg hcut]; simp only [wx_u_eq, e3]; rfl, by rw [zm_sub, e1, e2, if_pos hg, if_neg hcut, hW]; simp only [e3]⟩⟩
                  · exact absurd h78 (by decide)
              · refine cw_iconst (v := nI 4294967295) C dd_Mo_submit_71 (by decide +kernel) ?_
                exact cw_ireturn C dd_Mo_submit_72 (Nat.le_of_ble_eq_true rfl) (Nat.le_of_ble_eq_true rfl) ⟨_, rfl, rfl, ⟨by rw [zm_sub, e1, if_neg (by omega)], by rw [zm_sub, e1, if_neg (by omega)]⟩⟩
    · exact absurd hup h17
  · exact absurd h5 (by decide)
