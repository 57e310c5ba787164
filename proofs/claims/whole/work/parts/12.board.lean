set_option maxRecDepth 100000 in
set_option maxHeartbeats 4000000 in
theorem mm_Bo_has (X : wx_S) (n : Nat) (hn : n < 4294967296) (hc : X 44 3 < 2147483648) : nw_M wd_all yy_Bo_has cc_Bo_has 2 (some .boolean) 1 0 0 [.ref 44, .int (nI n)] X (fun v X' => v = some (.int (nI (zb_n (n < X 44 3)))) ∧ X' = X) := by
  refine nw_of [some (.ref 44), some (.int (nI n))] (by decide +kernel) rfl (Nat.le_of_ble_eq_true rfl) rfl ?_
  intro p l e s m args below meth c A g C
  refine cw_iload_n C dd_Bo_has_0 rfl ?_
  refine nw_if_lt (tgt := 16) C dd_Bo_has_1 (by decide) (by first | omega | (simp [wx_u] <;> omega)) (fun h1 => ?_) (fun h1 => ?_)
  · refine cw_iconst (v := nI 0) C dd_Bo_has_16 (by decide +kernel) ?_
    exact cw_zreturn C dd_Bo_has_17 (nw_zn (by decide)) (Nat.le_of_ble_eq_true rfl) (Nat.le_of_ble_eq_true rfl) ⟨_, rfl, rfl, ⟨by first | exact congrArg (fun z => some (Value.int z)) (zb_t (by first | omega | (simp [wx_u] <;> omega))) | exact congrArg (fun z => some (Value.int z)) (zb_f (by first | omega | (simp [wx_u] <;> omega))), rfl⟩⟩
  · refine cw_iload_n C dd_Bo_has_4 rfl ?_
    refine cw_aload_n C dd_Bo_has_5 rfl ?_
    refine nw_geti C wc_11 kF_Bo_21 is_11 (by decide) rfl dd_Bo_has_6 ?_
    refine nw_icmp_ge (tgt := 16) C dd_Bo_has_9 (by decide) (by first | omega | (simp [wx_u] <;> omega)) (by first | omega | (simp [wx_u] <;> omega)) (fun h9 => ?_) (fun h9 => ?_)
    · refine cw_iconst (v := nI 0) C dd_Bo_has_16 (by decide +kernel) ?_
      exact cw_zreturn C dd_Bo_has_17 (nw_zn (by decide)) (Nat.le_of_ble_eq_true rfl) (Nat.le_of_ble_eq_true rfl) ⟨_, rfl, rfl, ⟨by first | exact congrArg (fun z => some (Value.int z)) (zb_t (by first | omega | (simp [wx_u] <;> omega))) | exact congrArg (fun z => some (Value.int z)) (zb_f (by first | omega | (simp [wx_u] <;> omega))), rfl⟩⟩
    · refine cw_iconst (v := nI 1) C dd_Bo_has_12 (by decide +kernel) ?_
      refine cw_goto (tgt := 17) C dd_Bo_has_13 (by decide) ?_
      exact cw_zreturn C dd_Bo_has_17 (nw_zn (by decide)) (Nat.le_of_ble_eq_true rfl) (Nat.le_of_ble_eq_true rfl) ⟨_, rfl, rfl, ⟨by first | exact congrArg (fun z => some (Value.int z)) (zb_t (by first | omega | (simp [wx_u] <;> omega))) | exact congrArg (fun z => some (Value.int z)) (zb_f (by first | omega | (simp [wx_u] <;> omega))), rfl⟩⟩
set_option maxRecDepth 100000 in
set_option maxHeartbeats 4000000 in
theorem mm_Bo_isFull (X : wx_S) (hc : X 44 3 < 2147483648) : nw_M wd_all yy_Bo_isFull cc_Bo_isFull 1 (some .boolean) 1 0 0 [.ref 44] X (fun v X' => v = some (.int (nI (zb_n (800 ≤ X 44 3)))) ∧ X' = X) := by
  refine nw_of [some (.ref 44)] (by decide +kernel) rfl (Nat.le_of_ble_eq_true rfl) rfl ?_
  intro p l e s m args below meth c A g C
  refine cw_aload_n C dd_Bo_isFull_0 rfl ?_
  refine nw_geti C wc_11 kF_Bo_21 is_11 (by decide) rfl dd_Bo_isFull_1 ?_
  refine cw_sipush (v := nI 800) C dd_Bo_isFull_4 (by decide +kernel) ?_
  refine nw_icmp_lt (tgt := 14) C dd_Bo_isFull_7 (by decide) (by first | omega | (simp [wx_u] <;> omega)) (by first | omega | (simp [wx_u] <;> omega)) (fun h7 => ?_) (fun h7 => ?_)
  · refine cw_iconst (v := nI 0) C dd_Bo_isFull_14 (by decide +kernel) ?_
    exact cw_zreturn C dd_Bo_isFull_15 (nw_zn (by decide)) (Nat.le_of_ble_eq_true rfl) (Nat.le_of_ble_eq_true rfl) ⟨_, rfl, rfl, ⟨by first | exact congrArg (fun z => some (Value.int z)) (zb_t (by first | omega | (simp [wx_u] <;> omega))) | exact congrArg (fun z => some (Value.int z)) (zb_f (by first | omega | (simp [wx_u] <;> omega))), rfl⟩⟩
  · refine cw_iconst (v := nI 1) C dd_Bo_isFull_10 (by decide +kernel) ?_
    refine cw_goto (tgt := 15) C dd_Bo_isFull_11 (by decide) ?_
    exact cw_zreturn C dd_Bo_isFull_15 (nw_zn (by decide)) (Nat.le_of_ble_eq_true rfl) (Nat.le_of_ble_eq_true rfl) ⟨_, rfl, rfl, ⟨by first | exact congrArg (fun z => some (Value.int z)) (zb_t (by first | omega | (simp [wx_u] <;> omega))) | exact congrArg (fun z => some (Value.int z)) (zb_f (by first | omega | (simp [wx_u] <;> omega))), rfl⟩⟩
set_option maxRecDepth 100000 in
set_option maxHeartbeats 4000000 in
theorem mm_Bo_post (X : wx_S) (k q u : Nat) (hc : X 44 3 < 802) : nw_M wd_all yy_Bo_post cc_Bo_post 4 (some .int) 1 0 0 [.ref 44, .int (nI k), .int (nI q), .int (nI u)] X (fun v X' => v = some (.int (nI (X 44 3))) ∧ X' = wx_u (wx_u (wx_u (wx_u X 48 (X 44 3) k) 52 (X 44 3) q) 56 (X 44 3) u) 44 3 (X 44 3 + 1)) := by
  refine nw_of [some (.ref 44), some (.int (nI k)), some (.int (nI q)), some (.int (nI u))] (by decide +kernel) rfl (Nat.le_of_ble_eq_true rfl) rfl ?_
  intro p l e s m args below meth c A g C
  refine cw_aload_n C dd_Bo_post_0 rfl ?_
  refine cw_getr (q' := 48) C wc_11 kF_Bo_9 is_11 (by decide) rfl dd_Bo_post_1 rfl ?_
  refine cw_aload_n C dd_Bo_post_4 rfl ?_
  refine nw_geti C wc_11 kF_Bo_21 is_11 (by decide) rfl dd_Bo_post_5 ?_
  refine cw_iload_n C dd_Bo_post_8 rfl ?_
  refine nw_iast C is_12 (by first | omega | (simp [wx_u] <;> omega)) (by decide) dd_Bo_post_9 ?_
  refine cw_aload_n C dd_Bo_post_10 rfl ?_
  refine cw_getr (q' := 52) C wc_11 kF_Bo_15 is_11 (by decide) rfl dd_Bo_post_11 rfl ?_
  refine cw_aload_n C dd_Bo_post_14 rfl ?_
  refine nw_geti C wc_11 kF_Bo_21 is_11 (by decide) rfl dd_Bo_post_15 ?_
  refine cw_iload_n C dd_Bo_post_18 rfl ?_
  refine nw_iast C is_13 (by first | omega | (simp [wx_u] <;> omega)) (by decide) dd_Bo_post_19 ?_
  refine cw_aload_n C dd_Bo_post_20 rfl ?_
  refine cw_getr (q' := 56) C wc_11 kF_Bo_18 is_11 (by decide) rfl dd_Bo_post_21 rfl ?_
  refine cw_aload_n C dd_Bo_post_24 rfl ?_
  refine nw_geti C wc_11 kF_Bo_21 is_11 (by decide) rfl dd_Bo_post_25 ?_
  refine cw_iload_n C dd_Bo_post_28 rfl ?_
  refine nw_iast C is_14 (by first | omega | (simp [wx_u] <;> omega)) (by decide) dd_Bo_post_29 ?_
  refine cw_aload_n C dd_Bo_post_30 rfl ?_
  refine cw_dup C dd_Bo_post_31 rfl ?_
  refine nw_geti C wc_11 kF_Bo_21 is_11 (by decide) rfl dd_Bo_post_32 ?_
  refine cw_iconst (v := nI 1) C dd_Bo_post_35 (by decide +kernel) ?_
  refine nw_iadd C dd_Bo_post_36 ?_
  refine nw_puti C wc_11 kF_Bo_21 is_11 (by decide) rfl rfl rfl rfl dd_Bo_post_37 ?_
  refine cw_aload_n C dd_Bo_post_40 rfl ?_
  refine nw_geti C wc_11 kF_Bo_21 is_11 (by decide) rfl dd_Bo_post_41 ?_
  refine cw_iconst (v := nI 1) C dd_Bo_post_44 (by decide +kernel) ?_
  refine nw_isub C dd_Bo_post_45 (by first | omega | (simp [wx_u] <;> omega)) ?_
  exact cw_ireturn C dd_Bo_post_46 (Nat.le_of_ble_eq_true rfl) (Nat.le_of_ble_eq_true rfl) ⟨_, rfl, rfl, ⟨rfl, rfl⟩⟩
