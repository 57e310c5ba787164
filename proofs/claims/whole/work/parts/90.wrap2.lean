/-! the wrappers (written by wip/whole/m40.py) -/
theorem ct_iLa : Cond.initialized "DagLedgerLaw" ∈ wd_tb := ct_w (by decide +kernel) (by decide +kernel)
theorem dd_La_submit_0 : decode cc_La_submit 0 = .ok (.aload 5, 2) := by decide +kernel
theorem dd_La_submit_2 : decode cc_La_submit 2 = .ok (.iconst 0, 1) := by decide +kernel
theorem dd_La_submit_3 : decode cc_La_submit 3 = .ok (.aload_n 0, 1) := by decide +kernel
theorem dd_La_submit_4 : decode cc_La_submit 4 = .ok (.iload_n 1, 1) := by decide +kernel
theorem dd_La_submit_5 : decode cc_La_submit 5 = .ok (.iload_n 2, 1) := by decide +kernel
theorem dd_La_submit_6 : decode cc_La_submit 6 = .ok (.iload_n 3, 1) := by decide +kernel
theorem dd_La_submit_7 : decode cc_La_submit 7 = .ok (.iload 4, 2) := by decide +kernel
theorem dd_La_submit_9 : decode cc_La_submit 9 = .ok (.invokevirtual 7, 3) := by decide +kernel
theorem dd_La_submit_12 : decode cc_La_submit 12 = .ok (.i2l, 1) := by decide +kernel
theorem dd_La_submit_13 : decode cc_La_submit 13 = .ok (.lastore, 1) := by decide +kernel
theorem dd_La_submit_14 : decode cc_La_submit 14 = .ok (.goto 11, 3) := by decide +kernel
theorem dd_La_submit_17 : decode cc_La_submit 17 = .ok (.astore 6, 2) := by decide +kernel
theorem dd_La_submit_19 : decode cc_La_submit 19 = .ok (.iconst 1, 1) := by decide +kernel
theorem dd_La_submit_20 : decode cc_La_submit 20 = .ok (.ireturn, 1) := by decide +kernel
theorem dd_La_submit_21 : decode cc_La_submit 21 = .ok (.astore 6, 2) := by decide +kernel
theorem dd_La_submit_23 : decode cc_La_submit 23 = .ok (.iconst 2, 1) := by decide +kernel
theorem dd_La_submit_24 : decode cc_La_submit 24 = .ok (.ireturn, 1) := by decide +kernel
theorem dd_La_submit_25 : decode cc_La_submit 25 = .ok (.iconst 0, 1) := by decide +kernel
theorem dd_La_submit_26 : decode cc_La_submit 26 = .ok (.ireturn, 1) := by decide +kernel
abbrev hh_La_submit : List (Nat × Nat × Nat × Nat) := [(0, 14, 17, 13), (0, 14, 21, 15)]
theorem kW_La_submit : ct_kS "DagLedgerLaw" 58 yy_La_submit cc_La_submit 7 hh_La_submit 6 := ⟨ct_w (by decide +kernel) (by decide +kernel), ct_w (by decide +kernel) (by decide +kernel), ct_iLa, ct_w (by decide +kernel) (by decide +kernel), ⟨by decide, by decide, by decide +kernel⟩⟩
set_option maxRecDepth 100000 in
set_option maxHeartbeats 4000000 in
theorem ct_La_submit {X X1 : wx_S} {v n f t a : Nat} (hA : nw_M wd_all yy_Le_submit cc_Le_submit 7 (some .int) 5 0 0 [.ref 0, .int (nI n), .int (nI f), .int (nI t), .int (nI a)] X (fun w X' => w = some (.int (nI v)) ∧ X' = X1)) : ct_V yy_La_submit cc_La_submit 7 hh_La_submit 9 0 0 [.ref 0, .int (nI n), .int (nI f), .int (nI t), .int (nI a), .ref 260] X (fun w X' => w = some (.int (nI 0)) ∧ X' = wx_u X1 260 0 (zl_ v)) := by
  refine ct_V.of [some (.ref 0), some (.int (nI n)), some (.int (nI f)), some (.int (nI t)), some (.int (nI a)), some (.ref 260), none] (by decide +kernel) rfl (Nat.le_of_ble_eq_true rfl) rfl ?_
  intro p l e s m args below meth c A g S0 C hx D
  refine cw_aload C dd_La_submit_0 rfl ?_
  refine cw_iconst (v := nI 0) C dd_La_submit_2 (by decide +kernel) ?_
  refine cw_aload_n C dd_La_submit_3 rfl ?_
  refine cw_iload_n C dd_La_submit_4 rfl ?_
  refine cw_iload_n C dd_La_submit_5 rfl ?_
  refine cw_iload_n C dd_La_submit_6 rfl ?_
  refine cw_iload C dd_La_submit_7 rfl ?_
  refine cw_callV (As := [_, _, _, _]) C kV_La_7 wc_0 is_0 dd_La_submit_9 rfl rfl (Nat.le_of_ble_eq_true rfl) ⟨(Nat.le_of_ble_eq_true rfl), (Nat.le_of_ble_eq_true rfl)⟩ ⟨(Nat.le_of_ble_eq_true rfl), (Nat.le_of_ble_eq_true rfl)⟩ hA (nw_ki ?_)
  refine cw_i2l C dd_La_submit_12 ?_
  rw [← zl_lN]
  refine nw_last C is_65 (by decide) (by decide) dd_La_submit_13 ?_
  refine cw_goto (tgt := 25) C dd_La_submit_14 (by decide) ?_
  refine cw_iconst (v := nI 0) C dd_La_submit_25 (by decide +kernel) ?_
  exact cw_ireturn C dd_La_submit_26 (Nat.le_of_ble_eq_true rfl) (Nat.le_of_ble_eq_true rfl) ⟨_, rfl, rfl, ⟨rfl, rfl⟩⟩
set_option maxRecDepth 100000 in
set_option maxHeartbeats 4000000 in
theorem ct_La_submit_bad {X : wx_S} {n f t a : Nat} (hM : ct_M yy_Le_submit cc_Le_submit 7 (some .int) 8 [.ref 0, .int (nI n), .int (nI f), .int (nI t), .int (nI a)] X ct_IO) : ct_V yy_La_submit cc_La_submit 7 hh_La_submit 9 1 6 [.ref 0, .int (nI n), .int (nI f), .int (nI t), .int (nI a), .ref 260] X (fun w X' => w = some (.int (nI 1)) ∧ X' = X) := by
  refine ct_V.of [some (.ref 0), some (.int (nI n)), some (.int (nI f)), some (.int (nI t)), some (.int (nI a)), some (.ref 260), none] (by decide +kernel) rfl (Nat.le_of_ble_eq_true rfl) rfl ?_
  intro p l e s m args below meth c A g S0 C hx D
  refine cw_aload C dd_La_submit_0 rfl ?_
  refine cw_iconst (v := nI 0) C dd_La_submit_2 (by decide +kernel) ?_
  refine cw_aload_n C dd_La_submit_3 rfl ?_
  refine cw_iload_n C dd_La_submit_4 rfl ?_
  refine cw_iload_n C dd_La_submit_5 rfl ?_
  refine cw_iload_n C dd_La_submit_6 rfl ?_
  refine cw_iload C dd_La_submit_7 rfl ?_
  refine ct_catch1 (As := [_, _, _, _]) C D hx (by decide) kV_La_7 wc_0 is_0 dd_La_submit_9 rfl rfl (Nat.le_of_ble_eq_true rfl) ⟨(Nat.le_of_ble_eq_true rfl), (Nat.le_of_ble_eq_true rfl)⟩ ⟨(Nat.le_of_ble_eq_true rfl), (Nat.le_of_ble_eq_true rfl)⟩ hM (fun x => ?_)
  refine cw_astore_q C dd_La_submit_17 (Nat.le_of_ble_eq_true rfl) ?_
  refine cw_iconst (v := nI 1) C dd_La_submit_19 (by decide +kernel) ?_
  exact cw_ireturn C dd_La_submit_20 (Nat.le_of_ble_eq_true rfl) (Nat.le_of_ble_eq_true rfl) ⟨_, rfl, rfl, ⟨rfl, rfl⟩⟩
set_option maxRecDepth 100000 in
set_option maxHeartbeats 4000000 in
theorem ct_La_submit_dn {X : wx_S} {n f t a : Nat} (hM : ct_M yy_Le_submit cc_Le_submit 7 (some .int) 8 [.ref 0, .int (nI n), .int (nI f), .int (nI t), .int (nI a)] X ct_IS) : ct_V yy_La_submit cc_La_submit 7 hh_La_submit 9 1 6 [.ref 0, .int (nI n), .int (nI f), .int (nI t), .int (nI a), .ref 260] X (fun w X' => w = some (.int (nI 2)) ∧ X' = X) := by
  refine ct_V.of [some (.ref 0), some (.int (nI n)), some (.int (nI f)), some (.int (nI t)), some (.int (nI a)), some (.ref 260), none] (by decide +kernel) rfl (Nat.le_of_ble_eq_true rfl) rfl ?_
  intro p l e s m args below meth c A g S0 C hx D
  refine cw_aload C dd_La_submit_0 rfl ?_
  refine cw_iconst (v := nI 0) C dd_La_submit_2 (by decide +kernel) ?_
  refine cw_aload_n C dd_La_submit_3 rfl ?_
  refine cw_iload_n C dd_La_submit_4 rfl ?_
  refine cw_iload_n C dd_La_submit_5 rfl ?_
  refine cw_iload_n C dd_La_submit_6 rfl ?_
  refine cw_iload C dd_La_submit_7 rfl ?_
  refine ct_catch2 (As := [_, _, _, _]) C D hx (by decide) (by decide) kV_La_7 wc_0 is_0 dd_La_submit_9 rfl rfl (Nat.le_of_ble_eq_true rfl) ⟨(Nat.le_of_ble_eq_true rfl), (Nat.le_of_ble_eq_true rfl)⟩ ⟨(Nat.le_of_ble_eq_true rfl), (Nat.le_of_ble_eq_true rfl)⟩ hM (fun x => ?_)
  refine cw_astore_q C dd_La_submit_21 (Nat.le_of_ble_eq_true rfl) ?_
  refine cw_iconst (v := nI 2) C dd_La_submit_23 (by decide +kernel) ?_
  exact cw_ireturn C dd_La_submit_24 (Nat.le_of_ble_eq_true rfl) (Nat.le_of_ble_eq_true rfl) ⟨_, rfl, rfl, ⟨rfl, rfl⟩⟩
theorem dd_La_deliver_0 : decode cc_La_deliver 0 = .ok (.aload_n 3, 1) := by decide +kernel
theorem dd_La_deliver_1 : decode cc_La_deliver 1 = .ok (.iconst 0, 1) := by decide +kernel
theorem dd_La_deliver_2 : decode cc_La_deliver 2 = .ok (.aload_n 0, 1) := by decide +kernel
theorem dd_La_deliver_3 : decode cc_La_deliver 3 = .ok (.iload_n 1, 1) := by decide +kernel
theorem dd_La_deliver_4 : decode cc_La_deliver 4 = .ok (.iload_n 2, 1) := by decide +kernel
theorem dd_La_deliver_5 : decode cc_La_deliver 5 = .ok (.invokevirtual 17, 3) := by decide +kernel
theorem dd_La_deliver_8 : decode cc_La_deliver 8 = .ok (.ifCond .eq 7, 3) := by decide +kernel
theorem dd_La_deliver_11 : decode cc_La_deliver 11 = .ok (.lconst 1, 1) := by decide +kernel
theorem dd_La_deliver_12 : decode cc_La_deliver 12 = .ok (.goto 4, 3) := by decide +kernel
theorem dd_La_deliver_15 : decode cc_La_deliver 15 = .ok (.lconst 0, 1) := by decide +kernel
theorem dd_La_deliver_16 : decode cc_La_deliver 16 = .ok (.lastore, 1) := by decide +kernel
theorem dd_La_deliver_17 : decode cc_La_deliver 17 = .ok (.goto 7, 3) := by decide +kernel
theorem dd_La_deliver_20 : decode cc_La_deliver 20 = .ok (.astore 4, 2) := by decide +kernel
theorem dd_La_deliver_22 : decode cc_La_deliver 22 = .ok (.iconst 1, 1) := by decide +kernel
theorem dd_La_deliver_23 : decode cc_La_deliver 23 = .ok (.ireturn, 1) := by decide +kernel
theorem dd_La_deliver_24 : decode cc_La_deliver 24 = .ok (.iconst 0, 1) := by decide +kernel
theorem dd_La_deliver_25 : decode cc_La_deliver 25 = .ok (.ireturn, 1) := by decide +kernel
abbrev hh_La_deliver : List (Nat × Nat × Nat × Nat) := [(0, 17, 20, 13)]
theorem kW_La_deliver : ct_kS "DagLedgerLaw" 68 yy_La_deliver cc_La_deliver 5 hh_La_deliver 4 := ⟨ct_w (by decide +kernel) (by decide +kernel), ct_w (by decide +kernel) (by decide +kernel), ct_iLa, ct_w (by decide +kernel) (by decide +kernel), ⟨by decide, by decide, by decide +kernel⟩⟩
set_option maxRecDepth 100000 in
set_option maxHeartbeats 4000000 in
theorem ct_La_deliver {X X1 : wx_S} {v k n : Nat} (hv : v ≤ 1) (hA : nw_M wd_all yy_Le_deliver cc_Le_deliver 4 (some .boolean) 8 0 0 [.ref 0, .int (nI k), .int (nI n)] X (fun w X' => w = some (.int (nI v)) ∧ X' = X1)) : ct_V yy_La_deliver cc_La_deliver 5 hh_La_deliver 9 0 0 [.ref 0, .int (nI k), .int (nI n), .ref 260] X (fun w X' => w = some (.int (nI 0)) ∧ X' = wx_u X1 260 0 (v)) := by
  refine ct_V.of [some (.ref 0), some (.int (nI k)), some (.int (nI n)), some (.ref 260), none] (by decide +kernel) rfl (Nat.le_of_ble_eq_true rfl) rfl ?_
  intro p l e s m args below meth c A g S0 C hx D
  refine cw_aload_n C dd_La_deliver_0 rfl ?_
  refine cw_iconst (v := nI 0) C dd_La_deliver_1 (by decide +kernel) ?_
  refine cw_aload_n C dd_La_deliver_2 rfl ?_
  refine cw_iload_n C dd_La_deliver_3 rfl ?_
  refine cw_iload_n C dd_La_deliver_4 rfl ?_
  refine cw_callV (As := [_, _]) C kV_La_17 wc_0 is_0 dd_La_deliver_5 rfl rfl (Nat.le_of_ble_eq_true rfl) ⟨(Nat.le_of_ble_eq_true rfl), (Nat.le_of_ble_eq_true rfl)⟩ ⟨(Nat.le_of_ble_eq_true rfl), (Nat.le_of_ble_eq_true rfl)⟩ hA (nw_ki ?_)
  refine nw_if_eq (tgt := 15) C dd_La_deliver_8 (by decide) (by omega) (fun h9 => ?_) (fun h9 => ?_)
  · subst h9
    refine cw_lconst (v := lN 0) C dd_La_deliver_15 (by decide +kernel) ?_
    refine nw_last C is_65 (by decide) (by decide) dd_La_deliver_16 ?_
    refine cw_goto (tgt := 24) C dd_La_deliver_17 (by decide) ?_
    refine cw_iconst (v := nI 0) C dd_La_deliver_24 (by decide +kernel) ?_
    exact cw_ireturn C dd_La_deliver_25 (Nat.le_of_ble_eq_true rfl) (Nat.le_of_ble_eq_true rfl) ⟨_, rfl, rfl, ⟨rfl, rfl⟩⟩
  · have h9 : v = 1 := by omega
    subst h9
    refine cw_lconst (v := lN 1) C dd_La_deliver_11 (by decide +kernel) ?_
    refine cw_goto (tgt := 16) C dd_La_deliver_12 (by decide) ?_
    refine nw_last C is_65 (by decide) (by decide) dd_La_deliver_16 ?_
    refine cw_goto (tgt := 24) C dd_La_deliver_17 (by decide) ?_
    refine cw_iconst (v := nI 0) C dd_La_deliver_24 (by decide +kernel) ?_
    exact cw_ireturn C dd_La_deliver_25 (Nat.le_of_ble_eq_true rfl) (Nat.le_of_ble_eq_true rfl) ⟨_, rfl, rfl, ⟨rfl, rfl⟩⟩
set_option maxRecDepth 100000 in
set_option maxHeartbeats 4000000 in
theorem ct_La_deliver_bad {X : wx_S} {k n : Nat} (hM : ct_M yy_Le_deliver cc_Le_deliver 4 (some .boolean) 8 [.ref 0, .int (nI k), .int (nI n)] X ct_IO) : ct_V yy_La_deliver cc_La_deliver 5 hh_La_deliver 9 1 6 [.ref 0, .int (nI k), .int (nI n), .ref 260] X (fun w X' => w = some (.int (nI 1)) ∧ X' = X) := by
  refine ct_V.of [some (.ref 0), some (.int (nI k)), some (.int (nI n)), some (.ref 260), none] (by decide +kernel) rfl (Nat.le_of_ble_eq_true rfl) rfl ?_
  intro p l e s m args below meth c A g S0 C hx D
  refine cw_aload_n C dd_La_deliver_0 rfl ?_
  refine cw_iconst (v := nI 0) C dd_La_deliver_1 (by decide +kernel) ?_
  refine cw_aload_n C dd_La_deliver_2 rfl ?_
  refine cw_iload_n C dd_La_deliver_3 rfl ?_
  refine cw_iload_n C dd_La_deliver_4 rfl ?_
  refine ct_catch1 (As := [_, _]) C D hx (by decide) kV_La_17 wc_0 is_0 dd_La_deliver_5 rfl rfl (Nat.le_of_ble_eq_true rfl) ⟨(Nat.le_of_ble_eq_true rfl), (Nat.le_of_ble_eq_true rfl)⟩ ⟨(Nat.le_of_ble_eq_true rfl), (Nat.le_of_ble_eq_true rfl)⟩ hM (fun x => ?_)
  refine cw_astore_q C dd_La_deliver_20 (Nat.le_of_ble_eq_true rfl) ?_
  refine cw_iconst (v := nI 1) C dd_La_deliver_22 (by decide +kernel) ?_
  exact cw_ireturn C dd_La_deliver_23 (Nat.le_of_ble_eq_true rfl) (Nat.le_of_ble_eq_true rfl) ⟨_, rfl, rfl, ⟨rfl, rfl⟩⟩
theorem dd_La_pump_0 : decode cc_La_pump 0 = .ok (.aload_n 3, 1) := by decide +kernel
theorem dd_La_pump_1 : decode cc_La_pump 1 = .ok (.iconst 0, 1) := by decide +kernel
theorem dd_La_pump_2 : decode cc_La_pump 2 = .ok (.aload_n 0, 1) := by decide +kernel
theorem dd_La_pump_3 : decode cc_La_pump 3 = .ok (.iload_n 1, 1) := by decide +kernel
theorem dd_La_pump_4 : decode cc_La_pump 4 = .ok (.iload_n 2, 1) := by decide +kernel
theorem dd_La_pump_5 : decode cc_La_pump 5 = .ok (.invokevirtual 21, 3) := by decide +kernel
theorem dd_La_pump_8 : decode cc_La_pump 8 = .ok (.i2l, 1) := by decide +kernel
theorem dd_La_pump_9 : decode cc_La_pump 9 = .ok (.lastore, 1) := by decide +kernel
theorem dd_La_pump_10 : decode cc_La_pump 10 = .ok (.goto 11, 3) := by decide +kernel
theorem dd_La_pump_13 : decode cc_La_pump 13 = .ok (.astore 4, 2) := by decide +kernel
theorem dd_La_pump_15 : decode cc_La_pump 15 = .ok (.iconst 1, 1) := by decide +kernel
theorem dd_La_pump_16 : decode cc_La_pump 16 = .ok (.ireturn, 1) := by decide +kernel
theorem dd_La_pump_17 : decode cc_La_pump 17 = .ok (.astore 4, 2) := by decide +kernel
theorem dd_La_pump_19 : decode cc_La_pump 19 = .ok (.iconst 2, 1) := by decide +kernel
theorem dd_La_pump_20 : decode cc_La_pump 20 = .ok (.ireturn, 1) := by decide +kernel
theorem dd_La_pump_21 : decode cc_La_pump 21 = .ok (.iconst 0, 1) := by decide +kernel
theorem dd_La_pump_22 : decode cc_La_pump 22 = .ok (.ireturn, 1) := by decide +kernel
abbrev hh_La_pump : List (Nat × Nat × Nat × Nat) := [(0, 10, 13, 13), (0, 10, 17, 15)]
theorem kW_La_pump : ct_kS "DagLedgerLaw" 72 yy_La_pump cc_La_pump 5 hh_La_pump 4 := ⟨ct_w (by decide +kernel) (by decide +kernel), ct_w (by decide +kernel) (by decide +kernel), ct_iLa, ct_w (by decide +kernel) (by decide +kernel), ⟨by decide, by decide, by decide +kernel⟩⟩
set_option maxRecDepth 100000 in
set_option maxHeartbeats 4000000 in
theorem ct_La_pump {X X1 : wx_S} {v n k : Nat} (hA : nw_M wd_all yy_Le_pump cc_Le_pump 5 (some .int) 8 0 0 [.ref 0, .int (nI n), .int (nI k)] X (fun w X' => w = some (.int (nI v)) ∧ X' = X1)) : ct_V yy_La_pump cc_La_pump 5 hh_La_pump 9 0 0 [.ref 0, .int (nI n), .int (nI k), .ref 260] X (fun w X' => w = some (.int (nI 0)) ∧ X' = wx_u X1 260 0 (zl_ v)) := by
  refine ct_V.of [some (.ref 0), some (.int (nI n)), some (.int (nI k)), some (.ref 260), none] (by decide +kernel) rfl (Nat.le_of_ble_eq_true rfl) rfl ?_
  intro p l e s m args below meth c A g S0 C hx D
  refine cw_aload_n C dd_La_pump_0 rfl ?_
  refine cw_iconst (v := nI 0) C dd_La_pump_1 (by decide +kernel) ?_
  refine cw_aload_n C dd_La_pump_2 rfl ?_
  refine cw_iload_n C dd_La_pump_3 rfl ?_
  refine cw_iload_n C dd_La_pump_4 rfl ?_
  refine cw_callV (As := [_, _]) C kV_La_21 wc_0 is_0 dd_La_pump_5 rfl rfl (Nat.le_of_ble_eq_true rfl) ⟨(Nat.le_of_ble_eq_true rfl), (Nat.le_of_ble_eq_true rfl)⟩ ⟨(Nat.le_of_ble_eq_true rfl), (Nat.le_of_ble_eq_true rfl)⟩ hA (nw_ki ?_)
  refine cw_i2l C dd_La_pump_8 ?_
  rw [← zl_lN]
  refine nw_last C is_65 (by decide) (by decide) dd_La_pump_9 ?_
  refine cw_goto (tgt := 21) C dd_La_pump_10 (by decide) ?_
  refine cw_iconst (v := nI 0) C dd_La_pump_21 (by decide +kernel) ?_
  exact cw_ireturn C dd_La_pump_22 (Nat.le_of_ble_eq_true rfl) (Nat.le_of_ble_eq_true rfl) ⟨_, rfl, rfl, ⟨rfl, rfl⟩⟩
set_option maxRecDepth 100000 in
set_option maxHeartbeats 4000000 in
theorem ct_La_pump_bad {X : wx_S} {n k : Nat} (hM : ct_M yy_Le_pump cc_Le_pump 5 (some .int) 8 [.ref 0, .int (nI n), .int (nI k)] X ct_IO) : ct_V yy_La_pump cc_La_pump 5 hh_La_pump 9 1 6 [.ref 0, .int (nI n), .int (nI k), .ref 260] X (fun w X' => w = some (.int (nI 1)) ∧ X' = X) := by
  refine ct_V.of [some (.ref 0), some (.int (nI n)), some (.int (nI k)), some (.ref 260), none] (by decide +kernel) rfl (Nat.le_of_ble_eq_true rfl) rfl ?_
  intro p l e s m args below meth c A g S0 C hx D
  refine cw_aload_n C dd_La_pump_0 rfl ?_
  refine cw_iconst (v := nI 0) C dd_La_pump_1 (by decide +kernel) ?_
  refine cw_aload_n C dd_La_pump_2 rfl ?_
  refine cw_iload_n C dd_La_pump_3 rfl ?_
  refine cw_iload_n C dd_La_pump_4 rfl ?_
  refine ct_catch1 (As := [_, _]) C D hx (by decide) kV_La_21 wc_0 is_0 dd_La_pump_5 rfl rfl (Nat.le_of_ble_eq_true rfl) ⟨(Nat.le_of_ble_eq_true rfl), (Nat.le_of_ble_eq_true rfl)⟩ ⟨(Nat.le_of_ble_eq_true rfl), (Nat.le_of_ble_eq_true rfl)⟩ hM (fun x => ?_)
  refine cw_astore_q C dd_La_pump_13 (Nat.le_of_ble_eq_true rfl) ?_
  refine cw_iconst (v := nI 1) C dd_La_pump_15 (by decide +kernel) ?_
  exact cw_ireturn C dd_La_pump_16 (Nat.le_of_ble_eq_true rfl) (Nat.le_of_ble_eq_true rfl) ⟨_, rfl, rfl, ⟨rfl, rfl⟩⟩
set_option maxRecDepth 100000 in
set_option maxHeartbeats 4000000 in
theorem ct_La_pump_dn {X : wx_S} {n k : Nat} (hM : ct_M yy_Le_pump cc_Le_pump 5 (some .int) 8 [.ref 0, .int (nI n), .int (nI k)] X ct_IS) : ct_V yy_La_pump cc_La_pump 5 hh_La_pump 9 1 6 [.ref 0, .int (nI n), .int (nI k), .ref 260] X (fun w X' => w = some (.int (nI 2)) ∧ X' = X) := by
  refine ct_V.of [some (.ref 0), some (.int (nI n)), some (.int (nI k)), some (.ref 260), none] (by decide +kernel) rfl (Nat.le_of_ble_eq_true rfl) rfl ?_
  intro p l e s m args below meth c A g S0 C hx D
  refine cw_aload_n C dd_La_pump_0 rfl ?_
  refine cw_iconst (v := nI 0) C dd_La_pump_1 (by decide +kernel) ?_
  refine cw_aload_n C dd_La_pump_2 rfl ?_
  refine cw_iload_n C dd_La_pump_3 rfl ?_
  refine cw_iload_n C dd_La_pump_4 rfl ?_
  refine ct_catch2 (As := [_, _]) C D hx (by decide) (by decide) kV_La_21 wc_0 is_0 dd_La_pump_5 rfl rfl (Nat.le_of_ble_eq_true rfl) ⟨(Nat.le_of_ble_eq_true rfl), (Nat.le_of_ble_eq_true rfl)⟩ ⟨(Nat.le_of_ble_eq_true rfl), (Nat.le_of_ble_eq_true rfl)⟩ hM (fun x => ?_)
  refine cw_astore_q C dd_La_pump_17 (Nat.le_of_ble_eq_true rfl) ?_
  refine cw_iconst (v := nI 2) C dd_La_pump_19 (by decide +kernel) ?_
  exact cw_ireturn C dd_La_pump_20 (Nat.le_of_ble_eq_true rfl) (Nat.le_of_ble_eq_true rfl) ⟨_, rfl, rfl, ⟨rfl, rfl⟩⟩
theorem dd_La_tick_0 : decode cc_La_tick 0 = .ok (.aload_n 2, 1) := by decide +kernel
theorem dd_La_tick_1 : decode cc_La_tick 1 = .ok (.iconst 0, 1) := by decide +kernel
theorem dd_La_tick_2 : decode cc_La_tick 2 = .ok (.aload_n 0, 1) := by decide +kernel
theorem dd_La_tick_3 : decode cc_La_tick 3 = .ok (.iload_n 1, 1) := by decide +kernel
theorem dd_La_tick_4 : decode cc_La_tick 4 = .ok (.invokevirtual 25, 3) := by decide +kernel
theorem dd_La_tick_7 : decode cc_La_tick 7 = .ok (.ifCond .eq 7, 3) := by decide +kernel
theorem dd_La_tick_10 : decode cc_La_tick 10 = .ok (.lconst 1, 1) := by decide +kernel
theorem dd_La_tick_11 : decode cc_La_tick 11 = .ok (.goto 4, 3) := by decide +kernel
theorem dd_La_tick_14 : decode cc_La_tick 14 = .ok (.lconst 0, 1) := by decide +kernel
theorem dd_La_tick_15 : decode cc_La_tick 15 = .ok (.lastore, 1) := by decide +kernel
theorem dd_La_tick_16 : decode cc_La_tick 16 = .ok (.goto 6, 3) := by decide +kernel
theorem dd_La_tick_19 : decode cc_La_tick 19 = .ok (.astore_n 3, 1) := by decide +kernel
theorem dd_La_tick_20 : decode cc_La_tick 20 = .ok (.iconst 1, 1) := by decide +kernel
theorem dd_La_tick_21 : decode cc_La_tick 21 = .ok (.ireturn, 1) := by decide +kernel
theorem dd_La_tick_22 : decode cc_La_tick 22 = .ok (.iconst 0, 1) := by decide +kernel
theorem dd_La_tick_23 : decode cc_La_tick 23 = .ok (.ireturn, 1) := by decide +kernel
abbrev hh_La_tick : List (Nat × Nat × Nat × Nat) := [(0, 16, 19, 13)]
theorem kW_La_tick : ct_kS "DagLedgerLaw" 75 yy_La_tick cc_La_tick 4 hh_La_tick 3 := ⟨ct_w (by decide +kernel) (by decide +kernel), ct_w (by decide +kernel) (by decide +kernel), ct_iLa, ct_w (by decide +kernel) (by decide +kernel), ⟨by decide, by decide, by decide +kernel⟩⟩
set_option maxRecDepth 100000 in
set_option maxHeartbeats 4000000 in
theorem ct_La_tick {X X1 : wx_S} {v n : Nat} (hv : v ≤ 1) (hA : nw_M wd_all yy_Le_tick cc_Le_tick 3 (some .boolean) 8 0 0 [.ref 0, .int (nI n)] X (fun w X' => w = some (.int (nI v)) ∧ X' = X1)) : ct_V yy_La_tick cc_La_tick 4 hh_La_tick 9 0 0 [.ref 0, .int (nI n), .ref 260] X (fun w X' => w = some (.int (nI 0)) ∧ X' = wx_u X1 260 0 (v)) := by
  refine ct_V.of [some (.ref 0), some (.int (nI n)), some (.ref 260), none] (by decide +kernel) rfl (Nat.le_of_ble_eq_true rfl) rfl ?_
  intro p l e s m args below meth c A g S0 C hx D
  refine cw_aload_n C dd_La_tick_0 rfl ?_
  refine cw_iconst (v := nI 0) C dd_La_tick_1 (by decide +kernel) ?_
  refine cw_aload_n C dd_La_tick_2 rfl ?_
  refine cw_iload_n C dd_La_tick_3 rfl ?_
  refine cw_callV (As := [_]) C kV_La_25 wc_0 is_0 dd_La_tick_4 rfl rfl (Nat.le_of_ble_eq_true rfl) ⟨(Nat.le_of_ble_eq_true rfl), (Nat.le_of_ble_eq_true rfl)⟩ ⟨(Nat.le_of_ble_eq_true rfl), (Nat.le_of_ble_eq_true rfl)⟩ hA (nw_ki ?_)
  refine nw_if_eq (tgt := 14) C dd_La_tick_7 (by decide) (by omega) (fun h9 => ?_) (fun h9 => ?_)
  · subst h9
    refine cw_lconst (v := lN 0) C dd_La_tick_14 (by decide +kernel) ?_
    refine nw_last C is_65 (by decide) (by decide) dd_La_tick_15 ?_
    refine cw_goto (tgt := 22) C dd_La_tick_16 (by decide) ?_
    refine cw_iconst (v := nI 0) C dd_La_tick_22 (by decide +kernel) ?_
    exact cw_ireturn C dd_La_tick_23 (Nat.le_of_ble_eq_true rfl) (Nat.le_of_ble_eq_true rfl) ⟨_, rfl, rfl, ⟨rfl, rfl⟩⟩
  · have h9 : v = 1 := by omega
    subst h9
    refine cw_lconst (v := lN 1) C dd_La_tick_10 (by decide +kernel) ?_
    refine cw_goto (tgt := 15) C dd_La_tick_11 (by decide) ?_
    refine nw_last C is_65 (by decide) (by decide) dd_La_tick_15 ?_
    refine cw_goto (tgt := 22) C dd_La_tick_16 (by decide) ?_
    refine cw_iconst (v := nI 0) C dd_La_tick_22 (by decide +kernel) ?_
    exact cw_ireturn C dd_La_tick_23 (Nat.le_of_ble_eq_true rfl) (Nat.le_of_ble_eq_true rfl) ⟨_, rfl, rfl, ⟨rfl, rfl⟩⟩
set_option maxRecDepth 100000 in
set_option maxHeartbeats 4000000 in
theorem ct_La_tick_bad {X : wx_S} {n : Nat} (hM : ct_M yy_Le_tick cc_Le_tick 3 (some .boolean) 8 [.ref 0, .int (nI n)] X ct_IO) : ct_V yy_La_tick cc_La_tick 4 hh_La_tick 9 1 6 [.ref 0, .int (nI n), .ref 260] X (fun w X' => w = some (.int (nI 1)) ∧ X' = X) := by
  refine ct_V.of [some (.ref 0), some (.int (nI n)), some (.ref 260), none] (by decide +kernel) rfl (Nat.le_of_ble_eq_true rfl) rfl ?_
  intro p l e s m args below meth c A g S0 C hx D
  refine cw_aload_n C dd_La_tick_0 rfl ?_
  refine cw_iconst (v := nI 0) C dd_La_tick_1 (by decide +kernel) ?_
  refine cw_aload_n C dd_La_tick_2 rfl ?_
  refine cw_iload_n C dd_La_tick_3 rfl ?_
  refine ct_catch1 (As := [_]) C D hx (by decide) kV_La_25 wc_0 is_0 dd_La_tick_4 rfl rfl (Nat.le_of_ble_eq_true rfl) ⟨(Nat.le_of_ble_eq_true rfl), (Nat.le_of_ble_eq_true rfl)⟩ ⟨(Nat.le_of_ble_eq_true rfl), (Nat.le_of_ble_eq_true rfl)⟩ hM (fun x => ?_)
  refine cw_astore_nq C dd_La_tick_19 (Nat.le_of_ble_eq_true rfl) ?_
  refine cw_iconst (v := nI 1) C dd_La_tick_20 (by decide +kernel) ?_
  exact cw_ireturn C dd_La_tick_21 (Nat.le_of_ble_eq_true rfl) (Nat.le_of_ble_eq_true rfl) ⟨_, rfl, rfl, ⟨rfl, rfl⟩⟩
theorem dd_La_crash_0 : decode cc_La_crash 0 = .ok (.aload_n 2, 1) := by decide +kernel
theorem dd_La_crash_1 : decode cc_La_crash 1 = .ok (.iconst 0, 1) := by decide +kernel
theorem dd_La_crash_2 : decode cc_La_crash 2 = .ok (.aload_n 0, 1) := by decide +kernel
theorem dd_La_crash_3 : decode cc_La_crash 3 = .ok (.iload_n 1, 1) := by decide +kernel
theorem dd_La_crash_4 : decode cc_La_crash 4 = .ok (.invokevirtual 29, 3) := by decide +kernel
theorem dd_La_crash_7 : decode cc_La_crash 7 = .ok (.ifCond .eq 7, 3) := by decide +kernel
theorem dd_La_crash_10 : decode cc_La_crash 10 = .ok (.lconst 1, 1) := by decide +kernel
theorem dd_La_crash_11 : decode cc_La_crash 11 = .ok (.goto 4, 3) := by decide +kernel
theorem dd_La_crash_14 : decode cc_La_crash 14 = .ok (.lconst 0, 1) := by decide +kernel
theorem dd_La_crash_15 : decode cc_La_crash 15 = .ok (.lastore, 1) := by decide +kernel
theorem dd_La_crash_16 : decode cc_La_crash 16 = .ok (.goto 6, 3) := by decide +kernel
theorem dd_La_crash_19 : decode cc_La_crash 19 = .ok (.astore_n 3, 1) := by decide +kernel
theorem dd_La_crash_20 : decode cc_La_crash 20 = .ok (.iconst 1, 1) := by decide +kernel
theorem dd_La_crash_21 : decode cc_La_crash 21 = .ok (.ireturn, 1) := by decide +kernel
theorem dd_La_crash_22 : decode cc_La_crash 22 = .ok (.iconst 0, 1) := by decide +kernel
theorem dd_La_crash_23 : decode cc_La_crash 23 = .ok (.ireturn, 1) := by decide +kernel
abbrev hh_La_crash : List (Nat × Nat × Nat × Nat) := [(0, 16, 19, 13)]
theorem kW_La_crash : ct_kS "DagLedgerLaw" 79 yy_La_crash cc_La_crash 4 hh_La_crash 3 := ⟨ct_w (by decide +kernel) (by decide +kernel), ct_w (by decide +kernel) (by decide +kernel), ct_iLa, ct_w (by decide +kernel) (by decide +kernel), ⟨by decide, by decide, by decide +kernel⟩⟩
set_option maxRecDepth 100000 in
set_option maxHeartbeats 4000000 in
theorem ct_La_crash {X X1 : wx_S} {v n : Nat} (hv : v ≤ 1) (hA : nw_M wd_all yy_Le_crash cc_Le_crash 3 (some .boolean) 4 0 0 [.ref 0, .int (nI n)] X (fun w X' => w = some (.int (nI v)) ∧ X' = X1)) : ct_V yy_La_crash cc_La_crash 4 hh_La_crash 9 0 0 [.ref 0, .int (nI n), .ref 260] X (fun w X' => w = some (.int (nI 0)) ∧ X' = wx_u X1 260 0 (v)) := by
  refine ct_V.of [some (.ref 0), some (.int (nI n)), some (.ref 260), none] (by decide +kernel) rfl (Nat.le_of_ble_eq_true rfl) rfl ?_
  intro p l e s m args below meth c A g S0 C hx D
  refine cw_aload_n C dd_La_crash_0 rfl ?_
  refine cw_iconst (v := nI 0) C dd_La_crash_1 (by decide +kernel) ?_
  refine cw_aload_n C dd_La_crash_2 rfl ?_
  refine cw_iload_n C dd_La_crash_3 rfl ?_
  refine cw_callV (As := [_]) C kV_La_29 wc_0 is_0 dd_La_crash_4 rfl rfl (Nat.le_of_ble_eq_true rfl) ⟨(Nat.le_of_ble_eq_true rfl), (Nat.le_of_ble_eq_true rfl)⟩ ⟨(Nat.le_of_ble_eq_true rfl), (Nat.le_of_ble_eq_true rfl)⟩ hA (nw_ki ?_)
  refine nw_if_eq (tgt := 14) C dd_La_crash_7 (by decide) (by omega) (fun h9 => ?_) (fun h9 => ?_)
  · subst h9
    refine cw_lconst (v := lN 0) C dd_La_crash_14 (by decide +kernel) ?_
    refine nw_last C is_65 (by decide) (by decide) dd_La_crash_15 ?_
    refine cw_goto (tgt := 22) C dd_La_crash_16 (by decide) ?_
    refine cw_iconst (v := nI 0) C dd_La_crash_22 (by decide +kernel) ?_
    exact cw_ireturn C dd_La_crash_23 (Nat.le_of_ble_eq_true rfl) (Nat.le_of_ble_eq_true rfl) ⟨_, rfl, rfl, ⟨rfl, rfl⟩⟩
  · have h9 : v = 1 := by omega
    subst h9
    refine cw_lconst (v := lN 1) C dd_La_crash_10 (by decide +kernel) ?_
    refine cw_goto (tgt := 15) C dd_La_crash_11 (by decide) ?_
    refine nw_last C is_65 (by decide) (by decide) dd_La_crash_15 ?_
    refine cw_goto (tgt := 22) C dd_La_crash_16 (by decide) ?_
    refine cw_iconst (v := nI 0) C dd_La_crash_22 (by decide +kernel) ?_
    exact cw_ireturn C dd_La_crash_23 (Nat.le_of_ble_eq_true rfl) (Nat.le_of_ble_eq_true rfl) ⟨_, rfl, rfl, ⟨rfl, rfl⟩⟩
set_option maxRecDepth 100000 in
set_option maxHeartbeats 4000000 in
theorem ct_La_crash_bad {X : wx_S} {n : Nat} (hM : ct_M yy_Le_crash cc_Le_crash 3 (some .boolean) 8 [.ref 0, .int (nI n)] X ct_IO) : ct_V yy_La_crash cc_La_crash 4 hh_La_crash 9 1 6 [.ref 0, .int (nI n), .ref 260] X (fun w X' => w = some (.int (nI 1)) ∧ X' = X) := by
  refine ct_V.of [some (.ref 0), some (.int (nI n)), some (.ref 260), none] (by decide +kernel) rfl (Nat.le_of_ble_eq_true rfl) rfl ?_
  intro p l e s m args below meth c A g S0 C hx D
  refine cw_aload_n C dd_La_crash_0 rfl ?_
  refine cw_iconst (v := nI 0) C dd_La_crash_1 (by decide +kernel) ?_
  refine cw_aload_n C dd_La_crash_2 rfl ?_
  refine cw_iload_n C dd_La_crash_3 rfl ?_
  refine ct_catch1 (As := [_]) C D hx (by decide) kV_La_29 wc_0 is_0 dd_La_crash_4 rfl rfl (Nat.le_of_ble_eq_true rfl) ⟨(Nat.le_of_ble_eq_true rfl), (Nat.le_of_ble_eq_true rfl)⟩ ⟨(Nat.le_of_ble_eq_true rfl), (Nat.le_of_ble_eq_true rfl)⟩ hM (fun x => ?_)
  refine cw_astore_nq C dd_La_crash_19 (Nat.le_of_ble_eq_true rfl) ?_
  refine cw_iconst (v := nI 1) C dd_La_crash_20 (by decide +kernel) ?_
  exact cw_ireturn C dd_La_crash_21 (Nat.le_of_ble_eq_true rfl) (Nat.le_of_ble_eq_true rfl) ⟨_, rfl, rfl, ⟨rfl, rfl⟩⟩
theorem dd_La_restart_0 : decode cc_La_restart 0 = .ok (.aload_n 2, 1) := by decide +kernel
theorem dd_La_restart_1 : decode cc_La_restart 1 = .ok (.iconst 0, 1) := by decide +kernel
theorem dd_La_restart_2 : decode cc_La_restart 2 = .ok (.aload_n 0, 1) := by decide +kernel
theorem dd_La_restart_3 : decode cc_La_restart 3 = .ok (.iload_n 1, 1) := by decide +kernel
theorem dd_La_restart_4 : decode cc_La_restart 4 = .ok (.invokevirtual 32, 3) := by decide +kernel
theorem dd_La_restart_7 : decode cc_La_restart 7 = .ok (.ifCond .eq 7, 3) := by decide +kernel
theorem dd_La_restart_10 : decode cc_La_restart 10 = .ok (.lconst 1, 1) := by decide +kernel
theorem dd_La_restart_11 : decode cc_La_restart 11 = .ok (.goto 4, 3) := by decide +kernel
theorem dd_La_restart_14 : decode cc_La_restart 14 = .ok (.lconst 0, 1) := by decide +kernel
theorem dd_La_restart_15 : decode cc_La_restart 15 = .ok (.lastore, 1) := by decide +kernel
theorem dd_La_restart_16 : decode cc_La_restart 16 = .ok (.goto 6, 3) := by decide +kernel
theorem dd_La_restart_19 : decode cc_La_restart 19 = .ok (.astore_n 3, 1) := by decide +kernel
theorem dd_La_restart_20 : decode cc_La_restart 20 = .ok (.iconst 1, 1) := by decide +kernel
theorem dd_La_restart_21 : decode cc_La_restart 21 = .ok (.ireturn, 1) := by decide +kernel
theorem dd_La_restart_22 : decode cc_La_restart 22 = .ok (.iconst 0, 1) := by decide +kernel
theorem dd_La_restart_23 : decode cc_La_restart 23 = .ok (.ireturn, 1) := by decide +kernel
abbrev hh_La_restart : List (Nat × Nat × Nat × Nat) := [(0, 16, 19, 13)]
theorem kW_La_restart : ct_kS "DagLedgerLaw" 82 yy_La_restart cc_La_restart 4 hh_La_restart 3 := ⟨ct_w (by decide +kernel) (by decide +kernel), ct_w (by decide +kernel) (by decide +kernel), ct_iLa, ct_w (by decide +kernel) (by decide +kernel), ⟨by decide, by decide, by decide +kernel⟩⟩
set_option maxRecDepth 100000 in
set_option maxHeartbeats 4000000 in
theorem ct_La_restart {X X1 : wx_S} {v n : Nat} (hv : v ≤ 1) (hA : nw_M wd_all yy_Le_restart cc_Le_restart 3 (some .boolean) 7 0 0 [.ref 0, .int (nI n)] X (fun w X' => w = some (.int (nI v)) ∧ X' = X1)) : ct_V yy_La_restart cc_La_restart 4 hh_La_restart 9 0 0 [.ref 0, .int (nI n), .ref 260] X (fun w X' => w = some (.int (nI 0)) ∧ X' = wx_u X1 260 0 (v)) := by
  refine ct_V.of [some (.ref 0), some (.int (nI n)), some (.ref 260), none] (by decide +kernel) rfl (Nat.le_of_ble_eq_true rfl) rfl ?_
  intro p l e s m args below meth c A g S0 C hx D
  refine cw_aload_n C dd_La_restart_0 rfl ?_
  refine cw_iconst (v := nI 0) C dd_La_restart_1 (by decide +kernel) ?_
  refine cw_aload_n C dd_La_restart_2 rfl ?_
  refine cw_iload_n C dd_La_restart_3 rfl ?_
  refine cw_callV (As := [_]) C kV_La_32 wc_0 is_0 dd_La_restart_4 rfl rfl (Nat.le_of_ble_eq_true rfl) ⟨(Nat.le_of_ble_eq_true rfl), (Nat.le_of_ble_eq_true rfl)⟩ ⟨(Nat.le_of_ble_eq_true rfl), (Nat.le_of_ble_eq_true rfl)⟩ hA (nw_ki ?_)
  refine nw_if_eq (tgt := 14) C dd_La_restart_7 (by decide) (by omega) (fun h9 => ?_) (fun h9 => ?_)
  · subst h9
    refine cw_lconst (v := lN 0) C dd_La_restart_14 (by decide +kernel) ?_
    refine nw_last C is_65 (by decide) (by decide) dd_La_restart_15 ?_
    refine cw_goto (tgt := 22) C dd_La_restart_16 (by decide) ?_
    refine cw_iconst (v := nI 0) C dd_La_restart_22 (by decide +kernel) ?_
    exact cw_ireturn C dd_La_restart_23 (Nat.le_of_ble_eq_true rfl) (Nat.le_of_ble_eq_true rfl) ⟨_, rfl, rfl, ⟨rfl, rfl⟩⟩
  · have h9 : v = 1 := by omega
    subst h9
    refine cw_lconst (v := lN 1) C dd_La_restart_10 (by decide +kernel) ?_
    refine cw_goto (tgt := 15) C dd_La_restart_11 (by decide) ?_
    refine nw_last C is_65 (by decide) (by decide) dd_La_restart_15 ?_
    refine cw_goto (tgt := 22) C dd_La_restart_16 (by decide) ?_
    refine cw_iconst (v := nI 0) C dd_La_restart_22 (by decide +kernel) ?_
    exact cw_ireturn C dd_La_restart_23 (Nat.le_of_ble_eq_true rfl) (Nat.le_of_ble_eq_true rfl) ⟨_, rfl, rfl, ⟨rfl, rfl⟩⟩
set_option maxRecDepth 100000 in
set_option maxHeartbeats 4000000 in
theorem ct_La_restart_bad {X : wx_S} {n : Nat} (hM : ct_M yy_Le_restart cc_Le_restart 3 (some .boolean) 8 [.ref 0, .int (nI n)] X ct_IO) : ct_V yy_La_restart cc_La_restart 4 hh_La_restart 9 1 6 [.ref 0, .int (nI n), .ref 260] X (fun w X' => w = some (.int (nI 1)) ∧ X' = X) := by
  refine ct_V.of [some (.ref 0), some (.int (nI n)), some (.ref 260), none] (by decide +kernel) rfl (Nat.le_of_ble_eq_true rfl) rfl ?_
  intro p l e s m args below meth c A g S0 C hx D
  refine cw_aload_n C dd_La_restart_0 rfl ?_
  refine cw_iconst (v := nI 0) C dd_La_restart_1 (by decide +kernel) ?_
  refine cw_aload_n C dd_La_restart_2 rfl ?_
  refine cw_iload_n C dd_La_restart_3 rfl ?_
  refine ct_catch1 (As := [_]) C D hx (by decide) kV_La_32 wc_0 is_0 dd_La_restart_4 rfl rfl (Nat.le_of_ble_eq_true rfl) ⟨(Nat.le_of_ble_eq_true rfl), (Nat.le_of_ble_eq_true rfl)⟩ ⟨(Nat.le_of_ble_eq_true rfl), (Nat.le_of_ble_eq_true rfl)⟩ hM (fun x => ?_)
  refine cw_astore_nq C dd_La_restart_19 (Nat.le_of_ble_eq_true rfl) ?_
  refine cw_iconst (v := nI 1) C dd_La_restart_20 (by decide +kernel) ?_
  exact cw_ireturn C dd_La_restart_21 (Nat.le_of_ble_eq_true rfl) (Nat.le_of_ble_eq_true rfl) ⟨_, rfl, rfl, ⟨rfl, rfl⟩⟩
theorem dd_La_cut_0 : decode cc_La_cut 0 = .ok (.aload_n 3, 1) := by decide +kernel
theorem dd_La_cut_1 : decode cc_La_cut 1 = .ok (.iconst 0, 1) := by decide +kernel
theorem dd_La_cut_2 : decode cc_La_cut 2 = .ok (.aload_n 0, 1) := by decide +kernel
theorem dd_La_cut_3 : decode cc_La_cut 3 = .ok (.iload_n 1, 1) := by decide +kernel
theorem dd_La_cut_4 : decode cc_La_cut 4 = .ok (.iload_n 2, 1) := by decide +kernel
theorem dd_La_cut_5 : decode cc_La_cut 5 = .ok (.invokevirtual 35, 3) := by decide +kernel
theorem dd_La_cut_8 : decode cc_La_cut 8 = .ok (.ifCond .eq 7, 3) := by decide +kernel
theorem dd_La_cut_11 : decode cc_La_cut 11 = .ok (.lconst 1, 1) := by decide +kernel
theorem dd_La_cut_12 : decode cc_La_cut 12 = .ok (.goto 4, 3) := by decide +kernel
theorem dd_La_cut_15 : decode cc_La_cut 15 = .ok (.lconst 0, 1) := by decide +kernel
theorem dd_La_cut_16 : decode cc_La_cut 16 = .ok (.lastore, 1) := by decide +kernel
theorem dd_La_cut_17 : decode cc_La_cut 17 = .ok (.goto 7, 3) := by decide +kernel
theorem dd_La_cut_20 : decode cc_La_cut 20 = .ok (.astore 4, 2) := by decide +kernel
theorem dd_La_cut_22 : decode cc_La_cut 22 = .ok (.iconst 1, 1) := by decide +kernel
theorem dd_La_cut_23 : decode cc_La_cut 23 = .ok (.ireturn, 1) := by decide +kernel
theorem dd_La_cut_24 : decode cc_La_cut 24 = .ok (.iconst 0, 1) := by decide +kernel
theorem dd_La_cut_25 : decode cc_La_cut 25 = .ok (.ireturn, 1) := by decide +kernel
abbrev hh_La_cut : List (Nat × Nat × Nat × Nat) := [(0, 17, 20, 13)]
theorem kW_La_cut : ct_kS "DagLedgerLaw" 85 yy_La_cut cc_La_cut 5 hh_La_cut 4 := ⟨ct_w (by decide +kernel) (by decide +kernel), ct_w (by decide +kernel) (by decide +kernel), ct_iLa, ct_w (by decide +kernel) (by decide +kernel), ⟨by decide, by decide, by decide +kernel⟩⟩
set_option maxRecDepth 100000 in
set_option maxHeartbeats 4000000 in
theorem ct_La_cut {X X1 : wx_S} {v n k : Nat} (hv : v ≤ 1) (hA : nw_M wd_all yy_Le_cut cc_Le_cut 4 (some .boolean) 2 0 0 [.ref 0, .int (nI n), .int (nI k)] X (fun w X' => w = some (.int (nI v)) ∧ X' = X1)) : ct_V yy_La_cut cc_La_cut 5 hh_La_cut 9 0 0 [.ref 0, .int (nI n), .int (nI k), .ref 260] X (fun w X' => w = some (.int (nI 0)) ∧ X' = wx_u X1 260 0 (v)) := by
  refine ct_V.of [some (.ref 0), some (.int (nI n)), some (.int (nI k)), some (.ref 260), none] (by decide +kernel) rfl (Nat.le_of_ble_eq_true rfl) rfl ?_
  intro p l e s m args below meth c A g S0 C hx D
  refine cw_aload_n C dd_La_cut_0 rfl ?_
  refine cw_iconst (v := nI 0) C dd_La_cut_1 (by decide +kernel) ?_
  refine cw_aload_n C dd_La_cut_2 rfl ?_
  refine cw_iload_n C dd_La_cut_3 rfl ?_
  refine cw_iload_n C dd_La_cut_4 rfl ?_
  refine cw_callV (As := [_, _]) C kV_La_35 wc_0 is_0 dd_La_cut_5 rfl rfl (Nat.le_of_ble_eq_true rfl) ⟨(Nat.le_of_ble_eq_true rfl), (Nat.le_of_ble_eq_true rfl)⟩ ⟨(Nat.le_of_ble_eq_true rfl), (Nat.le_of_ble_eq_true rfl)⟩ hA (nw_ki ?_)
  refine nw_if_eq (tgt := 15) C dd_La_cut_8 (by decide) (by omega) (fun h9 => ?_) (fun h9 => ?_)
  · subst h9
    refine cw_lconst (v := lN 0) C dd_La_cut_15 (by decide +kernel) ?_
    refine nw_last C is_65 (by decide) (by decide) dd_La_cut_16 ?_
    refine cw_goto (tgt := 24) C dd_La_cut_17 (by decide) ?_
    refine cw_iconst (v := nI 0) C dd_La_cut_24 (by decide +kernel) ?_
    exact cw_ireturn C dd_La_cut_25 (Nat.le_of_ble_eq_true rfl) (Nat.le_of_ble_eq_true rfl) ⟨_, rfl, rfl, ⟨rfl, rfl⟩⟩
  · have h9 : v = 1 := by omega
    subst h9
    refine cw_lconst (v := lN 1) C dd_La_cut_11 (by decide +kernel) ?_
    refine cw_goto (tgt := 16) C dd_La_cut_12 (by decide) ?_
    refine nw_last C is_65 (by decide) (by decide) dd_La_cut_16 ?_
    refine cw_goto (tgt := 24) C dd_La_cut_17 (by decide) ?_
    refine cw_iconst (v := nI 0) C dd_La_cut_24 (by decide +kernel) ?_
    exact cw_ireturn C dd_La_cut_25 (Nat.le_of_ble_eq_true rfl) (Nat.le_of_ble_eq_true rfl) ⟨_, rfl, rfl, ⟨rfl, rfl⟩⟩
set_option maxRecDepth 100000 in
set_option maxHeartbeats 4000000 in
theorem ct_La_cut_bad {X : wx_S} {n k : Nat} (hM : ct_M yy_Le_cut cc_Le_cut 4 (some .boolean) 8 [.ref 0, .int (nI n), .int (nI k)] X ct_IO) : ct_V yy_La_cut cc_La_cut 5 hh_La_cut 9 1 6 [.ref 0, .int (nI n), .int (nI k), .ref 260] X (fun w X' => w = some (.int (nI 1)) ∧ X' = X) := by
  refine ct_V.of [some (.ref 0), some (.int (nI n)), some (.int (nI k)), some (.ref 260), none] (by decide +kernel) rfl (Nat.le_of_ble_eq_true rfl) rfl ?_
  intro p l e s m args below meth c A g S0 C hx D
  refine cw_aload_n C dd_La_cut_0 rfl ?_
  refine cw_iconst (v := nI 0) C dd_La_cut_1 (by decide +kernel) ?_
  refine cw_aload_n C dd_La_cut_2 rfl ?_
  refine cw_iload_n C dd_La_cut_3 rfl ?_
  refine cw_iload_n C dd_La_cut_4 rfl ?_
  refine ct_catch1 (As := [_, _]) C D hx (by decide) kV_La_35 wc_0 is_0 dd_La_cut_5 rfl rfl (Nat.le_of_ble_eq_true rfl) ⟨(Nat.le_of_ble_eq_true rfl), (Nat.le_of_ble_eq_true rfl)⟩ ⟨(Nat.le_of_ble_eq_true rfl), (Nat.le_of_ble_eq_true rfl)⟩ hM (fun x => ?_)
  refine cw_astore_q C dd_La_cut_20 (Nat.le_of_ble_eq_true rfl) ?_
  refine cw_iconst (v := nI 1) C dd_La_cut_22 (by decide +kernel) ?_
  exact cw_ireturn C dd_La_cut_23 (Nat.le_of_ble_eq_true rfl) (Nat.le_of_ble_eq_true rfl) ⟨_, rfl, rfl, ⟨rfl, rfl⟩⟩
theorem dd_La_corrupt_0 : decode cc_La_corrupt 0 = .ok (.aload_n 2, 1) := by decide +kernel
theorem dd_La_corrupt_1 : decode cc_La_corrupt 1 = .ok (.iconst 0, 1) := by decide +kernel
theorem dd_La_corrupt_2 : decode cc_La_corrupt 2 = .ok (.aload_n 0, 1) := by decide +kernel
theorem dd_La_corrupt_3 : decode cc_La_corrupt 3 = .ok (.iload_n 1, 1) := by decide +kernel
theorem dd_La_corrupt_4 : decode cc_La_corrupt 4 = .ok (.invokevirtual 38, 3) := by decide +kernel
theorem dd_La_corrupt_7 : decode cc_La_corrupt 7 = .ok (.ifCond .eq 7, 3) := by decide +kernel
theorem dd_La_corrupt_10 : decode cc_La_corrupt 10 = .ok (.lconst 1, 1) := by decide +kernel
theorem dd_La_corrupt_11 : decode cc_La_corrupt 11 = .ok (.goto 4, 3) := by decide +kernel
theorem dd_La_corrupt_14 : decode cc_La_corrupt 14 = .ok (.lconst 0, 1) := by decide +kernel
theorem dd_La_corrupt_15 : decode cc_La_corrupt 15 = .ok (.lastore, 1) := by decide +kernel
theorem dd_La_corrupt_16 : decode cc_La_corrupt 16 = .ok (.goto 6, 3) := by decide +kernel
theorem dd_La_corrupt_19 : decode cc_La_corrupt 19 = .ok (.astore_n 3, 1) := by decide +kernel
theorem dd_La_corrupt_20 : decode cc_La_corrupt 20 = .ok (.iconst 1, 1) := by decide +kernel
theorem dd_La_corrupt_21 : decode cc_La_corrupt 21 = .ok (.ireturn, 1) := by decide +kernel
theorem dd_La_corrupt_22 : decode cc_La_corrupt 22 = .ok (.iconst 0, 1) := by decide +kernel
theorem dd_La_corrupt_23 : decode cc_La_corrupt 23 = .ok (.ireturn, 1) := by decide +kernel
abbrev hh_La_corrupt : List (Nat × Nat × Nat × Nat) := [(0, 16, 19, 13)]
theorem kW_La_corrupt : ct_kS "DagLedgerLaw" 88 yy_La_corrupt cc_La_corrupt 4 hh_La_corrupt 3 := ⟨ct_w (by decide +kernel) (by decide +kernel), ct_w (by decide +kernel) (by decide +kernel), ct_iLa, ct_w (by decide +kernel) (by decide +kernel), ⟨by decide, by decide, by decide +kernel⟩⟩
set_option maxRecDepth 100000 in
set_option maxHeartbeats 4000000 in
theorem ct_La_corrupt {X X1 : wx_S} {v n : Nat} (hv : v ≤ 1) (hA : nw_M wd_all yy_Le_corrupt cc_Le_corrupt 3 (some .boolean) 2 0 0 [.ref 0, .int (nI n)] X (fun w X' => w = some (.int (nI v)) ∧ X' = X1)) : ct_V yy_La_corrupt cc_La_corrupt 4 hh_La_corrupt 9 0 0 [.ref 0, .int (nI n), .ref 260] X (fun w X' => w = some (.int (nI 0)) ∧ X' = wx_u X1 260 0 (v)) := by
  refine ct_V.of [some (.ref 0), some (.int (nI n)), some (.ref 260), none] (by decide +kernel) rfl (Nat.le_of_ble_eq_true rfl) rfl ?_
  intro p l e s m args below meth c A g S0 C hx D
  refine cw_aload_n C dd_La_corrupt_0 rfl ?_
  refine cw_iconst (v := nI 0) C dd_La_corrupt_1 (by decide +kernel) ?_
  refine cw_aload_n C dd_La_corrupt_2 rfl ?_
  refine cw_iload_n C dd_La_corrupt_3 rfl ?_
  refine cw_callV (As := [_]) C kV_La_38 wc_0 is_0 dd_La_corrupt_4 rfl rfl (Nat.le_of_ble_eq_true rfl) ⟨(Nat.le_of_ble_eq_true rfl), (Nat.le_of_ble_eq_true rfl)⟩ ⟨(Nat.le_of_ble_eq_true rfl), (Nat.le_of_ble_eq_true rfl)⟩ hA (nw_ki ?_)
  refine nw_if_eq (tgt := 14) C dd_La_corrupt_7 (by decide) (by omega) (fun h9 => ?_) (fun h9 => ?_)
  · subst h9
    refine cw_lconst (v := lN 0) C dd_La_corrupt_14 (by decide +kernel) ?_
    refine nw_last C is_65 (by decide) (by decide) dd_La_corrupt_15 ?_
    refine cw_goto (tgt := 22) C dd_La_corrupt_16 (by decide) ?_
    refine cw_iconst (v := nI 0) C dd_La_corrupt_22 (by decide +kernel) ?_
    exact cw_ireturn C dd_La_corrupt_23 (Nat.le_of_ble_eq_true rfl) (Nat.le_of_ble_eq_true rfl) ⟨_, rfl, rfl, ⟨rfl, rfl⟩⟩
  · have h9 : v = 1 := by omega
    subst h9
    refine cw_lconst (v := lN 1) C dd_La_corrupt_10 (by decide +kernel) ?_
    refine cw_goto (tgt := 15) C dd_La_corrupt_11 (by decide) ?_
    refine nw_last C is_65 (by decide) (by decide) dd_La_corrupt_15 ?_
    refine cw_goto (tgt := 22) C dd_La_corrupt_16 (by decide) ?_
    refine cw_iconst (v := nI 0) C dd_La_corrupt_22 (by decide +kernel) ?_
    exact cw_ireturn C dd_La_corrupt_23 (Nat.le_of_ble_eq_true rfl) (Nat.le_of_ble_eq_true rfl) ⟨_, rfl, rfl, ⟨rfl, rfl⟩⟩
set_option maxRecDepth 100000 in
set_option maxHeartbeats 4000000 in
theorem ct_La_corrupt_bad {X : wx_S} {n : Nat} (hM : ct_M yy_Le_corrupt cc_Le_corrupt 3 (some .boolean) 8 [.ref 0, .int (nI n)] X ct_IO) : ct_V yy_La_corrupt cc_La_corrupt 4 hh_La_corrupt 9 1 6 [.ref 0, .int (nI n), .ref 260] X (fun w X' => w = some (.int (nI 1)) ∧ X' = X) := by
  refine ct_V.of [some (.ref 0), some (.int (nI n)), some (.ref 260), none] (by decide +kernel) rfl (Nat.le_of_ble_eq_true rfl) rfl ?_
  intro p l e s m args below meth c A g S0 C hx D
  refine cw_aload_n C dd_La_corrupt_0 rfl ?_
  refine cw_iconst (v := nI 0) C dd_La_corrupt_1 (by decide +kernel) ?_
  refine cw_aload_n C dd_La_corrupt_2 rfl ?_
  refine cw_iload_n C dd_La_corrupt_3 rfl ?_
  refine ct_catch1 (As := [_]) C D hx (by decide) kV_La_38 wc_0 is_0 dd_La_corrupt_4 rfl rfl (Nat.le_of_ble_eq_true rfl) ⟨(Nat.le_of_ble_eq_true rfl), (Nat.le_of_ble_eq_true rfl)⟩ ⟨(Nat.le_of_ble_eq_true rfl), (Nat.le_of_ble_eq_true rfl)⟩ hM (fun x => ?_)
  refine cw_astore_nq C dd_La_corrupt_19 (Nat.le_of_ble_eq_true rfl) ?_
  refine cw_iconst (v := nI 1) C dd_La_corrupt_20 (by decide +kernel) ?_
  exact cw_ireturn C dd_La_corrupt_21 (Nat.le_of_ble_eq_true rfl) (Nat.le_of_ble_eq_true rfl) ⟨_, rfl, rfl, ⟨rfl, rfl⟩⟩
theorem dd_La_node_0 : decode cc_La_node 0 = .ok (.aload_n 3, 1) := by decide +kernel
theorem dd_La_node_1 : decode cc_La_node 1 = .ok (.iconst 0, 1) := by decide +kernel
theorem dd_La_node_2 : decode cc_La_node 2 = .ok (.aload_n 0, 1) := by decide +kernel
theorem dd_La_node_3 : decode cc_La_node 3 = .ok (.iload_n 1, 1) := by decide +kernel
theorem dd_La_node_4 : decode cc_La_node 4 = .ok (.iload_n 2, 1) := by decide +kernel
theorem dd_La_node_5 : decode cc_La_node 5 = .ok (.invokevirtual 41, 3) := by decide +kernel
theorem dd_La_node_8 : decode cc_La_node 8 = .ok (.i2l, 1) := by decide +kernel
theorem dd_La_node_9 : decode cc_La_node 9 = .ok (.lastore, 1) := by decide +kernel
theorem dd_La_node_10 : decode cc_La_node 10 = .ok (.goto 7, 3) := by decide +kernel
theorem dd_La_node_13 : decode cc_La_node 13 = .ok (.astore 4, 2) := by decide +kernel
theorem dd_La_node_15 : decode cc_La_node 15 = .ok (.iconst 1, 1) := by decide +kernel
theorem dd_La_node_16 : decode cc_La_node 16 = .ok (.ireturn, 1) := by decide +kernel
theorem dd_La_node_17 : decode cc_La_node 17 = .ok (.iconst 0, 1) := by decide +kernel
theorem dd_La_node_18 : decode cc_La_node 18 = .ok (.ireturn, 1) := by decide +kernel
abbrev hh_La_node : List (Nat × Nat × Nat × Nat) := [(0, 10, 13, 13)]
theorem kW_La_node : ct_kS "DagLedgerLaw" 107 yy_La_node cc_La_node 5 hh_La_node 4 := ⟨ct_w (by decide +kernel) (by decide +kernel), ct_w (by decide +kernel) (by decide +kernel), ct_iLa, ct_w (by decide +kernel) (by decide +kernel), ⟨by decide, by decide, by decide +kernel⟩⟩
set_option maxRecDepth 100000 in
set_option maxHeartbeats 4000000 in
theorem ct_La_node {X X1 : wx_S} {v n k : Nat} (hA : nw_M wd_all yy_Le_node cc_Le_node 4 (some .int) 2 0 0 [.ref 0, .int (nI n), .int (nI k)] X (fun w X' => w = some (.int (nI v)) ∧ X' = X1)) : ct_V yy_La_node cc_La_node 5 hh_La_node 9 0 0 [.ref 0, .int (nI n), .int (nI k), .ref 260] X (fun w X' => w = some (.int (nI 0)) ∧ X' = wx_u X1 260 0 (zl_ v)) := by
  refine ct_V.of [some (.ref 0), some (.int (nI n)), some (.int (nI k)), some (.ref 260), none] (by decide +kernel) rfl (Nat.le_of_ble_eq_true rfl) rfl ?_
  intro p l e s m args below meth c A g S0 C hx D
  refine cw_aload_n C dd_La_node_0 rfl ?_
  refine cw_iconst (v := nI 0) C dd_La_node_1 (by decide +kernel) ?_
  refine cw_aload_n C dd_La_node_2 rfl ?_
  refine cw_iload_n C dd_La_node_3 rfl ?_
  refine cw_iload_n C dd_La_node_4 rfl ?_
  refine cw_callV (As := [_, _]) C kV_La_41 wc_0 is_0 dd_La_node_5 rfl rfl (Nat.le_of_ble_eq_true rfl) ⟨(Nat.le_of_ble_eq_true rfl), (Nat.le_of_ble_eq_true rfl)⟩ ⟨(Nat.le_of_ble_eq_true rfl), (Nat.le_of_ble_eq_true rfl)⟩ hA (nw_ki ?_)
  refine cw_i2l C dd_La_node_8 ?_
  rw [← zl_lN]
  refine nw_last C is_65 (by decide) (by decide) dd_La_node_9 ?_
  refine cw_goto (tgt := 17) C dd_La_node_10 (by decide) ?_
  refine cw_iconst (v := nI 0) C dd_La_node_17 (by decide +kernel) ?_
  exact cw_ireturn C dd_La_node_18 (Nat.le_of_ble_eq_true rfl) (Nat.le_of_ble_eq_true rfl) ⟨_, rfl, rfl, ⟨rfl, rfl⟩⟩
set_option maxRecDepth 100000 in
set_option maxHeartbeats 4000000 in
theorem ct_La_node_bad {X : wx_S} {n k : Nat} (hM : ct_M yy_Le_node cc_Le_node 4 (some .int) 8 [.ref 0, .int (nI n), .int (nI k)] X ct_IO) : ct_V yy_La_node cc_La_node 5 hh_La_node 9 1 6 [.ref 0, .int (nI n), .int (nI k), .ref 260] X (fun w X' => w = some (.int (nI 1)) ∧ X' = X) := by
  refine ct_V.of [some (.ref 0), some (.int (nI n)), some (.int (nI k)), some (.ref 260), none] (by decide +kernel) rfl (Nat.le_of_ble_eq_true rfl) rfl ?_
  intro p l e s m args below meth c A g S0 C hx D
  refine cw_aload_n C dd_La_node_0 rfl ?_
  refine cw_iconst (v := nI 0) C dd_La_node_1 (by decide +kernel) ?_
  refine cw_aload_n C dd_La_node_2 rfl ?_
  refine cw_iload_n C dd_La_node_3 rfl ?_
  refine cw_iload_n C dd_La_node_4 rfl ?_
  refine ct_catch1 (As := [_, _]) C D hx (by decide) kV_La_41 wc_0 is_0 dd_La_node_5 rfl rfl (Nat.le_of_ble_eq_true rfl) ⟨(Nat.le_of_ble_eq_true rfl), (Nat.le_of_ble_eq_true rfl)⟩ ⟨(Nat.le_of_ble_eq_true rfl), (Nat.le_of_ble_eq_true rfl)⟩ hM (fun x => ?_)
  refine cw_astore_q C dd_La_node_13 (Nat.le_of_ble_eq_true rfl) ?_
  refine cw_iconst (v := nI 1) C dd_La_node_15 (by decide +kernel) ?_
  exact cw_ireturn C dd_La_node_16 (Nat.le_of_ble_eq_true rfl) (Nat.le_of_ble_eq_true rfl) ⟨_, rfl, rfl, ⟨rfl, rfl⟩⟩
theorem dd_La_dag_0 : decode cc_La_dag 0 = .ok (.aload 4, 2) := by decide +kernel
theorem dd_La_dag_2 : decode cc_La_dag 2 = .ok (.iconst 0, 1) := by decide +kernel
theorem dd_La_dag_3 : decode cc_La_dag 3 = .ok (.aload_n 0, 1) := by decide +kernel
theorem dd_La_dag_4 : decode cc_La_dag 4 = .ok (.iload_n 1, 1) := by decide +kernel
theorem dd_La_dag_5 : decode cc_La_dag 5 = .ok (.iload_n 2, 1) := by decide +kernel
theorem dd_La_dag_6 : decode cc_La_dag 6 = .ok (.iload_n 3, 1) := by decide +kernel
theorem dd_La_dag_7 : decode cc_La_dag 7 = .ok (.invokevirtual 44, 3) := by decide +kernel
theorem dd_La_dag_10 : decode cc_La_dag 10 = .ok (.i2l, 1) := by decide +kernel
theorem dd_La_dag_11 : decode cc_La_dag 11 = .ok (.lastore, 1) := by decide +kernel
theorem dd_La_dag_12 : decode cc_La_dag 12 = .ok (.goto 7, 3) := by decide +kernel
theorem dd_La_dag_15 : decode cc_La_dag 15 = .ok (.astore 5, 2) := by decide +kernel
theorem dd_La_dag_17 : decode cc_La_dag 17 = .ok (.iconst 1, 1) := by decide +kernel
theorem dd_La_dag_18 : decode cc_La_dag 18 = .ok (.ireturn, 1) := by decide +kernel
theorem dd_La_dag_19 : decode cc_La_dag 19 = .ok (.iconst 0, 1) := by decide +kernel
theorem dd_La_dag_20 : decode cc_La_dag 20 = .ok (.ireturn, 1) := by decide +kernel
abbrev hh_La_dag : List (Nat × Nat × Nat × Nat) := [(0, 12, 15, 13)]
theorem kW_La_dag : ct_kS "DagLedgerLaw" 110 yy_La_dag cc_La_dag 6 hh_La_dag 5 := ⟨ct_w (by decide +kernel) (by decide +kernel), ct_w (by decide +kernel) (by decide +kernel), ct_iLa, ct_w (by decide +kernel) (by decide +kernel), ⟨by decide, by decide, by decide +kernel⟩⟩
set_option maxRecDepth 100000 in
set_option maxHeartbeats 4000000 in
theorem ct_La_dag {X X1 : wx_S} {v n k a : Nat} (hA : nw_M wd_all yy_Le_dag cc_Le_dag 5 (some .int) 2 0 0 [.ref 0, .int (nI n), .int (nI k), .int (nI a)] X (fun w X' => w = some (.int (nI v)) ∧ X' = X1)) : ct_V yy_La_dag cc_La_dag 6 hh_La_dag 9 0 0 [.ref 0, .int (nI n), .int (nI k), .int (nI a), .ref 260] X (fun w X' => w = some (.int (nI 0)) ∧ X' = wx_u X1 260 0 (zl_ v)) := by
  refine ct_V.of [some (.ref 0), some (.int (nI n)), some (.int (nI k)), some (.int (nI a)), some (.ref 260), none] (by decide +kernel) rfl (Nat.le_of_ble_eq_true rfl) rfl ?_
  intro p l e s m args below meth c A g S0 C hx D
  refine cw_aload C dd_La_dag_0 rfl ?_
  refine cw_iconst (v := nI 0) C dd_La_dag_2 (by decide +kernel) ?_
  refine cw_aload_n C dd_La_dag_3 rfl ?_
  refine cw_iload_n C dd_La_dag_4 rfl ?_
  refine cw_iload_n C dd_La_dag_5 rfl ?_
  refine cw_iload_n C dd_La_dag_6 rfl ?_
  refine cw_callV (As := [_, _, _]) C kV_La_44 wc_0 is_0 dd_La_dag_7 rfl rfl (Nat.le_of_ble_eq_true rfl) ⟨(Nat.le_of_ble_eq_true rfl), (Nat.le_of_ble_eq_true rfl)⟩ ⟨(Nat.le_of_ble_eq_true rfl), (Nat.le_of_ble_eq_true rfl)⟩ hA (nw_ki ?_)
  refine cw_i2l C dd_La_dag_10 ?_
  rw [← zl_lN]
  refine nw_last C is_65 (by decide) (by decide) dd_La_dag_11 ?_
  refine cw_goto (tgt := 19) C dd_La_dag_12 (by decide) ?_
  refine cw_iconst (v := nI 0) C dd_La_dag_19 (by decide +kernel) ?_
  exact cw_ireturn C dd_La_dag_20 (Nat.le_of_ble_eq_true rfl) (Nat.le_of_ble_eq_true rfl) ⟨_, rfl, rfl, ⟨rfl, rfl⟩⟩
set_option maxRecDepth 100000 in
set_option maxHeartbeats 4000000 in
theorem ct_La_dag_bad {X : wx_S} {n k a : Nat} (hM : ct_M yy_Le_dag cc_Le_dag 5 (some .int) 8 [.ref 0, .int (nI n), .int (nI k), .int (nI a)] X ct_IO) : ct_V yy_La_dag cc_La_dag 6 hh_La_dag 9 1 6 [.ref 0, .int (nI n), .int (nI k), .int (nI a), .ref 260] X (fun w X' => w = some (.int (nI 1)) ∧ X' = X) := by
  refine ct_V.of [some (.ref 0), some (.int (nI n)), some (.int (nI k)), some (.int (nI a)), some (.ref 260), none] (by decide +kernel) rfl (Nat.le_of_ble_eq_true rfl) rfl ?_
  intro p l e s m args below meth c A g S0 C hx D
  refine cw_aload C dd_La_dag_0 rfl ?_
  refine cw_iconst (v := nI 0) C dd_La_dag_2 (by decide +kernel) ?_
  refine cw_aload_n C dd_La_dag_3 rfl ?_
  refine cw_iload_n C dd_La_dag_4 rfl ?_
  refine cw_iload_n C dd_La_dag_5 rfl ?_
  refine cw_iload_n C dd_La_dag_6 rfl ?_
  refine ct_catch1 (As := [_, _, _]) C D hx (by decide) kV_La_44 wc_0 is_0 dd_La_dag_7 rfl rfl (Nat.le_of_ble_eq_true rfl) ⟨(Nat.le_of_ble_eq_true rfl), (Nat.le_of_ble_eq_true rfl)⟩ ⟨(Nat.le_of_ble_eq_true rfl), (Nat.le_of_ble_eq_true rfl)⟩ hM (fun x => ?_)
  refine cw_astore_q C dd_La_dag_15 (Nat.le_of_ble_eq_true rfl) ?_
  refine cw_iconst (v := nI 1) C dd_La_dag_17 (by decide +kernel) ?_
  exact cw_ireturn C dd_La_dag_18 (Nat.le_of_ble_eq_true rfl) (Nat.le_of_ble_eq_true rfl) ⟨_, rfl, rfl, ⟨rfl, rfl⟩⟩
theorem dd_La_at_0 : decode cc_La_at 0 = .ok (.aload_n 3, 1) := by decide +kernel
theorem dd_La_at_1 : decode cc_La_at 1 = .ok (.iconst 0, 1) := by decide +kernel
theorem dd_La_at_2 : decode cc_La_at 2 = .ok (.aload_n 0, 1) := by decide +kernel
theorem dd_La_at_3 : decode cc_La_at 3 = .ok (.iload_n 1, 1) := by decide +kernel
theorem dd_La_at_4 : decode cc_La_at 4 = .ok (.iload_n 2, 1) := by decide +kernel
theorem dd_La_at_5 : decode cc_La_at 5 = .ok (.invokevirtual 48, 3) := by decide +kernel
theorem dd_La_at_8 : decode cc_La_at 8 = .ok (.i2l, 1) := by decide +kernel
theorem dd_La_at_9 : decode cc_La_at 9 = .ok (.lastore, 1) := by decide +kernel
theorem dd_La_at_10 : decode cc_La_at 10 = .ok (.goto 7, 3) := by decide +kernel
theorem dd_La_at_13 : decode cc_La_at 13 = .ok (.astore 4, 2) := by decide +kernel
theorem dd_La_at_15 : decode cc_La_at 15 = .ok (.iconst 1, 1) := by decide +kernel
theorem dd_La_at_16 : decode cc_La_at 16 = .ok (.ireturn, 1) := by decide +kernel
theorem dd_La_at_17 : decode cc_La_at 17 = .ok (.iconst 0, 1) := by decide +kernel
theorem dd_La_at_18 : decode cc_La_at 18 = .ok (.ireturn, 1) := by decide +kernel
abbrev hh_La_at : List (Nat × Nat × Nat × Nat) := [(0, 10, 13, 13)]
theorem kW_La_at : ct_kS "DagLedgerLaw" 114 yy_La_at cc_La_at 5 hh_La_at 4 := ⟨ct_w (by decide +kernel) (by decide +kernel), ct_w (by decide +kernel) (by decide +kernel), ct_iLa, ct_w (by decide +kernel) (by decide +kernel), ⟨by decide, by decide, by decide +kernel⟩⟩
set_option maxRecDepth 100000 in
set_option maxHeartbeats 4000000 in
theorem ct_La_at {X X1 : wx_S} {v n k : Nat} (hA : nw_M wd_all yy_Le_at cc_Le_at 4 (some .int) 2 0 0 [.ref 0, .int (nI n), .int (nI k)] X (fun w X' => w = some (.int (nI v)) ∧ X' = X1)) : ct_V yy_La_at cc_La_at 5 hh_La_at 9 0 0 [.ref 0, .int (nI n), .int (nI k), .ref 260] X (fun w X' => w = some (.int (nI 0)) ∧ X' = wx_u X1 260 0 (zl_ v)) := by
  refine ct_V.of [some (.ref 0), some (.int (nI n)), some (.int (nI k)), some (.ref 260), none] (by decide +kernel) rfl (Nat.le_of_ble_eq_true rfl) rfl ?_
  intro p l e s m args below meth c A g S0 C hx D
  refine cw_aload_n C dd_La_at_0 rfl ?_
  refine cw_iconst (v := nI 0) C dd_La_at_1 (by decide +kernel) ?_
  refine cw_aload_n C dd_La_at_2 rfl ?_
  refine cw_iload_n C dd_La_at_3 rfl ?_
  refine cw_iload_n C dd_La_at_4 rfl ?_
  refine cw_callV (As := [_, _]) C kV_La_48 wc_0 is_0 dd_La_at_5 rfl rfl (Nat.le_of_ble_eq_true rfl) ⟨(Nat.le_of_ble_eq_true rfl), (Nat.le_of_ble_eq_true rfl)⟩ ⟨(Nat.le_of_ble_eq_true rfl), (Nat.le_of_ble_eq_true rfl)⟩ hA (nw_ki ?_)
  refine cw_i2l C dd_La_at_8 ?_
  rw [← zl_lN]
  refine nw_last C is_65 (by decide) (by decide) dd_La_at_9 ?_
  refine cw_goto (tgt := 17) C dd_La_at_10 (by decide) ?_
  refine cw_iconst (v := nI 0) C dd_La_at_17 (by decide +kernel) ?_
  exact cw_ireturn C dd_La_at_18 (Nat.le_of_ble_eq_true rfl) (Nat.le_of_ble_eq_true rfl) ⟨_, rfl, rfl, ⟨rfl, rfl⟩⟩
set_option maxRecDepth 100000 in
set_option maxHeartbeats 4000000 in
theorem ct_La_at_bad {X : wx_S} {n k : Nat} (hM : ct_M yy_Le_at cc_Le_at 4 (some .int) 8 [.ref 0, .int (nI n), .int (nI k)] X ct_IO) : ct_V yy_La_at cc_La_at 5 hh_La_at 9 1 6 [.ref 0, .int (nI n), .int (nI k), .ref 260] X (fun w X' => w = some (.int (nI 1)) ∧ X' = X) := by
  refine ct_V.of [some (.ref 0), some (.int (nI n)), some (.int (nI k)), some (.ref 260), none] (by decide +kernel) rfl (Nat.le_of_ble_eq_true rfl) rfl ?_
  intro p l e s m args below meth c A g S0 C hx D
  refine cw_aload_n C dd_La_at_0 rfl ?_
  refine cw_iconst (v := nI 0) C dd_La_at_1 (by decide +kernel) ?_
  refine cw_aload_n C dd_La_at_2 rfl ?_
  refine cw_iload_n C dd_La_at_3 rfl ?_
  refine cw_iload_n C dd_La_at_4 rfl ?_
  refine ct_catch1 (As := [_, _]) C D hx (by decide) kV_La_48 wc_0 is_0 dd_La_at_5 rfl rfl (Nat.le_of_ble_eq_true rfl) ⟨(Nat.le_of_ble_eq_true rfl), (Nat.le_of_ble_eq_true rfl)⟩ ⟨(Nat.le_of_ble_eq_true rfl), (Nat.le_of_ble_eq_true rfl)⟩ hM (fun x => ?_)
  refine cw_astore_q C dd_La_at_13 (Nat.le_of_ble_eq_true rfl) ?_
  refine cw_iconst (v := nI 1) C dd_La_at_15 (by decide +kernel) ?_
  exact cw_ireturn C dd_La_at_16 (Nat.le_of_ble_eq_true rfl) (Nat.le_of_ble_eq_true rfl) ⟨_, rfl, rfl, ⟨rfl, rfl⟩⟩
theorem dd_La_balance_0 : decode cc_La_balance 0 = .ok (.aload_n 3, 1) := by decide +kernel
theorem dd_La_balance_1 : decode cc_La_balance 1 = .ok (.iconst 0, 1) := by decide +kernel
theorem dd_La_balance_2 : decode cc_La_balance 2 = .ok (.aload_n 0, 1) := by decide +kernel
theorem dd_La_balance_3 : decode cc_La_balance 3 = .ok (.iload_n 1, 1) := by decide +kernel
theorem dd_La_balance_4 : decode cc_La_balance 4 = .ok (.iload_n 2, 1) := by decide +kernel
theorem dd_La_balance_5 : decode cc_La_balance 5 = .ok (.invokevirtual 51, 3) := by decide +kernel
theorem dd_La_balance_8 : decode cc_La_balance 8 = .ok (.i2l, 1) := by decide +kernel
theorem dd_La_balance_9 : decode cc_La_balance 9 = .ok (.lastore, 1) := by decide +kernel
theorem dd_La_balance_10 : decode cc_La_balance 10 = .ok (.goto 7, 3) := by decide +kernel
theorem dd_La_balance_13 : decode cc_La_balance 13 = .ok (.astore 4, 2) := by decide +kernel
theorem dd_La_balance_15 : decode cc_La_balance 15 = .ok (.iconst 1, 1) := by decide +kernel
theorem dd_La_balance_16 : decode cc_La_balance 16 = .ok (.ireturn, 1) := by decide +kernel
theorem dd_La_balance_17 : decode cc_La_balance 17 = .ok (.iconst 0, 1) := by decide +kernel
theorem dd_La_balance_18 : decode cc_La_balance 18 = .ok (.ireturn, 1) := by decide +kernel
abbrev hh_La_balance : List (Nat × Nat × Nat × Nat) := [(0, 10, 13, 13)]
theorem kW_La_balance : ct_kS "DagLedgerLaw" 117 yy_La_balance cc_La_balance 5 hh_La_balance 4 := ⟨ct_w (by decide +kernel) (by decide +kernel), ct_w (by decide +kernel) (by decide +kernel), ct_iLa, ct_w (by decide +kernel) (by decide +kernel), ⟨by decide, by decide, by decide +kernel⟩⟩
set_option maxRecDepth 100000 in
set_option maxHeartbeats 4000000 in
theorem ct_La_balance {X X1 : wx_S} {v n k : Nat} (hA : nw_M wd_all yy_Le_balance cc_Le_balance 4 (some .int) 2 0 0 [.ref 0, .int (nI n), .int (nI k)] X (fun w X' => w = some (.int (nI v)) ∧ X' = X1)) : ct_V yy_La_balance cc_La_balance 5 hh_La_balance 9 0 0 [.ref 0, .int (nI n), .int (nI k), .ref 260] X (fun w X' => w = some (.int (nI 0)) ∧ X' = wx_u X1 260 0 (zl_ v)) := by
  refine ct_V.of [some (.ref 0), some (.int (nI n)), some (.int (nI k)), some (.ref 260), none] (by decide +kernel) rfl (Nat.le_of_ble_eq_true rfl) rfl ?_
  intro p l e s m args below meth c A g S0 C hx D
  refine cw_aload_n C dd_La_balance_0 rfl ?_
  refine cw_iconst (v := nI 0) C dd_La_balance_1 (by decide +kernel) ?_
  refine cw_aload_n C dd_La_balance_2 rfl ?_
  refine cw_iload_n C dd_La_balance_3 rfl ?_
  refine cw_iload_n C dd_La_balance_4 rfl ?_
  refine cw_callV (As := [_, _]) C kV_La_51 wc_0 is_0 dd_La_balance_5 rfl rfl (Nat.le_of_ble_eq_true rfl) ⟨(Nat.le_of_ble_eq_true rfl), (Nat.le_of_ble_eq_true rfl)⟩ ⟨(Nat.le_of_ble_eq_true rfl), (Nat.le_of_ble_eq_true rfl)⟩ hA (nw_ki ?_)
  refine cw_i2l C dd_La_balance_8 ?_
  rw [← zl_lN]
  refine nw_last C is_65 (by decide) (by decide) dd_La_balance_9 ?_
  refine cw_goto (tgt := 17) C dd_La_balance_10 (by decide) ?_
  refine cw_iconst (v := nI 0) C dd_La_balance_17 (by decide +kernel) ?_
  exact cw_ireturn C dd_La_balance_18 (Nat.le_of_ble_eq_true rfl) (Nat.le_of_ble_eq_true rfl) ⟨_, rfl, rfl, ⟨rfl, rfl⟩⟩
set_option maxRecDepth 100000 in
set_option maxHeartbeats 4000000 in
theorem ct_La_balance_bad {X : wx_S} {n k : Nat} (hM : ct_M yy_Le_balance cc_Le_balance 4 (some .int) 8 [.ref 0, .int (nI n), .int (nI k)] X ct_IO) : ct_V yy_La_balance cc_La_balance 5 hh_La_balance 9 1 6 [.ref 0, .int (nI n), .int (nI k), .ref 260] X (fun w X' => w = some (.int (nI 1)) ∧ X' = X) := by
  refine ct_V.of [some (.ref 0), some (.int (nI n)), some (.int (nI k)), some (.ref 260), none] (by decide +kernel) rfl (Nat.le_of_ble_eq_true rfl) rfl ?_
  intro p l e s m args below meth c A g S0 C hx D
  refine cw_aload_n C dd_La_balance_0 rfl ?_
  refine cw_iconst (v := nI 0) C dd_La_balance_1 (by decide +kernel) ?_
  refine cw_aload_n C dd_La_balance_2 rfl ?_
  refine cw_iload_n C dd_La_balance_3 rfl ?_
  refine cw_iload_n C dd_La_balance_4 rfl ?_
  refine ct_catch1 (As := [_, _]) C D hx (by decide) kV_La_51 wc_0 is_0 dd_La_balance_5 rfl rfl (Nat.le_of_ble_eq_true rfl) ⟨(Nat.le_of_ble_eq_true rfl), (Nat.le_of_ble_eq_true rfl)⟩ ⟨(Nat.le_of_ble_eq_true rfl), (Nat.le_of_ble_eq_true rfl)⟩ hM (fun x => ?_)
  refine cw_astore_q C dd_La_balance_13 (Nat.le_of_ble_eq_true rfl) ?_
  refine cw_iconst (v := nI 1) C dd_La_balance_15 (by decide +kernel) ?_
  exact cw_ireturn C dd_La_balance_16 (Nat.le_of_ble_eq_true rfl) (Nat.le_of_ble_eq_true rfl) ⟨_, rfl, rfl, ⟨rfl, rfl⟩⟩
