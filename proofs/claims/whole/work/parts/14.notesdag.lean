set_option maxRecDepth 100000 in
set_option maxHeartbeats 4000000 in
theorem mm_Di_keepTransfer (X : wx_S) (r : Nat) (hr : r < 4) (t : Nat) (hc : X (68 + r) 1 < 40) : nw_M wd_all yy_Di_keepTransfer cc_Di_keepTransfer 2 none 1 0 0 [.ref (68 + r), .int (nI t)] X (fun v X' => v = none ∧ X' = wx_u (wx_u X (72 + r) (X (68 + r) 1) t) (68 + r) 1 (X (68 + r) 1 + 1)) := by
  refine nw_of [some (.ref (68 + r)), some (.int (nI t))] (by decide +kernel) rfl (Nat.le_of_ble_eq_true rfl) rfl ?_
  intro p l e s m args below meth c A g C
  refine cw_aload_n C dd_Di_keepTransfer_0 rfl ?_
  refine cw_gets (b := 68) (b' := 72) C hr rfl wc_17 kF_Di_9 (is_17 hr) (by decide) rfl dd_Di_keepTransfer_1 rfl ?_
  refine cw_aload_n C dd_Di_keepTransfer_4 rfl ?_
  refine nw_geti C wc_17 kF_Di_21 (is_17 hr) (by decide) rfl dd_Di_keepTransfer_5 ?_
  refine cw_iload_n C dd_Di_keepTransfer_8 rfl ?_
  refine nw_iast C (is_18 hr) (by first | omega | (simp [wx_u] <;> omega)) (by decide) dd_Di_keepTransfer_9 ?_
  refine cw_aload_n C dd_Di_keepTransfer_10 rfl ?_
  refine cw_dup C dd_Di_keepTransfer_11 rfl ?_
  refine nw_geti C wc_17 kF_Di_21 (is_17 hr) (by decide) rfl dd_Di_keepTransfer_12 ?_
  refine cw_iconst (v := nI 1) C dd_Di_keepTransfer_15 (by decide +kernel) ?_
  refine nw_iadd C dd_Di_keepTransfer_16 ?_
  refine nw_puti C wc_17 kF_Di_21 (is_17 hr) (by decide) rfl rfl rfl rfl dd_Di_keepTransfer_17 ?_
  exact cw_vreturn C dd_Di_keepTransfer_20 (Nat.le_of_ble_eq_true rfl) (Nat.le_of_ble_eq_true rfl) ⟨_, rfl, rfl, ⟨by first | rfl | simp [wx_u], by first | rfl | simp [wx_u]⟩⟩
set_option maxRecDepth 100000 in
set_option maxHeartbeats 4000000 in
theorem mm_Di_queueLength (X : wx_S) (r : Nat) (hr : r < 4) (hc : X (68 + r) 2 ≤ X (68 + r) 1) : nw_M wd_all yy_Di_queueLength cc_Di_queueLength 1 (some .int) 1 0 0 [.ref (68 + r)] X (fun v X' => v = some (.int (nI (X (68 + r) 1 - X (68 + r) 2))) ∧ X' = X) := by
  refine nw_of [some (.ref (68 + r))] (by decide +kernel) rfl (Nat.le_of_ble_eq_true rfl) rfl ?_
  intro p l e s m args below meth c A g C
  refine cw_aload_n C dd_Di_queueLength_0 rfl ?_
  refine nw_geti C wc_17 kF_Di_21 (is_17 hr) (by decide) rfl dd_Di_queueLength_1 ?_
  refine cw_aload_n C dd_Di_queueLength_4 rfl ?_
  refine nw_geti C wc_17 kF_Di_25 (is_17 hr) (by decide) rfl dd_Di_queueLength_5 ?_
  refine nw_isub C dd_Di_queueLength_8 (by first | omega | (simp [wx_u] <;> omega)) ?_
  exact cw_ireturn C dd_Di_queueLength_9 (Nat.le_of_ble_eq_true rfl) (Nat.le_of_ble_eq_true rfl) ⟨_, rfl, rfl, ⟨by first | rfl | simp [wx_u], by first | rfl | simp [wx_u]⟩⟩
set_option maxRecDepth 100000 in
set_option maxHeartbeats 4000000 in
theorem mm_Di_nextOfQueue (X : wx_S) (r : Nat) (hr : r < 4) (hc : X (68 + r) 1 ≤ 40) (hh : X (68 + r) 2 ≤ 40) : nw_M wd_all yy_Di_nextOfQueue cc_Di_nextOfQueue 1 (some .int) 1 0 0 [.ref (68 + r)] X (fun v X' => v = some (.int (nI (if X (68 + r) 1 ≤ X (68 + r) 2 then 4294967295 else X (72 + r) (X (68 + r) 2)))) ∧ X' = if X (68 + r) 1 ≤ X (68 + r) 2 then X else wx_u X (68 + r) 2 (X (68 + r) 2 + 1)) := by
  refine nw_of [some (.ref (68 + r))] (by decide +kernel) rfl (Nat.le_of_ble_eq_true rfl) rfl ?_
  intro p l e s m args below meth c A g C
  refine cw_aload_n C dd_Di_nextOfQueue_0 rfl ?_
  refine nw_geti C wc_17 kF_Di_25 (is_17 hr) (by decide) rfl dd_Di_nextOfQueue_1 ?_
  refine cw_aload_n C dd_Di_nextOfQueue_4 rfl ?_
  refine nw_geti C wc_17 kF_Di_21 (is_17 hr) (by decide) rfl dd_Di_nextOfQueue_5 ?_
  refine nw_icmp_lt (tgt := 13) C dd_Di_nextOfQueue_8 (by decide) (by first | omega | (simp [wx_u] <;> omega)) (by first | omega | (simp [wx_u] <;> omega)) (fun h8 => ?_) (fun h8 => ?_)
  · refine cw_aload_n C dd_Di_nextOfQueue_13 rfl ?_
    refine cw_dup C dd_Di_nextOfQueue_14 rfl ?_
    refine nw_geti C wc_17 kF_Di_25 (is_17 hr) (by decide) rfl dd_Di_nextOfQueue_15 ?_
    refine cw_iconst (v := nI 1) C dd_Di_nextOfQueue_18 (by decide +kernel) ?_
    refine nw_iadd C dd_Di_nextOfQueue_19 ?_
    refine nw_puti C wc_17 kF_Di_25 (is_17 hr) (by decide) rfl rfl rfl rfl dd_Di_nextOfQueue_20 ?_
    refine cw_aload_n C dd_Di_nextOfQueue_23 rfl ?_
    refine cw_gets (b := 68) (b' := 72) C hr rfl wc_17 kF_Di_9 (is_17 hr) (by decide) rfl dd_Di_nextOfQueue_24 rfl ?_
    refine cw_aload_n C dd_Di_nextOfQueue_27 rfl ?_
    refine nw_geti C wc_17 kF_Di_25 (is_17 hr) (by decide) rfl dd_Di_nextOfQueue_28 ?_
    refine cw_iconst (v := nI 1) C dd_Di_nextOfQueue_31 (by decide +kernel) ?_
    refine nw_isub C dd_Di_nextOfQueue_32 (by first | omega | (simp [wx_u] <;> omega)) ?_
    refine nw_iald C (is_18 hr) (by first | omega | (simp [wx_u] <;> omega)) (by decide) dd_Di_nextOfQueue_33 ?_
    exact cw_ireturn C dd_Di_nextOfQueue_34 (Nat.le_of_ble_eq_true rfl) (Nat.le_of_ble_eq_true rfl) ⟨_, rfl, rfl, ⟨by rw [if_neg (by omega)]; simp [wx_u], by rw [if_neg (by omega)]⟩⟩
  · refine cw_iconst (v := nI 4294967295) C dd_Di_nextOfQueue_11 (by decide +kernel) ?_
    exact cw_ireturn C dd_Di_nextOfQueue_12 (Nat.le_of_ble_eq_true rfl) (Nat.le_of_ble_eq_true rfl) ⟨_, rfl, rfl, ⟨by rw [if_pos (by omega)], by rw [if_pos (by omega)]⟩⟩
set_option maxRecDepth 100000 in
set_option maxHeartbeats 4000000 in
theorem mm_No_noteEcho (X : wx_S) (r : Nat) (hr : r < 4) (u q : Nat) (hu : u < 90) (hq : q < 4) (hx : X (88 + r) u < 16) : nw_M wd_all yy_No_noteEcho cc_No_noteEcho 3 (some .int) 2 0 0 [.ref (84 + r), .int (nI u), .int (nI q)] X (fun v X' => v = some (.int (nI (zn_ones (X (88 + r) u ||| 2 ^ q)))) ∧ X' = wx_u X (88 + r) u (X (88 + r) u ||| 2 ^ q)) := by
  refine nw_of [some (.ref (84 + r)), some (.int (nI u)), some (.int (nI q))] (by decide +kernel) rfl (Nat.le_of_ble_eq_true rfl) rfl ?_
  intro p l e s m args below meth c A g C
  refine cw_aload_n C dd_No_noteEcho_0 rfl ?_
  refine cw_gets (b := 84) (b' := 88) C hr rfl wc_21 kF_No_9 (is_21 hr) (by decide) rfl dd_No_noteEcho_1 rfl ?_
  refine cw_iload_n C dd_No_noteEcho_4 rfl ?_
  refine cw_dup2 C dd_No_noteEcho_5 rfl rfl ?_
  refine nw_iald C (is_22 hr) (by first | omega | (simp [wx_u] <;> omega)) (by decide) dd_No_noteEcho_6 ?_
  refine cw_iconst (v := nI 1) C dd_No_noteEcho_7 (by decide +kernel) ?_
  refine cw_iload_n C dd_No_noteEcho_8 rfl ?_
  refine nw_ishl C dd_No_noteEcho_9 (by first | omega | (simp [wx_u] <;> omega)) ?_
  refine nw_ior C dd_No_noteEcho_10 ?_
  refine nw_iast C (is_22 hr) (by first | omega | (simp [wx_u] <;> omega)) (by decide) dd_No_noteEcho_11 ?_
  refine cw_aload_n C dd_No_noteEcho_12 rfl ?_
  refine cw_gets (b := 84) (b' := 88) C hr rfl wc_21 kF_No_9 (is_21 hr) (by decide) rfl dd_No_noteEcho_13 rfl ?_
  refine cw_iload_n C dd_No_noteEcho_16 rfl ?_
  refine nw_iald C (is_22 hr) (by first | omega | (simp [wx_u] <;> omega)) (by decide) dd_No_noteEcho_17 ?_
  rw [wx_u_eq, Nat.one_mul]
  refine cw_callS (As := [_]) C kS_No_21 dd_No_noteEcho_18 rfl rfl (Nat.le_of_ble_eq_true rfl) ⟨(Nat.le_of_ble_eq_true rfl), (Nat.le_of_ble_eq_true rfl)⟩ ⟨(Nat.le_of_ble_eq_true rfl), (Nat.le_of_ble_eq_true rfl)⟩ (mm_In_bitCount _ (X (88 + r) u ||| 2 ^ q) (zn_or16 hx (zn_pow4 hq))) (nw_ki ?_)
  exact cw_ireturn C dd_No_noteEcho_21 (Nat.le_of_ble_eq_true rfl) (Nat.le_of_ble_eq_true rfl) ⟨_, rfl, rfl, ⟨by first | rfl | simp [wx_u], by first | rfl | simp [wx_u]⟩⟩
set_option maxRecDepth 100000 in
set_option maxHeartbeats 4000000 in
theorem mm_No_noteReady (X : wx_S) (r : Nat) (hr : r < 4) (u q : Nat) (hu : u < 90) (hq : q < 4) (hx : X (92 + r) u < 16) (hw : X (84 + r) 3 < 90) : nw_M wd_all yy_No_noteReady cc_No_noteReady 5 (some .int) 2 0 0 [.ref (84 + r), .int (nI u), .int (nI q)] X (fun v X' => v = some (.int (nI (zn_ones (X (92 + r) u ||| 2 ^ q)))) ∧ X' = if zn_ones (X (92 + r) u) < 3 ∧ 3 ≤ zn_ones (X (92 + r) u ||| 2 ^ q) then wx_u (wx_u (wx_u X (92 + r) u (X (92 + r) u ||| 2 ^ q)) (96 + r) (X (84 + r) 3) u) (84 + r) 3 (X (84 + r) 3 + 1) else wx_u X (92 + r) u (X (92 + r) u ||| 2 ^ q)) := by
  refine nw_of [some (.ref (84 + r)), some (.int (nI u)), some (.int (nI q)), none, none] (by decide +kernel) rfl (Nat.le_of_ble_eq_true rfl) rfl ?_
  intro p l e s m args below meth c A g C
  have g1 := zn_ones_le (X (92 + r) u)
  have g2 := zn_ones_le (X (92 + r) u ||| 2 ^ q)
  refine cw_aload_n C dd_No_noteReady_0 rfl ?_
  refine cw_gets (b := 84) (b' := 92) C hr rfl wc_21 kF_No_15 (is_21 hr) (by decide) rfl dd_No_noteReady_1 rfl ?_
  refine cw_iload_n C dd_No_noteReady_4 rfl ?_
  refine nw_iald C (is_23 hr) (by first | omega | (simp [wx_u] <;> omega)) (by decide) dd_No_noteReady_5 ?_
  refine cw_callS (As := [_]) C kS_No_21 dd_No_noteReady_6 rfl rfl (Nat.le_of_ble_eq_true rfl) ⟨(Nat.le_of_ble_eq_true rfl), (Nat.le_of_ble_eq_true rfl)⟩ ⟨(Nat.le_of_ble_eq_true rfl), (Nat.le_of_ble_eq_true rfl)⟩ (mm_In_bitCount _ (X (92 + r) u) hx) (nw_ki ?_)
  refine cw_istore_n C dd_No_noteReady_9 (Nat.le_of_ble_eq_true rfl) ?_
  refine cw_aload_n C dd_No_noteReady_10 rfl ?_
  refine cw_gets (b := 84) (b' := 92) C hr rfl wc_21 kF_No_15 (is_21 hr) (by decide) rfl dd_No_noteReady_11 rfl ?_
  refine cw_iload_n C dd_No_noteReady_14 rfl ?_
  refine cw_dup2 C dd_No_noteReady_15 rfl rfl ?_
  refine nw_iald C (is_23 hr) (by first | omega | (simp [wx_u] <;> omega)) (by decide) dd_No_noteReady_16 ?_
  refine cw_iconst (v := nI 1) C dd_No_noteReady_17 (by decide +kernel) ?_
  refine cw_iload_n C dd_No_noteReady_18 rfl ?_
  refine nw_ishl C dd_No_noteReady_19 (by first | omega | (simp [wx_u] <;> omega)) ?_
  refine nw_ior C dd_No_noteReady_20 ?_
  refine nw_iast C (is_23 hr) (by first | omega | (simp [wx_u] <;> omega)) (by decide) dd_No_noteReady_21 ?_
  refine cw_aload_n C dd_No_noteReady_22 rfl ?_
  refine cw_gets (b := 84) (b' := 92) C hr rfl wc_21 kF_No_15 (is_21 hr) (by decide) rfl dd_No_noteReady_23 rfl ?_
  refine cw_iload_n C dd_No_noteReady_26 rfl ?_
  refine nw_iald C (is_23 hr) (by first | omega | (simp [wx_u] <;> omega)) (by decide) dd_No_noteReady_27 ?_
  rw [wx_u_eq, Nat.one_mul]
  refine cw_callS (As := [_]) C kS_No_21 dd_No_noteReady_28 rfl rfl (Nat.le_of_ble_eq_true rfl) ⟨(Nat.le_of_ble_eq_true rfl), (Nat.le_of_ble_eq_true rfl)⟩ ⟨(Nat.le_of_ble_eq_true rfl), (Nat.le_of_ble_eq_true rfl)⟩ (mm_In_bitCount _ (X (92 + r) u ||| 2 ^ q) (zn_or16 hx (zn_pow4 hq))) (nw_ki ?_)
  refine cw_istore C dd_No_noteReady_31 (Nat.le_of_ble_eq_true rfl) ?_
  refine cw_iload_n C dd_No_noteReady_33 rfl ?_
  refine cw_iconst (v := nI 3) C dd_No_noteReady_34 (by decide +kernel) ?_
  refine nw_icmp_ge (tgt := 64) C dd_No_noteReady_35 (by decide) (by first | omega | (simp [wx_u] <;> omega)) (by first | omega | (simp [wx_u] <;> omega)) (fun h35 => ?_) (fun h35 => ?_)
  · refine cw_iload C dd_No_noteReady_64 rfl ?_
    exact cw_ireturn C dd_No_noteReady_66 (Nat.le_of_ble_eq_true rfl) (Nat.le_of_ble_eq_true rfl) ⟨_, rfl, rfl, ⟨rfl, by first | (rw [if_pos ⟨by omega, by omega⟩]; simp [wx_u]) | rw [if_neg (by omega)]⟩⟩
  · refine cw_iload C dd_No_noteReady_38 rfl ?_
    refine cw_iconst (v := nI 3) C dd_No_noteReady_40 (by decide +kernel) ?_
    refine nw_icmp_lt (tgt := 64) C dd_No_noteReady_41 (by decide) (by first | omega | (simp [wx_u] <;> omega)) (by first | omega | (simp [wx_u] <;> omega)) (fun h41 => ?_) (fun h41 => ?_)
    · refine cw_iload C dd_No_noteReady_64 rfl ?_
      exact cw_ireturn C dd_No_noteReady_66 (Nat.le_of_ble_eq_true rfl) (Nat.le_of_ble_eq_true rfl) ⟨_, rfl, rfl, ⟨rfl, by first | (rw [if_pos ⟨by omega, by omega⟩]; simp [wx_u]) | rw [if_neg (by omega)]⟩⟩
    · refine cw_aload_n C dd_No_noteReady_44 rfl ?_
      refine cw_gets (b := 84) (b' := 96) C hr rfl wc_21 kF_No_18 (is_21 hr) (by decide) rfl dd_No_noteReady_45 rfl ?_
      refine cw_aload_n C dd_No_noteReady_48 rfl ?_
      refine nw_geti C wc_21 kF_No_27 (is_21 hr) (by decide) rfl dd_No_noteReady_49 ?_
      refine cw_iload_n C dd_No_noteReady_52 rfl ?_
      refine nw_iast C (is_24 hr) (by first | omega | (simp [wx_u] <;> omega)) (by decide) dd_No_noteReady_53 ?_
      refine cw_aload_n C dd_No_noteReady_54 rfl ?_
      refine cw_dup C dd_No_noteReady_55 rfl ?_
      refine nw_geti C wc_21 kF_No_27 (is_21 hr) (by decide) rfl dd_No_noteReady_56 ?_
      refine cw_iconst (v := nI 1) C dd_No_noteReady_59 (by decide +kernel) ?_
      refine nw_iadd C dd_No_noteReady_60 ?_
      refine nw_puti C wc_21 kF_No_27 (is_21 hr) (by decide) rfl rfl rfl rfl dd_No_noteReady_61 ?_
      refine cw_iload C dd_No_noteReady_64 rfl ?_
      exact cw_ireturn C dd_No_noteReady_66 (Nat.le_of_ble_eq_true rfl) (Nat.le_of_ble_eq_true rfl) ⟨_, rfl, rfl, ⟨rfl, by first | (rw [if_pos ⟨by omega, by omega⟩]; simp [wx_u]) | rw [if_neg (by omega)]⟩⟩
set_option maxRecDepth 100000 in
set_option maxHeartbeats 4000000 in
theorem mm_No_stopWaiting (X : wx_S) (r : Nat) (hr : r < 4) (i : Nat) (hi : i < X (84 + r) 3) (hw : X (84 + r) 3 ≤ 90) : nw_M wd_all yy_No_stopWaiting cc_No_stopWaiting 2 none 1 0 0 [.ref (84 + r), .int (nI i)] X (fun v X' => v = none ∧ X' = wx_u (wx_u X (84 + r) 3 (X (84 + r) 3 - 1)) (96 + r) i (X (96 + r) (X (84 + r) 3 - 1))) := by
  refine nw_of [some (.ref (84 + r)), some (.int (nI i))] (by decide +kernel) rfl (Nat.le_of_ble_eq_true rfl) rfl ?_
  intro p l e s m args below meth c A g C
  refine cw_aload_n C dd_No_stopWaiting_0 rfl ?_
  refine cw_dup C dd_No_stopWaiting_1 rfl ?_
  refine nw_geti C wc_21 kF_No_27 (is_21 hr) (by decide) rfl dd_No_stopWaiting_2 ?_
  refine cw_iconst (v := nI 1) C dd_No_stopWaiting_5 (by decide +kernel) ?_
  refine nw_isub C dd_No_stopWaiting_6 (by first | omega | (simp [wx_u] <;> omega)) ?_
  refine nw_puti C wc_21 kF_No_27 (is_21 hr) (by decide) rfl rfl rfl rfl dd_No_stopWaiting_7 ?_
  refine cw_aload_n C dd_No_stopWaiting_10 rfl ?_
  refine cw_gets (b := 84) (b' := 96) C hr rfl wc_21 kF_No_18 (is_21 hr) (by decide) rfl dd_No_stopWaiting_11 rfl ?_
  refine cw_iload_n C dd_No_stopWaiting_14 rfl ?_
  refine cw_aload_n C dd_No_stopWaiting_15 rfl ?_
  refine cw_gets (b := 84) (b' := 96) C hr rfl wc_21 kF_No_18 (is_21 hr) (by decide) rfl dd_No_stopWaiting_16 rfl ?_
  refine cw_aload_n C dd_No_stopWaiting_19 rfl ?_
  refine nw_geti C wc_21 kF_No_27 (is_21 hr) (by decide) rfl dd_No_stopWaiting_20 ?_
  refine nw_iald C (is_24 hr) (by first | omega | (simp [wx_u] <;> omega)) (by decide) dd_No_stopWaiting_23 ?_
  refine nw_iast C (is_24 hr) (by first | omega | (simp [wx_u] <;> omega)) (by decide) dd_No_stopWaiting_24 ?_
  exact cw_vreturn C dd_No_stopWaiting_25 (Nat.le_of_ble_eq_true rfl) (Nat.le_of_ble_eq_true rfl) ⟨_, rfl, rfl, ⟨rfl, by simp [wx_u]⟩⟩
set_option maxRecDepth 100000 in
set_option maxHeartbeats 4000000 in
theorem mm_No_clear (X : wx_S) (r : Nat) (hr : r < 4) : nw_M wd_all yy_No_clear cc_No_clear 1 none 2 0 0 [.ref (84 + r)] X (fun v X' => v = none ∧ X' = wx_u (zz_fill (zz_fill X (88 + r) 90 0) (92 + r) 90 0) (84 + r) 3 0) := by
  refine nw_of [some (.ref (84 + r))] (by decide +kernel) rfl (Nat.le_of_ble_eq_true rfl) rfl ?_
  intro p l e s m args below meth c A g C
  refine cw_aload_n C dd_No_clear_0 rfl ?_
  refine cw_gets (b := 84) (b' := 88) C hr rfl wc_21 kF_No_9 (is_21 hr) (by decide) rfl dd_No_clear_1 rfl ?_
  refine cw_iconst (v := nI 0) C dd_No_clear_4 (by decide +kernel) ?_
  refine cw_callS (As := [_, _]) C kS_No_31 dd_No_clear_5 rfl rfl (Nat.le_of_ble_eq_true rfl) ⟨(Nat.le_of_ble_eq_true rfl), (Nat.le_of_ble_eq_true rfl)⟩ ⟨(Nat.le_of_ble_eq_true rfl), (Nat.le_of_ble_eq_true rfl)⟩ (mm_Ar_fill _ (88 + r) 90 0 _ (is_22 hr) (by decide)) (nw_kv ?_)
  refine cw_aload_n C dd_No_clear_8 rfl ?_
  refine cw_gets (b := 84) (b' := 92) C hr rfl wc_21 kF_No_15 (is_21 hr) (by decide) rfl dd_No_clear_9 rfl ?_
  refine cw_iconst (v := nI 0) C dd_No_clear_12 (by decide +kernel) ?_
  refine cw_callS (As := [_, _]) C kS_No_31 dd_No_clear_13 rfl rfl (Nat.le_of_ble_eq_true rfl) ⟨(Nat.le_of_ble_eq_true rfl), (Nat.le_of_ble_eq_true rfl)⟩ ⟨(Nat.le_of_ble_eq_true rfl), (Nat.le_of_ble_eq_true rfl)⟩ (mm_Ar_fill _ (92 + r) 90 0 _ (is_23 hr) (by decide)) (nw_kv ?_)
  refine cw_aload_n C dd_No_clear_16 rfl ?_
  refine cw_iconst (v := nI 0) C dd_No_clear_17 (by decide +kernel) ?_
  refine nw_puti C wc_21 kF_No_27 (is_21 hr) (by decide) rfl rfl rfl rfl dd_No_clear_18 ?_
  exact cw_vreturn C dd_No_clear_21 (Nat.le_of_ble_eq_true rfl) (Nat.le_of_ble_eq_true rfl) ⟨_, rfl, rfl, ⟨by first | rfl | simp [wx_u], by first | rfl | simp [wx_u]⟩⟩
set_option maxRecDepth 100000 in
set_option maxHeartbeats 4000000 in
theorem mm_Dg_find (X : wx_S) (r : Nat) (hr : r < 4) (a w : Nat) (h : w * 4 + a < 64) : nw_M wd_all yy_Dg_find cc_Dg_find 3 (some .int) 1 0 0 [.ref (100 + r), .int (nI a), .int (nI w)] X (fun v X' => v = some (.int (nI (X (104 + r) (w * 4 + a)))) ∧ X' = X) := by
  refine nw_of [some (.ref (100 + r)), some (.int (nI a)), some (.int (nI w))] (by decide +kernel) rfl (Nat.le_of_ble_eq_true rfl) rfl ?_
  intro p l e s m args below meth c A g C
  refine cw_aload_n C dd_Dg_find_0 rfl ?_
  refine cw_gets (b := 100) (b' := 104) C hr rfl wc_25 kF_Dg_9 (is_25 hr) (by decide) rfl dd_Dg_find_1 rfl ?_
  refine cw_iload_n C dd_Dg_find_4 rfl ?_
  refine cw_iconst (v := nI 4) C dd_Dg_find_5 (by decide +kernel) ?_
  refine nw_imul C dd_Dg_find_6 ?_
  refine cw_iload_n C dd_Dg_find_7 rfl ?_
  refine nw_iadd C dd_Dg_find_8 ?_
  refine nw_iald C (is_26 hr) (by first | omega | (simp [wx_u] <;> omega)) (by decide) dd_Dg_find_9 ?_
  exact cw_ireturn C dd_Dg_find_10 (Nat.le_of_ble_eq_true rfl) (Nat.le_of_ble_eq_true rfl) ⟨_, rfl, rfl, ⟨by first | rfl | simp [wx_u], by first | rfl | simp [wx_u]⟩⟩
set_option maxRecDepth 100000 in
set_option maxHeartbeats 4000000 in
theorem mm_Dg_holds (X : wx_S) (r : Nat) (hr : r < 4) (a w : Nat) (h : w * 4 + a < 64) (hx : X (104 + r) (w * 4 + a) < 4294967296) : nw_M wd_all yy_Dg_holds cc_Dg_holds 3 (some .boolean) 1 0 0 [.ref (100 + r), .int (nI a), .int (nI w)] X (fun v X' => v = some (.int (nI (zb_n (X (104 + r) (w * 4 + a) ≠ 4294967295)))) ∧ X' = X) := by
  refine nw_of [some (.ref (100 + r)), some (.int (nI a)), some (.int (nI w))] (by decide +kernel) rfl (Nat.le_of_ble_eq_true rfl) rfl ?_
  intro p l e s m args below meth c A g C
  refine cw_aload_n C dd_Dg_holds_0 rfl ?_
  refine cw_gets (b := 100) (b' := 104) C hr rfl wc_25 kF_Dg_9 (is_25 hr) (by decide) rfl dd_Dg_holds_1 rfl ?_
  refine cw_iload_n C dd_Dg_holds_4 rfl ?_
  refine cw_iconst (v := nI 4) C dd_Dg_holds_5 (by decide +kernel) ?_
  refine nw_imul C dd_Dg_holds_6 ?_
  refine cw_iload_n C dd_Dg_holds_7 rfl ?_
  refine nw_iadd C dd_Dg_holds_8 ?_
  refine nw_iald C (is_26 hr) (by first | omega | (simp [wx_u] <;> omega)) (by decide) dd_Dg_holds_9 ?_
  refine cw_iconst (v := nI 4294967295) C dd_Dg_holds_10 (by decide +kernel) ?_
  refine nw_icmp_eq (tgt := 18) C dd_Dg_holds_11 (by decide) (by first | omega | (simp [wx_u] <;> omega)) (by first | omega | (simp [wx_u] <;> omega)) (fun h11 => ?_) (fun h11 => ?_)
  · refine cw_iconst (v := nI 0) C dd_Dg_holds_18 (by decide +kernel) ?_
    exact cw_zreturn C dd_Dg_holds_19 (nw_zn (by decide)) (Nat.le_of_ble_eq_true rfl) (Nat.le_of_ble_eq_true rfl) ⟨_, rfl, rfl, ⟨by first | exact congrArg (fun z => some (Value.int z)) (zb_t (by first | omega | (simp [wx_u] <;> omega))) | exact congrArg (fun z => some (Value.int z)) (zb_f (by first | omega | (simp [wx_u] <;> omega))), rfl⟩⟩
  · refine cw_iconst (v := nI 1) C dd_Dg_holds_14 (by decide +kernel) ?_
    refine cw_goto (tgt := 19) C dd_Dg_holds_15 (by decide) ?_
    exact cw_zreturn C dd_Dg_holds_19 (nw_zn (by decide)) (Nat.le_of_ble_eq_true rfl) (Nat.le_of_ble_eq_true rfl) ⟨_, rfl, rfl, ⟨by first | exact congrArg (fun z => some (Value.int z)) (zb_t (by first | omega | (simp [wx_u] <;> omega))) | exact congrArg (fun z => some (Value.int z)) (zb_f (by first | omega | (simp [wx_u] <;> omega))), rfl⟩⟩
set_option maxRecDepth 100000 in
set_option maxHeartbeats 4000000 in
theorem mm_Dg_authorsOf (X : wx_S) (r : Nat) (hr : r < 4) (w : Nat) (h : w < 16) : nw_M wd_all yy_Dg_authorsOf cc_Dg_authorsOf 2 (some .int) 1 0 0 [.ref (100 + r), .int (nI w)] X (fun v X' => v = some (.int (nI (X (108 + r) w))) ∧ X' = X) := by
  refine nw_of [some (.ref (100 + r)), some (.int (nI w))] (by decide +kernel) rfl (Nat.le_of_ble_eq_true rfl) rfl ?_
  intro p l e s m args below meth c A g C
  refine cw_aload_n C dd_Dg_authorsOf_0 rfl ?_
  refine cw_gets (b := 100) (b' := 108) C hr rfl wc_25 kF_Dg_15 (is_25 hr) (by decide) rfl dd_Dg_authorsOf_1 rfl ?_
  refine cw_iload_n C dd_Dg_authorsOf_4 rfl ?_
  refine nw_iald C (is_27 hr) (by first | omega | (simp [wx_u] <;> omega)) (by decide) dd_Dg_authorsOf_5 ?_
  exact cw_ireturn C dd_Dg_authorsOf_6 (Nat.le_of_ble_eq_true rfl) (Nat.le_of_ble_eq_true rfl) ⟨_, rfl, rfl, ⟨by first | rfl | simp [wx_u], by first | rfl | simp [wx_u]⟩⟩
abbrev zc_can (X : wx_S) (r u : Nat) : Prop := zc_wf X u ∧ X (104 + r) (X 28 u * 4 + X 24 u) = 4294967295 ∧ X 32 u &&& (X (108 + r) (X 28 u - 1) ^^^ 4294967295) = 0
set_option maxRecDepth 100000 in
set_option maxHeartbeats 4000000 in
theorem mm_Dg_canTake (X : wx_S) (r : Nat) (hr : r < 4) (u : Nat) (hu : u < 90) (h1 : 1 ≤ X 28 u ∧ X 28 u ≤ 14) (h2 : X 24 u < 4) (h3 : X 32 u < 16) (h4 : X (104 + r) (X 28 u * 4 + X 24 u) < 4294967296) : nw_M wd_all yy_Dg_canTake cc_Dg_canTake 3 (some .boolean) 3 0 0 [.ref (100 + r), .int (nI u)] X (fun v X' => v = some (.int (nI (zb_n (zc_can X r u)))) ∧ X' = X) := by
  refine nw_of [some (.ref (100 + r)), some (.int (nI u)), none] (by decide +kernel) rfl (Nat.le_of_ble_eq_true rfl) rfl ?_
  intro p l e s m args below meth c A g C
  refine cw_aload_n C dd_Dg_canTake_0 rfl ?_
  refine cw_getr (q' := 20) C wc_25 kF_Dg_18 (is_25 hr) (by decide) rfl dd_Dg_canTake_1 rfl ?_
  refine cw_getr (q' := 28) C wc_5 kF_Dg_28 is_5 (by decide) rfl dd_Dg_canTake_4 rfl ?_
  refine cw_iload_n C dd_Dg_canTake_7 rfl ?_
  refine nw_iald C is_7 (by first | omega | (simp [wx_u] <;> omega)) (by decide) dd_Dg_canTake_8 ?_
  refine cw_istore_n C dd_Dg_canTake_9 (Nat.le_of_ble_eq_true rfl) ?_
  refine cw_aload_n C dd_Dg_canTake_10 rfl ?_
  refine cw_getr (q' := 20) C wc_25 kF_Dg_18 (is_25 hr) (by decide) rfl dd_Dg_canTake_11 rfl ?_
  refine cw_iload_n C dd_Dg_canTake_14 rfl ?_
  refine cw_callV (As := [_]) C kV_Dg_33 wc_5 is_5 dd_Dg_canTake_15 rfl rfl (Nat.le_of_ble_eq_true rfl) ⟨(Nat.le_of_ble_eq_true rfl), (Nat.le_of_ble_eq_true rfl)⟩ ⟨(Nat.le_of_ble_eq_true rfl), (Nat.le_of_ble_eq_true rfl)⟩ (mm_Ve_isWellFormed X u hu (by omega) h3) (nw_ki ?_)
  refine nw_zeq (tgt := 65) C dd_Dg_canTake_18 (by decide) (fun h18 => ?_) (fun h18 => ?_)
  · refine cw_iconst (v := nI 0) C dd_Dg_canTake_65 (by decide +kernel) ?_
    exact cw_zreturn C dd_Dg_canTake_66 (nw_zn (by decide)) (Nat.le_of_ble_eq_true rfl) (Nat.le_of_ble_eq_true rfl) ⟨_, rfl, rfl, ⟨by first | exact congrArg (fun z => some (Value.int z)) (zb_t ⟨h18, Classical.not_not.mp h35, h58⟩) | exact congrArg (fun z => some (Value.int z)) (zb_f (fun q => h18 q.1)) | exact congrArg (fun z => some (Value.int z)) (zb_f (fun q => h35 q.2.1)) | exact congrArg (fun z => some (Value.int z)) (zb_f (fun q => h58 q.2.2)), rfl⟩⟩
  · refine cw_aload_n C dd_Dg_canTake_21 rfl ?_
    refine cw_aload_n C dd_Dg_canTake_22 rfl ?_
    refine cw_getr (q' := 20) C wc_25 kF_Dg_18 (is_25 hr) (by decide) rfl dd_Dg_canTake_23 rfl ?_
    refine cw_getr (q' := 24) C wc_5 kF_Dg_37 is_5 (by decide) rfl dd_Dg_canTake_26 rfl ?_
    refine cw_iload_n C dd_Dg_canTake_29 rfl ?_
    refine nw_iald C is_6 (by first | omega | (simp [wx_u] <;> omega)) (by decide) dd_Dg_canTake_30 ?_
    refine cw_iload_n C dd_Dg_canTake_31 rfl ?_
    refine cw_callV (As := [_, _]) C kV_Dg_40 wc_25 (is_25 hr) dd_Dg_canTake_32 rfl rfl (Nat.le_of_ble_eq_true rfl) ⟨(Nat.le_of_ble_eq_true rfl), (Nat.le_of_ble_eq_true rfl)⟩ ⟨(Nat.le_of_ble_eq_true rfl), (Nat.le_of_ble_eq_true rfl)⟩ (mm_Dg_holds X r hr (X 24 u) (X 28 u) (by omega) h4) (nw_ki ?_)
    refine nw_zne (tgt := 65) C dd_Dg_canTake_35 (by decide) (fun h35 => ?_) (fun h35 => ?_)
    · refine cw_iconst (v := nI 0) C dd_Dg_canTake_65 (by decide +kernel) ?_
      exact cw_zreturn C dd_Dg_canTake_66 (nw_zn (by decide)) (Nat.le_of_ble_eq_true rfl) (Nat.le_of_ble_eq_true rfl) ⟨_, rfl, rfl, ⟨by first | exact congrArg (fun z => some (Value.int z)) (zb_t ⟨h18, Classical.not_not.mp h35, h58⟩) | exact congrArg (fun z => some (Value.int z)) (zb_f (fun q => h18 q.1)) | exact congrArg (fun z => some (Value.int z)) (zb_f (fun q => h35 q.2.1)) | exact congrArg (fun z => some (Value.int z)) (zb_f (fun q => h58 q.2.2)), rfl⟩⟩
    · refine cw_aload_n C dd_Dg_canTake_38 rfl ?_
      refine cw_getr (q' := 20) C wc_25 kF_Dg_18 (is_25 hr) (by decide) rfl dd_Dg_canTake_39 rfl ?_
      refine cw_getr (q' := 32) C wc_5 kF_Dg_44 is_5 (by decide) rfl dd_Dg_canTake_42 rfl ?_
      refine cw_iload_n C dd_Dg_canTake_45 rfl ?_
      refine nw_iald C is_8 (by first | omega | (simp [wx_u] <;> omega)) (by decide) dd_Dg_canTake_46 ?_
      refine cw_aload_n C dd_Dg_canTake_47 rfl ?_
      refine cw_gets (b := 100) (b' := 108) C hr rfl wc_25 kF_Dg_15 (is_25 hr) (by decide) rfl dd_Dg_canTake_48 rfl ?_
      refine cw_iload_n C dd_Dg_canTake_51 rfl ?_
      refine cw_iconst (v := nI 1) C dd_Dg_canTake_52 (by decide +kernel) ?_
      refine nw_isub C dd_Dg_canTake_53 (by first | omega | (simp [wx_u] <;> omega)) ?_
      refine nw_iald C (is_27 hr) (by first | omega | (simp [wx_u] <;> omega)) (by decide) dd_Dg_canTake_54 ?_
      refine cw_iconst (v := nI 4294967295) C dd_Dg_canTake_55 (by decide +kernel) ?_
      refine nw_ixor C dd_Dg_canTake_56 ?_
      refine nw_iand C dd_Dg_canTake_57 ?_
      refine nw_if_ne (tgt := 65) C dd_Dg_canTake_58 (by decide) (Nat.lt_trans (zn_and_lt h3) (by decide)) (fun h58 => ?_) (fun h58 => ?_)
      · refine cw_iconst (v := nI 0) C dd_Dg_canTake_65 (by decide +kernel) ?_
        exact cw_zreturn C dd_Dg_canTake_66 (nw_zn (by decide)) (Nat.le_of_ble_eq_true rfl) (Nat.le_of_ble_eq_true rfl) ⟨_, rfl, rfl, ⟨by first | exact congrArg (fun z => some (Value.int z)) (zb_t ⟨h18, Classical.not_not.mp h35, h58⟩) | exact congrArg (fun z => some (Value.int z)) (zb_f (fun q => h18 q.1)) | exact congrArg (fun z => some (Value.int z)) (zb_f (fun q => h35 q.2.1)) | exact congrArg (fun z => some (Value.int z)) (zb_f (fun q => h58 q.2.2)), rfl⟩⟩
      · refine cw_iconst (v := nI 1) C dd_Dg_canTake_61 (by decide +kernel) ?_
        refine cw_goto (tgt := 66) C dd_Dg_canTake_62 (by decide) ?_
        exact cw_zreturn C dd_Dg_canTake_66 (nw_zn (by decide)) (Nat.le_of_ble_eq_true rfl) (Nat.le_of_ble_eq_true rfl) ⟨_, rfl, rfl, ⟨by first | exact congrArg (fun z => some (Value.int z)) (zb_t ⟨h18, Classical.not_not.mp h35, h58⟩) | exact congrArg (fun z => some (Value.int z)) (zb_f (fun q => h18 q.1)) | exact congrArg (fun z => some (Value.int z)) (zb_f (fun q => h35 q.2.1)) | exact congrArg (fun z => some (Value.int z)) (zb_f (fun q => h58 q.2.2)), rfl⟩⟩
set_option maxRecDepth 100000 in
set_option maxHeartbeats 4000000 in
theorem mm_Dg_insert (X : wx_S) (r : Nat) (hr : r < 4) (u : Nat) (hu : u < 90) (h1 : 1 ≤ X 28 u ∧ X 28 u ≤ 14) (h2 : X 24 u < 4) : nw_M wd_all yy_Dg_insert cc_Dg_insert 4 none 1 0 0 [.ref (100 + r), .int (nI u)] X (fun v X' => v = none ∧ X' = wx_u (wx_u (wx_u X (104 + r) (X 28 u * 4 + X 24 u) u) (108 + r) (X 28 u) (X (108 + r) (X 28 u) ||| 2 ^ X 24 u)) (100 + r) 3 (X (100 + r) 3 + 1)) := by
  refine nw_of [some (.ref (100 + r)), some (.int (nI u)), none, none] (by decide +kernel) rfl (Nat.le_of_ble_eq_true rfl) rfl ?_
  intro p l e s m args below meth c A g C
  refine cw_aload_n C dd_Dg_insert_0 rfl ?_
  refine cw_getr (q' := 20) C wc_25 kF_Dg_18 (is_25 hr) (by decide) rfl dd_Dg_insert_1 rfl ?_
  refine cw_getr (q' := 24) C wc_5 kF_Dg_37 is_5 (by decide) rfl dd_Dg_insert_4 rfl ?_
  refine cw_iload_n C dd_Dg_insert_7 rfl ?_
  refine nw_iald C is_6 (by first | omega | (simp [wx_u] <;> omega)) (by decide) dd_Dg_insert_8 ?_
  refine cw_istore_n C dd_Dg_insert_9 (Nat.le_of_ble_eq_true rfl) ?_
  refine cw_aload_n C dd_Dg_insert_10 rfl ?_
  refine cw_getr (q' := 20) C wc_25 kF_Dg_18 (is_25 hr) (by decide) rfl dd_Dg_insert_11 rfl ?_
  refine cw_getr (q' := 28) C wc_5 kF_Dg_28 is_5 (by decide) rfl dd_Dg_insert_14 rfl ?_
  refine cw_iload_n C dd_Dg_insert_17 rfl ?_
  refine nw_iald C is_7 (by first | omega | (simp [wx_u] <;> omega)) (by decide) dd_Dg_insert_18 ?_
  refine cw_istore_n C dd_Dg_insert_19 (Nat.le_of_ble_eq_true rfl) ?_
  refine cw_aload_n C dd_Dg_insert_20 rfl ?_
  refine cw_gets (b := 100) (b' := 104) C hr rfl wc_25 kF_Dg_9 (is_25 hr) (by decide) rfl dd_Dg_insert_21 rfl ?_
  refine cw_iload_n C dd_Dg_insert_24 rfl ?_
  refine cw_iconst (v := nI 4) C dd_Dg_insert_25 (by decide +kernel) ?_
  refine nw_imul C dd_Dg_insert_26 ?_
  refine cw_iload_n C dd_Dg_insert_27 rfl ?_
  refine nw_iadd C dd_Dg_insert_28 ?_
  refine cw_iload_n C dd_Dg_insert_29 rfl ?_
  refine nw_iast C (is_26 hr) (by first | omega | (simp [wx_u] <;> omega)) (by decide) dd_Dg_insert_30 ?_
  refine cw_aload_n C dd_Dg_insert_31 rfl ?_
  refine cw_gets (b := 100) (b' := 108) C hr rfl wc_25 kF_Dg_15 (is_25 hr) (by decide) rfl dd_Dg_insert_32 rfl ?_
  refine cw_iload_n C dd_Dg_insert_35 rfl ?_
  refine cw_dup2 C dd_Dg_insert_36 rfl rfl ?_
  refine nw_iald C (is_27 hr) (by first | omega | (simp [wx_u] <;> omega)) (by decide) dd_Dg_insert_37 ?_
  refine cw_iconst (v := nI 1) C dd_Dg_insert_38 (by decide +kernel) ?_
  refine cw_iload_n C dd_Dg_insert_39 rfl ?_
  refine nw_ishl C dd_Dg_insert_40 (by first | omega | (simp [wx_u] <;> omega)) ?_
  refine nw_ior C dd_Dg_insert_41 ?_
  refine nw_iast C (is_27 hr) (by first | omega | (simp [wx_u] <;> omega)) (by decide) dd_Dg_insert_42 ?_
  refine cw_aload_n C dd_Dg_insert_43 rfl ?_
  refine cw_dup C dd_Dg_insert_44 rfl ?_
  refine nw_geti C wc_25 kF_Dg_47 (is_25 hr) (by decide) rfl dd_Dg_insert_45 ?_
  refine cw_iconst (v := nI 1) C dd_Dg_insert_48 (by decide +kernel) ?_
  refine nw_iadd C dd_Dg_insert_49 ?_
  refine nw_puti C wc_25 kF_Dg_47 (is_25 hr) (by decide) rfl rfl rfl rfl dd_Dg_insert_50 ?_
  exact cw_vreturn C dd_Dg_insert_53 (Nat.le_of_ble_eq_true rfl) (Nat.le_of_ble_eq_true rfl) ⟨_, rfl, rfl, ⟨rfl, by simp [wx_u]⟩⟩
def zc_par (X : wx_S) (r au w : Nat) : Nat → Nat
  | 0 => 0
  | i + 1 => if X (104 + r) (w * 4 + i) ≠ 4294967295 ∧ au / 2 ^ i % 2 = 1 then zc_par X r au w i ||| X 32 (X (104 + r) (w * 4 + i)) else zc_par X r au w i
def zc_std (X : wx_S) (r a w : Nat) : Nat → Nat
  | 0 => 0
  | i + 1 => if X (104 + r) ((w + 1) * 4 + i) ≠ 4294967295 ∧ X 32 (X (104 + r) ((w + 1) * 4 + i)) / 2 ^ a % 2 = 1 then zc_std X r a w i + 1 else zc_std X r a w i
set_option maxRecDepth 100000 in
set_option maxHeartbeats 4000000 in
theorem lp_Dg_parentsOf {p : Program} {l : Launch} {e : Env} {s : State} {m : MethodId} {args : Array Value} {below : List Frame} {meth : Method} {c : Code} {A : Nat → Prop} {g : wd_G} {G : State → Prop}  (X : wx_S) (r : Nat) (hr : r < 4) (au w : Nat) (hau : au < 2147483648) (hw : w ≤ 15) (hsl : ∀ i, i < 4 → X (104 + r) (w * 4 + i) < 90 ∨ X (104 + r) (w * 4 + i) = 4294967295) (C : cw_C p s m args meth c A wd_all g cc_Dg_parentsOf 6 "DagLedger$Dag" (some .int))  (hend : ∀ z : Option Value, cw_W p l e (cw_rm 2 0 0) s m args below meth c A wd_all g 0 0 G 6 58 [some (.ref (100 + r)), some (.int (nI au)), some (.int (nI w)), some (.int (nI (zc_par X r au w (4)))), some (.int (nI (4))), z] [] (wx_e X) (wx_l X)) : ∀ (j i : Nat) (z : Option Value), i + j = 4 → cw_W p l e (cw_rm 2 0 0) s m args below meth c A wd_all g 0 0 G 6 5 [some (.ref (100 + r)), some (.int (nI au)), some (.int (nI w)), some (.int (nI (zc_par X r au w (i)))), some (.int (nI (i))), z] [] (wx_e X) (wx_l X) := by
  intro j
  induction j with
  | zero =>
    intro i z hij
    refine cw_iload C dd_Dg_parentsOf_5 rfl ?_
    refine cw_iconst (v := nI 4) C dd_Dg_parentsOf_7 (by decide +kernel) ?_
    refine nw_icmp_ge (tgt := 58) C dd_Dg_parentsOf_8 (by decide) (by first | omega | (simp [wx_u] <;> omega)) (by first | omega | (simp [wx_u] <;> omega)) (fun h8 => ?_) (fun h8 => ?_)
    · have hi : i = 4 := by omega
      rw [hi]
      exact hend z
    · exact absurd h8 (by omega)
  | succ j ih =>
    intro i z hij
    have h9 := hsl i (by omega)
    refine cw_iload C dd_Dg_parentsOf_5 rfl ?_
    refine cw_iconst (v := nI 4) C dd_Dg_parentsOf_7 (by decide +kernel) ?_
    refine nw_icmp_ge (tgt := 58) C dd_Dg_parentsOf_8 (by decide) (by first | omega | (simp [wx_u] <;> omega)) (by first | omega | (simp [wx_u] <;> omega)) (fun h8 => ?_) (fun h8 => ?_)
    · exact absurd h8 (by omega)
    · refine cw_aload_n C dd_Dg_parentsOf_11 rfl ?_
      refine cw_gets (b := 100) (b' := 104) C hr rfl wc_25 kF_Dg_9 (is_25 hr) (by decide) rfl dd_Dg_parentsOf_12 rfl ?_
      refine cw_iload_n C dd_Dg_parentsOf_15 rfl ?_
      refine cw_iconst (v := nI 4) C dd_Dg_parentsOf_16 (by decide +kernel) ?_
      refine nw_imul C dd_Dg_parentsOf_17 ?_
      refine cw_iload C dd_Dg_parentsOf_18 rfl ?_
      refine nw_iadd C dd_Dg_parentsOf_20 ?_
      refine nw_iald C (is_26 hr) (by first | omega | (simp [wx_u] <;> omega)) (by decide) dd_Dg_parentsOf_21 ?_
      refine cw_istore C dd_Dg_parentsOf_22 (Nat.le_of_ble_eq_true rfl) ?_
      refine cw_iload C dd_Dg_parentsOf_24 rfl ?_
      refine cw_iconst (v := nI 4294967295) C dd_Dg_parentsOf_26 (by decide +kernel) ?_
      refine nw_icmp_eq (tgt := 52) C dd_Dg_parentsOf_27 (by decide) (by first | omega | (simp [wx_u] <;> omega)) (by first | omega | (simp [wx_u] <;> omega)) (fun h27 => ?_) (fun h27 => ?_)
      · refine nw_iinc (b := 1) C dd_Dg_parentsOf_52 (by decide +kernel) rfl (Nat.le_of_ble_eq_true rfl) ?_
        refine cw_goto (tgt := 5) C dd_Dg_parentsOf_55 (by decide) ?_
        have k9 := ih (i + 1)
        rw [show zc_par X r au w (i + 1) = zc_par X r au w i by simp [zc_par, h27]] at k9
        exact k9 _ (by omega)
      · refine cw_iload_n C dd_Dg_parentsOf_30 rfl ?_
        refine cw_iload C dd_Dg_parentsOf_31 rfl ?_
        refine cw_callSN (As := [_, _]) C kS_Dg_51 dd_Dg_parentsOf_33 rfl rfl (Nat.le_of_ble_eq_true rfl) ⟨(Nat.le_of_ble_eq_true rfl), (Nat.le_of_ble_eq_true rfl)⟩ ⟨(Nat.le_of_ble_eq_true rfl), (Nat.le_of_ble_eq_true rfl)⟩ (mm_Le_contains X au i hau (by omega)) (nw_ki ?_)
        refine nw_zeq (tgt := 52) C dd_Dg_parentsOf_36 (by decide) (fun h36 => ?_) (fun h36 => ?_)
        · refine nw_iinc (b := 1) C dd_Dg_parentsOf_52 (by decide +kernel) rfl (Nat.le_of_ble_eq_true rfl) ?_
          refine cw_goto (tgt := 5) C dd_Dg_parentsOf_55 (by decide) ?_
          have k9 := ih (i + 1)
          rw [show zc_par X r au w (i + 1) = zc_par X r au w i by simp [zc_par, h27, h36]] at k9
          exact k9 _ (by omega)
        · refine cw_iload_n C dd_Dg_parentsOf_39 rfl ?_
          refine cw_aload_n C dd_Dg_parentsOf_40 rfl ?_
          refine cw_getr (q' := 20) C wc_25 kF_Dg_18 (is_25 hr) (by decide) rfl dd_Dg_parentsOf_41 rfl ?_
          refine cw_getr (q' := 32) C wc_5 kF_Dg_44 is_5 (by decide) rfl dd_Dg_parentsOf_44 rfl ?_
          refine cw_iload C dd_Dg_parentsOf_47 rfl ?_
          refine nw_iald C is_8 (by first | omega | (simp [wx_u] <;> omega)) (by decide) dd_Dg_parentsOf_49 ?_
          refine nw_ior C dd_Dg_parentsOf_50 ?_
          refine cw_istore_n C dd_Dg_parentsOf_51 (Nat.le_of_ble_eq_true rfl) ?_
          refine nw_iinc (b := 1) C dd_Dg_parentsOf_52 (by decide +kernel) rfl (Nat.le_of_ble_eq_true rfl) ?_
          refine cw_goto (tgt := 5) C dd_Dg_parentsOf_55 (by decide) ?_
          have k9 := ih (i + 1)
          rw [show zc_par X r au w (i + 1) = zc_par X r au w i ||| X 32 (X (104 + r) (w * 4 + i)) by simp [zc_par, h27, h36]] at k9
          exact k9 _ (by omega)
set_option maxRecDepth 100000 in
set_option maxHeartbeats 4000000 in
theorem mm_Dg_parentsOf (X : wx_S) (r : Nat) (hr : r < 4) (au w : Nat) (hau : au < 2147483648) (hw : w ≤ 15) (hsl : ∀ i, i < 4 → X (104 + r) (w * 4 + i) < 90 ∨ X (104 + r) (w * 4 + i) = 4294967295) : nw_M wd_all yy_Dg_parentsOf cc_Dg_parentsOf 6 (some .int) 2 0 0 [.ref (100 + r), .int (nI au), .int (nI w)] X (fun v X' => v = some (.int (nI (zc_par X r au w 4))) ∧ X' = X) := by
  refine nw_of [some (.ref (100 + r)), some (.int (nI au)), some (.int (nI w)), none, none, none] (by decide +kernel) rfl (Nat.le_of_ble_eq_true rfl) rfl ?_
  intro p l e s m args below meth c A g C
  refine cw_iconst (v := nI 0) C dd_Dg_parentsOf_0 (by decide +kernel) ?_
  refine cw_istore_n C dd_Dg_parentsOf_1 (Nat.le_of_ble_eq_true rfl) ?_
  refine cw_iconst (v := nI 0) C dd_Dg_parentsOf_2 (by decide +kernel) ?_
  refine cw_istore C dd_Dg_parentsOf_3 (Nat.le_of_ble_eq_true rfl) ?_
  refine lp_Dg_parentsOf X r hr au w hau hw hsl C ?_ 4 0 _ (by omega)
  intro z
  refine cw_iload_n C dd_Dg_parentsOf_58 rfl ?_
  exact cw_ireturn C dd_Dg_parentsOf_59 (Nat.le_of_ble_eq_true rfl) (Nat.le_of_ble_eq_true rfl) ⟨_, rfl, rfl, ⟨rfl, rfl⟩⟩
set_option maxRecDepth 100000 in
set_option maxHeartbeats 4000000 in
theorem lp_Dg_countStandingOn {p : Program} {l : Launch} {e : Env} {s : State} {m : MethodId} {args : Array Value} {below : List Frame} {meth : Method} {c : Code} {A : Nat → Prop} {g : wd_G} {G : State → Prop}  (X : wx_S) (r : Nat) (hr : r < 4) (a w : Nat) (ha : a < 4) (hw : w ≤ 14) (hsl : ∀ i, i < 4 → X (104 + r) ((w + 1) * 4 + i) < 90 ∨ X (104 + r) ((w + 1) * 4 + i) = 4294967295) (hp : ∀ i, i < 90 → X 32 i < 2147483648) (C : cw_C p s m args meth c A wd_all g cc_Dg_countStandingOn 6 "DagLedger$Dag" (some .int))  (hend : ∀ z : Option Value, cw_W p l e (cw_rm 2 0 0) s m args below meth c A wd_all g 0 0 G 6 58 [some (.ref (100 + r)), some (.int (nI a)), some (.int (nI w)), some (.int (nI (zc_std X r a w (4)))), some (.int (nI (4))), z] [] (wx_e X) (wx_l X)) : ∀ (j i : Nat) (z : Option Value), i + j = 4 → cw_W p l e (cw_rm 2 0 0) s m args below meth c A wd_all g 0 0 G 6 5 [some (.ref (100 + r)), some (.int (nI a)), some (.int (nI w)), some (.int (nI (zc_std X r a w (i)))), some (.int (nI (i))), z] [] (wx_e X) (wx_l X) := by
  intro j
  induction j with
  | zero =>
    intro i z hij
    refine cw_iload C dd_Dg_countStandingOn_5 rfl ?_
    refine cw_iconst (v := nI 4) C dd_Dg_countStandingOn_7 (by decide +kernel) ?_
    refine nw_icmp_ge (tgt := 58) C dd_Dg_countStandingOn_8 (by decide) (by first | omega | (simp [wx_u] <;> omega)) (by first | omega | (simp [wx_u] <;> omega)) (fun h8 => ?_) (fun h8 => ?_)
    · have hi : i = 4 := by omega
      rw [hi]
      exact hend z
    · exact absurd h8 (by omega)
  | succ j ih =>
    intro i z hij
    have h9 := hsl i (by omega)
    refine cw_iload C dd_Dg_countStandingOn_5 rfl ?_
    refine cw_iconst (v := nI 4) C dd_Dg_countStandingOn_7 (by decide +kernel) ?_
    refine nw_icmp_ge (tgt := 58) C dd_Dg_countStandingOn_8 (by decide) (by first | omega | (simp [wx_u] <;> omega)) (by first | omega | (simp [wx_u] <;> omega)) (fun h8 => ?_) (fun h8 => ?_)
    · exact absurd h8 (by omega)
    · refine cw_aload_n C dd_Dg_countStandingOn_11 rfl ?_
      refine cw_gets (b := 100) (b' := 104) C hr rfl wc_25 kF_Dg_9 (is_25 hr) (by decide) rfl dd_Dg_countStandingOn_12 rfl ?_
      refine cw_iload_n C dd_Dg_countStandingOn_15 rfl ?_
      refine cw_iconst (v := nI 1) C dd_Dg_countStandingOn_16 (by decide +kernel) ?_
      refine nw_iadd C dd_Dg_countStandingOn_17 ?_
      refine cw_iconst (v := nI 4) C dd_Dg_countStandingOn_18 (by decide +kernel) ?_
      refine nw_imul C dd_Dg_countStandingOn_19 ?_
      refine cw_iload C dd_Dg_countStandingOn_20 rfl ?_
      refine nw_iadd C dd_Dg_countStandingOn_22 ?_
      refine nw_iald C (is_26 hr) (by first | omega | (simp [wx_u] <;> omega)) (by decide) dd_Dg_countStandingOn_23 ?_
      refine cw_istore C dd_Dg_countStandingOn_24 (Nat.le_of_ble_eq_true rfl) ?_
      refine cw_iload C dd_Dg_countStandingOn_26 rfl ?_
      refine cw_iconst (v := nI 4294967295) C dd_Dg_countStandingOn_28 (by decide +kernel) ?_
      refine nw_icmp_eq (tgt := 52) C dd_Dg_countStandingOn_29 (by decide) (by first | omega | (simp [wx_u] <;> omega)) (by first | omega | (simp [wx_u] <;> omega)) (fun h29 => ?_) (fun h29 => ?_)
      · refine nw_iinc (b := 1) C dd_Dg_countStandingOn_52 (by decide +kernel) rfl (Nat.le_of_ble_eq_true rfl) ?_
        refine cw_goto (tgt := 5) C dd_Dg_countStandingOn_55 (by decide) ?_
        have k9 := ih (i + 1)
        rw [show zc_std X r a w (i + 1) = zc_std X r a w i by simp [zc_std, h29]] at k9
        exact k9 _ (by omega)
      · refine cw_aload_n C dd_Dg_countStandingOn_32 rfl ?_
        refine cw_getr (q' := 20) C wc_25 kF_Dg_18 (is_25 hr) (by decide) rfl dd_Dg_countStandingOn_33 rfl ?_
        refine cw_getr (q' := 32) C wc_5 kF_Dg_44 is_5 (by decide) rfl dd_Dg_countStandingOn_36 rfl ?_
        refine cw_iload C dd_Dg_countStandingOn_39 rfl ?_
        refine nw_iald C is_8 (by first | omega | (simp [wx_u] <;> omega)) (by decide) dd_Dg_countStandingOn_41 ?_
        refine cw_iload_n C dd_Dg_countStandingOn_42 rfl ?_
        refine cw_callSN (As := [_, _]) C kS_Dg_51 dd_Dg_countStandingOn_43 rfl rfl (Nat.le_of_ble_eq_true rfl) ⟨(Nat.le_of_ble_eq_true rfl), (Nat.le_of_ble_eq_true rfl)⟩ ⟨(Nat.le_of_ble_eq_true rfl), (Nat.le_of_ble_eq_true rfl)⟩ (mm_Le_contains X _ a (hp _ (by omega)) (by omega)) (nw_ki ?_)
        refine nw_zeq (tgt := 52) C dd_Dg_countStandingOn_46 (by decide) (fun h46 => ?_) (fun h46 => ?_)
        · refine nw_iinc (b := 1) C dd_Dg_countStandingOn_52 (by decide +kernel) rfl (Nat.le_of_ble_eq_true rfl) ?_
          refine cw_goto (tgt := 5) C dd_Dg_countStandingOn_55 (by decide) ?_
          have k9 := ih (i + 1)
          rw [show zc_std X r a w (i + 1) = zc_std X r a w i by simp [zc_std, h29, h46]] at k9
          exact k9 _ (by omega)
        · refine nw_iinc (b := 1) C dd_Dg_countStandingOn_49 (by decide +kernel) rfl (Nat.le_of_ble_eq_true rfl) ?_
          refine nw_iinc (b := 1) C dd_Dg_countStandingOn_52 (by decide +kernel) rfl (Nat.le_of_ble_eq_true rfl) ?_
          refine cw_goto (tgt := 5) C dd_Dg_countStandingOn_55 (by decide) ?_
          have k9 := ih (i + 1)
          rw [show zc_std X r a w (i + 1) = zc_std X r a w i + 1 by simp [zc_std, h29, h46]] at k9
          exact k9 _ (by omega)
set_option maxRecDepth 100000 in
set_option maxHeartbeats 4000000 in
theorem mm_Dg_countStandingOn (X : wx_S) (r : Nat) (hr : r < 4) (a w : Nat) (ha : a < 4) (hw : w ≤ 14) (hsl : ∀ i, i < 4 → X (104 + r) ((w + 1) * 4 + i) < 90 ∨ X (104 + r) ((w + 1) * 4 + i) = 4294967295) (hp : ∀ i, i < 90 → X 32 i < 2147483648) : nw_M wd_all yy_Dg_countStandingOn cc_Dg_countStandingOn 6 (some .int) 2 0 0 [.ref (100 + r), .int (nI a), .int (nI w)] X (fun v X' => v = some (.int (nI (zc_std X r a w 4))) ∧ X' = X) := by
  refine nw_of [some (.ref (100 + r)), some (.int (nI a)), some (.int (nI w)), none, none, none] (by decide +kernel) rfl (Nat.le_of_ble_eq_true rfl) rfl ?_
  intro p l e s m args below meth c A g C
  refine cw_iconst (v := nI 0) C dd_Dg_countStandingOn_0 (by decide +kernel) ?_
  refine cw_istore_n C dd_Dg_countStandingOn_1 (Nat.le_of_ble_eq_true rfl) ?_
  refine cw_iconst (v := nI 0) C dd_Dg_countStandingOn_2 (by decide +kernel) ?_
  refine cw_istore C dd_Dg_countStandingOn_3 (Nat.le_of_ble_eq_true rfl) ?_
  refine lp_Dg_countStandingOn X r hr a w ha hw hsl hp C ?_ 4 0 _ (by omega)
  intro z
  refine cw_iload_n C dd_Dg_countStandingOn_58 rfl ?_
  exact cw_ireturn C dd_Dg_countStandingOn_59 (Nat.le_of_ble_eq_true rfl) (Nat.le_of_ble_eq_true rfl) ⟨_, rfl, rfl, ⟨rfl, rfl⟩⟩
set_option maxRecDepth 100000 in
set_option maxHeartbeats 4000000 in
theorem mm_Dg_clear (X : wx_S) (r : Nat) (hr : r < 4) : nw_M wd_all yy_Dg_clear cc_Dg_clear 1 none 2 0 0 [.ref (100 + r)] X (fun v X' => v = none ∧ X' = wx_u (zz_fill (zz_fill X (104 + r) 64 4294967295) (108 + r) 16 0) (100 + r) 3 0) := by
  refine nw_of [some (.ref (100 + r))] (by decide +kernel) rfl (Nat.le_of_ble_eq_true rfl) rfl ?_
  intro p l e s m args below meth c A g C
  refine cw_aload_n C dd_Dg_clear_0 rfl ?_
  refine cw_gets (b := 100) (b' := 104) C hr rfl wc_25 kF_Dg_9 (is_25 hr) (by decide) rfl dd_Dg_clear_1 rfl ?_
  refine cw_iconst (v := nI 4294967295) C dd_Dg_clear_4 (by decide +kernel) ?_
  refine cw_callS (As := [_, _]) C kS_Dg_22 dd_Dg_clear_5 rfl rfl (Nat.le_of_ble_eq_true rfl) ⟨(Nat.le_of_ble_eq_true rfl), (Nat.le_of_ble_eq_true rfl)⟩ ⟨(Nat.le_of_ble_eq_true rfl), (Nat.le_of_ble_eq_true rfl)⟩ (mm_Ar_fill _ (104 + r) 64 4294967295 _ (is_26 hr) (by decide)) (nw_kv ?_)
  refine cw_aload_n C dd_Dg_clear_8 rfl ?_
  refine cw_gets (b := 100) (b' := 108) C hr rfl wc_25 kF_Dg_15 (is_25 hr) (by decide) rfl dd_Dg_clear_9 rfl ?_
  refine cw_iconst (v := nI 0) C dd_Dg_clear_12 (by decide +kernel) ?_
  refine cw_callS (As := [_, _]) C kS_Dg_22 dd_Dg_clear_13 rfl rfl (Nat.le_of_ble_eq_true rfl) ⟨(Nat.le_of_ble_eq_true rfl), (Nat.le_of_ble_eq_true rfl)⟩ ⟨(Nat.le_of_ble_eq_true rfl), (Nat.le_of_ble_eq_true rfl)⟩ (mm_Ar_fill _ (108 + r) 16 0 _ (is_27 hr) (by decide)) (nw_kv ?_)
  refine cw_aload_n C dd_Dg_clear_16 rfl ?_
  refine cw_iconst (v := nI 0) C dd_Dg_clear_17 (by decide +kernel) ?_
  refine nw_puti C wc_25 kF_Dg_47 (is_25 hr) (by decide) rfl rfl rfl rfl dd_Dg_clear_18 ?_
  exact cw_vreturn C dd_Dg_clear_21 (Nat.le_of_ble_eq_true rfl) (Nat.le_of_ble_eq_true rfl) ⟨_, rfl, rfl, ⟨by first | rfl | simp [wx_u], by first | rfl | simp [wx_u]⟩⟩
set_option maxRecDepth 100000 in
set_option maxHeartbeats 4000000 in
theorem mm_Bk_open (X : wx_S) (r : Nat) (hr : r < 4) : nw_M wd_all yy_Bk_open cc_Bk_open 1 none 2 0 0 [.ref (112 + r)] X (fun v X' => v = none ∧ X' = zz_fill X (120 + r) 4 100) := by
  refine nw_of [some (.ref (112 + r))] (by decide +kernel) rfl (Nat.le_of_ble_eq_true rfl) rfl ?_
  intro p l e s m args below meth c A g C
  refine cw_aload_n C dd_Bk_open_0 rfl ?_
  refine cw_gets (b := 112) (b' := 120) C hr rfl wc_28 kF_Bk_15 (is_28 hr) (by decide) rfl dd_Bk_open_1 rfl ?_
  refine cw_bipush (v := nI 100) C dd_Bk_open_4 (by decide +kernel) ?_
  refine cw_callS (As := [_, _]) C kS_Bk_22 dd_Bk_open_6 rfl rfl (Nat.le_of_ble_eq_true rfl) ⟨(Nat.le_of_ble_eq_true rfl), (Nat.le_of_ble_eq_true rfl)⟩ ⟨(Nat.le_of_ble_eq_true rfl), (Nat.le_of_ble_eq_true rfl)⟩ (mm_Ar_fill _ (120 + r) 4 100 _ (is_30 hr) (by decide)) (nw_kv ?_)
  exact cw_vreturn C dd_Bk_open_9 (Nat.le_of_ble_eq_true rfl) (Nat.le_of_ble_eq_true rfl) ⟨_, rfl, rfl, ⟨by first | rfl | simp [wx_u], by first | rfl | simp [wx_u]⟩⟩
set_option maxRecDepth 100000 in
set_option maxHeartbeats 4000000 in
theorem mm_Bk_clear (X : wx_S) (r : Nat) (hr : r < 4) : nw_M wd_all yy_Bk_clear cc_Bk_clear 1 none 2 0 0 [.ref (112 + r)] X (fun v X' => v = none ∧ X' = wx_u (wx_u (zz_fill X (120 + r) 4 0) (112 + r) 2 0) (112 + r) 3 0) := by
  refine nw_of [some (.ref (112 + r))] (by decide +kernel) rfl (Nat.le_of_ble_eq_true rfl) rfl ?_
  intro p l e s m args below meth c A g C
  refine cw_aload_n C dd_Bk_clear_0 rfl ?_
  refine cw_gets (b := 112) (b' := 120) C hr rfl wc_28 kF_Bk_15 (is_28 hr) (by decide) rfl dd_Bk_clear_1 rfl ?_
  refine cw_iconst (v := nI 0) C dd_Bk_clear_4 (by decide +kernel) ?_
  refine cw_callS (As := [_, _]) C kS_Bk_22 dd_Bk_clear_5 rfl rfl (Nat.le_of_ble_eq_true rfl) ⟨(Nat.le_of_ble_eq_true rfl), (Nat.le_of_ble_eq_true rfl)⟩ ⟨(Nat.le_of_ble_eq_true rfl), (Nat.le_of_ble_eq_true rfl)⟩ (mm_Ar_fill _ (120 + r) 4 0 _ (is_30 hr) (by decide)) (nw_kv ?_)
  refine cw_aload_n C dd_Bk_clear_8 rfl ?_
  refine cw_iconst (v := nI 0) C dd_Bk_clear_9 (by decide +kernel) ?_
  refine nw_puti C wc_28 kF_Bk_32 (is_28 hr) (by decide) rfl rfl rfl rfl dd_Bk_clear_10 ?_
  refine cw_aload_n C dd_Bk_clear_13 rfl ?_
  refine cw_lconst (v := lN 0) C dd_Bk_clear_14 (by decide +kernel) ?_
  refine nw_putl C wc_28 kF_Bk_28 (is_28 hr) (by decide) rfl rfl rfl rfl dd_Bk_clear_15 ?_
  exact cw_vreturn C dd_Bk_clear_18 (Nat.le_of_ble_eq_true rfl) (Nat.le_of_ble_eq_true rfl) ⟨_, rfl, rfl, ⟨by first | rfl | simp [wx_u], by first | rfl | simp [wx_u]⟩⟩
