def zc_node (X : wx_S) (r q : Nat) : Nat := if q = 0 then X (64 + r) 8 else if q = 1 then X (68 + r) 5 else if q = 2 then X (64 + r) 10 else if q = 3 then X (64 + r) 9 else if q = 4 then X (124 + r) 5 else if q = 5 then X (100 + r) 3 else if q = 6 then X (112 + r) 2 else if q = 7 then X (68 + r) 1 - X (68 + r) 2 else if q = 8 then X (68 + r) 6 else 4294967295
set_option maxRecDepth 100000 in
set_option maxHeartbeats 4000000 in
theorem mm_Le_node (X : wx_S) (r : Nat) (hr : r < 4) (q : Nat) (hq : q < 4294967296) (hqu : X (68 + r) 2 ≤ X (68 + r) 1) : nw_M wd_all yy_Le_node cc_Le_node 4 (some .int) 2 0 0 [.ref 0, .int (nI r), .int (nI q)] X (fun v X' => v = some (.int (nI (zc_node X r q))) ∧ X' = X) := by
  refine nw_of [some (.ref 0), some (.int (nI r)), some (.int (nI q)), none] (by decide +kernel) rfl (Nat.le_of_ble_eq_true rfl) rfl ?_
  intro p l e s m args below meth c A g C
  refine cw_aload_n C dd_Le_node_0 rfl ?_
  refine cw_iload_n C dd_Le_node_1 rfl ?_
  refine cw_callV (As := [_]) C kV_Le_72 wc_0 is_0 dd_Le_node_2 rfl rfl (Nat.le_of_ble_eq_true rfl) ⟨(Nat.le_of_ble_eq_true rfl), (Nat.le_of_ble_eq_true rfl)⟩ ⟨(Nat.le_of_ble_eq_true rfl), (Nat.le_of_ble_eq_true rfl)⟩ (mm_Le_replicaOf X r hr) (nw_kr ?_)
  refine cw_astore_n C dd_Le_node_5 (Nat.le_of_ble_eq_true rfl) ?_
  refine cw_iload_n C dd_Le_node_6 rfl ?_
  rcases (show q = 0 ∨ q = 1 ∨ q = 2 ∨ q = 3 ∨ q = 4 ∨ q = 5 ∨ q = 6 ∨ q = 7 ∨ q = 8 ∨ 9 ≤ q by omega) with hs | hs | hs | hs | hs | hs | hs | hs | hs | hs
  · refine cw_tableIn (off := 49) (tgt := 56) C dd_Le_node_7 (by rw [hs]; decide +kernel) (by rw [hs]; decide +kernel) (by rw [hs]; decide +kernel) (by decide) ?_
    refine cw_aload_n C dd_Le_node_56 rfl ?_
    refine nw_geti C wc_16 kF_Le_94 (is_16 hr) (by decide) rfl dd_Le_node_57 ?_
    exact cw_ireturn C dd_Le_node_60 (Nat.le_of_ble_eq_true rfl) (Nat.le_of_ble_eq_true rfl) ⟨_, rfl, rfl, ⟨by rw [zc_node, if_pos hs], rfl⟩⟩
  · refine cw_tableIn (off := 54) (tgt := 61) C dd_Le_node_7 (by rw [hs]; decide +kernel) (by rw [hs]; decide +kernel) (by rw [hs]; decide +kernel) (by decide) ?_
    refine cw_aload_n C dd_Le_node_61 rfl ?_
    refine cw_gets (b := 64) (b' := 68) C hr rfl wc_16 kF_Le_62 (is_16 hr) (by decide) rfl dd_Le_node_62 rfl ?_
    refine nw_geti C wc_17 kF_Le_142 (is_17 hr) (by decide) rfl dd_Le_node_65 ?_
    exact cw_ireturn C dd_Le_node_68 (Nat.le_of_ble_eq_true rfl) (Nat.le_of_ble_eq_true rfl) ⟨_, rfl, rfl, ⟨by rw [zc_node, if_neg (by omega), if_pos hs], rfl⟩⟩
  · refine cw_tableIn (off := 62) (tgt := 69) C dd_Le_node_7 (by rw [hs]; decide +kernel) (by rw [hs]; decide +kernel) (by rw [hs]; decide +kernel) (by decide) ?_
    refine cw_aload_n C dd_Le_node_69 rfl ?_
    refine nw_geti C wc_16 kF_Le_145 (is_16 hr) (by decide) rfl dd_Le_node_70 ?_
    exact cw_ireturn C dd_Le_node_73 (Nat.le_of_ble_eq_true rfl) (Nat.le_of_ble_eq_true rfl) ⟨_, rfl, rfl, ⟨by rw [zc_node, if_neg (by omega), if_neg (by omega), if_pos hs], rfl⟩⟩
  · refine cw_tableIn (off := 67) (tgt := 74) C dd_Le_node_7 (by rw [hs]; decide +kernel) (by rw [hs]; decide +kernel) (by rw [hs]; decide +kernel) (by decide) ?_
    refine cw_aload_n C dd_Le_node_74 rfl ?_
    refine nw_geti C wc_16 kF_Le_85 (is_16 hr) (by decide) rfl dd_Le_node_75 ?_
    exact cw_ireturn C dd_Le_node_78 (Nat.le_of_ble_eq_true rfl) (Nat.le_of_ble_eq_true rfl) ⟨_, rfl, rfl, ⟨by rw [zc_node, if_neg (by omega), if_neg (by omega), if_neg (by omega), if_pos hs], rfl⟩⟩
  · refine cw_tableIn (off := 72) (tgt := 79) C dd_Le_node_7 (by rw [hs]; decide +kernel) (by rw [hs]; decide +kernel) (by rw [hs]; decide +kernel) (by decide) ?_
    refine cw_aload_n C dd_Le_node_79 rfl ?_
    refine cw_gets (b := 64) (b' := 124) C hr rfl wc_16 kF_Le_148 (is_16 hr) (by decide) rfl dd_Le_node_80 rfl ?_
    refine nw_geti C wc_31 kF_Le_152 (is_31 hr) (by decide) rfl dd_Le_node_83 ?_
    exact cw_ireturn C dd_Le_node_86 (Nat.le_of_ble_eq_true rfl) (Nat.le_of_ble_eq_true rfl) ⟨_, rfl, rfl, ⟨by rw [zc_node, if_neg (by omega), if_neg (by omega), if_neg (by omega), if_neg (by omega), if_pos hs], rfl⟩⟩
  · refine cw_tableIn (off := 80) (tgt := 87) C dd_Le_node_7 (by rw [hs]; decide +kernel) (by rw [hs]; decide +kernel) (by rw [hs]; decide +kernel) (by decide) ?_
    refine cw_aload_n C dd_Le_node_87 rfl ?_
    refine cw_gets (b := 64) (b' := 100) C hr rfl wc_16 kF_Le_157 (is_16 hr) (by decide) rfl dd_Le_node_88 rfl ?_
    refine nw_geti C wc_25 kF_Le_161 (is_25 hr) (by decide) rfl dd_Le_node_91 ?_
    exact cw_ireturn C dd_Le_node_94 (Nat.le_of_ble_eq_true rfl) (Nat.le_of_ble_eq_true rfl) ⟨_, rfl, rfl, ⟨by rw [zc_node, if_neg (by omega), if_neg (by omega), if_neg (by omega), if_neg (by omega), if_neg (by omega), if_pos hs], rfl⟩⟩
  · refine cw_tableIn (off := 88) (tgt := 95) C dd_Le_node_7 (by rw [hs]; decide +kernel) (by rw [hs]; decide +kernel) (by rw [hs]; decide +kernel) (by decide) ?_
    refine cw_aload_n C dd_Le_node_95 rfl ?_
    refine cw_gets (b := 64) (b' := 112) C hr rfl wc_16 kF_Le_166 (is_16 hr) (by decide) rfl dd_Le_node_96 rfl ?_
    refine nw_geti C wc_28 kF_Le_170 (is_28 hr) (by decide) rfl dd_Le_node_99 ?_
    exact cw_ireturn C dd_Le_node_102 (Nat.le_of_ble_eq_true rfl) (Nat.le_of_ble_eq_true rfl) ⟨_, rfl, rfl, ⟨by rw [zc_node, if_neg (by omega), if_neg (by omega), if_neg (by omega), if_neg (by omega), if_neg (by omega), if_neg (by omega), if_pos hs], rfl⟩⟩
  · refine cw_tableIn (off := 96) (tgt := 103) C dd_Le_node_7 (by rw [hs]; decide +kernel) (by rw [hs]; decide +kernel) (by rw [hs]; decide +kernel) (by decide) ?_
    refine cw_aload_n C dd_Le_node_103 rfl ?_
    refine cw_gets (b := 64) (b' := 68) C hr rfl wc_16 kF_Le_62 (is_16 hr) (by decide) rfl dd_Le_node_104 rfl ?_
    refine cw_callV (As := []) C kV_Le_173 wc_17 (is_17 hr) dd_Le_node_107 rfl rfl (Nat.le_of_ble_eq_true rfl) ⟨(Nat.le_of_ble_eq_true rfl), (Nat.le_of_ble_eq_true rfl)⟩ ⟨(Nat.le_of_ble_eq_true rfl), (Nat.le_of_ble_eq_true rfl)⟩ (mm_Di_queueLength X r hr hqu) (nw_ki ?_)
    exact cw_ireturn C dd_Le_node_110 (Nat.le_of_ble_eq_true rfl) (Nat.le_of_ble_eq_true rfl) ⟨_, rfl, rfl, ⟨by rw [zc_node, if_neg (by omega), if_neg (by omega), if_neg (by omega), if_neg (by omega), if_neg (by omega), if_neg (by omega), if_neg (by omega), if_pos hs], rfl⟩⟩
  · refine cw_tableIn (off := 104) (tgt := 111) C dd_Le_node_7 (by rw [hs]; decide +kernel) (by rw [hs]; decide +kernel) (by rw [hs]; decide +kernel) (by decide) ?_
    refine cw_aload_n C dd_Le_node_111 rfl ?_
    refine cw_gets (b := 64) (b' := 68) C hr rfl wc_16 kF_Le_62 (is_16 hr) (by decide) rfl dd_Le_node_112 rfl ?_
    refine nw_geti C wc_17 kF_Le_177 (is_17 hr) (by decide) rfl dd_Le_node_115 ?_
    exact cw_ireturn C dd_Le_node_118 (Nat.le_of_ble_eq_true rfl) (Nat.le_of_ble_eq_true rfl) ⟨_, rfl, rfl, ⟨by rw [zc_node, if_neg (by omega), if_neg (by omega), if_neg (by omega), if_neg (by omega), if_neg (by omega), if_neg (by omega), if_neg (by omega), if_neg (by omega), if_pos hs], rfl⟩⟩
  · refine cw_tableOut (tgt := 119) C dd_Le_node_7 (wx_tout q 9 hq hs (by decide)) (by decide) ?_
    refine cw_iconst (v := nI 4294967295) C dd_Le_node_119 (by decide +kernel) ?_
    exact cw_ireturn C dd_Le_node_120 (Nat.le_of_ble_eq_true rfl) (Nat.le_of_ble_eq_true rfl) ⟨_, rfl, rfl, ⟨by rw [zc_node, if_neg (by omega), if_neg (by omega), if_neg (by omega), if_neg (by omega), if_neg (by omega), if_neg (by omega), if_neg (by omega), if_neg (by omega), if_neg (by omega)], rfl⟩⟩
set_option maxRecDepth 100000 in
set_option maxHeartbeats 4000000 in
theorem mm_Le_dag (X : wx_S) (r : Nat) (hr : r < 4) (a w : Nat) (ha : a < 4294967296) (hw : w < 4294967296) : nw_M wd_all yy_Le_dag cc_Le_dag 5 (some .int) 2 0 0 [.ref 0, .int (nI r), .int (nI a), .int (nI w)] X (fun v X' => v = some (.int (nI (if a < 4 ∧ 1 ≤ w ∧ w ≤ 14 then X (104 + r) (w * 4 + a) else 4294967295))) ∧ X' = X) := by
  refine nw_of [some (.ref 0), some (.int (nI r)), some (.int (nI a)), some (.int (nI w)), none] (by decide +kernel) rfl (Nat.le_of_ble_eq_true rfl) rfl ?_
  intro p l e s m args below meth c A g C
  refine cw_aload_n C dd_Le_dag_0 rfl ?_
  refine cw_iload_n C dd_Le_dag_1 rfl ?_
  refine cw_callV (As := [_]) C kV_Le_72 wc_0 is_0 dd_Le_dag_2 rfl rfl (Nat.le_of_ble_eq_true rfl) ⟨(Nat.le_of_ble_eq_true rfl), (Nat.le_of_ble_eq_true rfl)⟩ ⟨(Nat.le_of_ble_eq_true rfl), (Nat.le_of_ble_eq_true rfl)⟩ (mm_Le_replicaOf X r hr) (nw_kr ?_)
  refine cw_astore C dd_Le_dag_5 (Nat.le_of_ble_eq_true rfl) ?_
  refine cw_iload_n C dd_Le_dag_7 rfl ?_
  refine nw_if_lt (tgt := 27) C dd_Le_dag_8 (by decide) (by first | omega | (simp [wx_u] <;> omega)) (fun h8 => ?_) (fun h8 => ?_)
  · refine cw_iconst (v := nI 4294967295) C dd_Le_dag_27 (by decide +kernel) ?_
    exact cw_ireturn C dd_Le_dag_28 (Nat.le_of_ble_eq_true rfl) (Nat.le_of_ble_eq_true rfl) ⟨_, rfl, rfl, ⟨by rw [if_neg (by omega)], rfl⟩⟩
  · refine cw_iload_n C dd_Le_dag_11 rfl ?_
    refine cw_iconst (v := nI 4) C dd_Le_dag_12 (by decide +kernel) ?_
    refine nw_icmp_ge (tgt := 27) C dd_Le_dag_13 (by decide) (by first | omega | (simp [wx_u] <;> omega)) (by first | omega | (simp [wx_u] <;> omega)) (fun h13 => ?_) (fun h13 => ?_)
    · refine cw_iconst (v := nI 4294967295) C dd_Le_dag_27 (by decide +kernel) ?_
      exact cw_ireturn C dd_Le_dag_28 (Nat.le_of_ble_eq_true rfl) (Nat.le_of_ble_eq_true rfl) ⟨_, rfl, rfl, ⟨by rw [if_neg (by omega)], rfl⟩⟩
    · refine cw_iload_n C dd_Le_dag_16 rfl ?_
      refine cw_iconst (v := nI 1) C dd_Le_dag_17 (by decide +kernel) ?_
      refine nw_scmp_lt (tgt := 27) C dd_Le_dag_18 (by decide) (by first | omega | (simp [wx_u] <;> omega)) (by first | omega | (simp [wx_u] <;> omega)) (fun h18 => ?_) (fun h18 => ?_)
      · refine cw_iconst (v := nI 4294967295) C dd_Le_dag_27 (by decide +kernel) ?_
        exact cw_ireturn C dd_Le_dag_28 (Nat.le_of_ble_eq_true rfl) (Nat.le_of_ble_eq_true rfl) ⟨_, rfl, rfl, ⟨by rw [if_neg (by omega)], rfl⟩⟩
      · refine cw_iload_n C dd_Le_dag_21 rfl ?_
        refine cw_bipush (v := nI 14) C dd_Le_dag_22 (by decide +kernel) ?_
        refine nw_scmp_le (tgt := 29) C dd_Le_dag_24 (by decide) (by first | omega | (simp [wx_u] <;> omega)) (by first | omega | (simp [wx_u] <;> omega)) (fun h24 => ?_) (fun h24 => ?_)
        · refine cw_aload C dd_Le_dag_29 rfl ?_
          refine cw_gets (b := 64) (b' := 100) C hr rfl wc_16 kF_Le_157 (is_16 hr) (by decide) rfl dd_Le_dag_31 rfl ?_
          refine cw_iload_n C dd_Le_dag_34 rfl ?_
          refine cw_iload_n C dd_Le_dag_35 rfl ?_
          refine cw_callV (As := [_, _]) C kV_Le_180 wc_25 (is_25 hr) dd_Le_dag_36 rfl rfl (Nat.le_of_ble_eq_true rfl) ⟨(Nat.le_of_ble_eq_true rfl), (Nat.le_of_ble_eq_true rfl)⟩ ⟨(Nat.le_of_ble_eq_true rfl), (Nat.le_of_ble_eq_true rfl)⟩ (mm_Dg_find X r hr a w (by omega)) (nw_ki ?_)
          exact cw_ireturn C dd_Le_dag_39 (Nat.le_of_ble_eq_true rfl) (Nat.le_of_ble_eq_true rfl) ⟨_, rfl, rfl, ⟨by rw [if_pos (by omega)], rfl⟩⟩
        · refine cw_iconst (v := nI 4294967295) C dd_Le_dag_27 (by decide +kernel) ?_
          exact cw_ireturn C dd_Le_dag_28 (Nat.le_of_ble_eq_true rfl) (Nat.le_of_ble_eq_true rfl) ⟨_, rfl, rfl, ⟨by rw [if_neg (by omega)], rfl⟩⟩
set_option maxRecDepth 100000 in
set_option maxHeartbeats 4000000 in
theorem mm_Le_at (X : wx_S) (r : Nat) (hr : r < 4) (k : Nat) (hk : k < 4294967296) (hc : X (112 + r) 2 ≤ 40) : nw_M wd_all yy_Le_at cc_Le_at 4 (some .int) 2 0 0 [.ref 0, .int (nI r), .int (nI k)] X (fun v X' => v = some (.int (nI (if k < X (112 + r) 2 then X (116 + r) k else 4294967295))) ∧ X' = X) := by
  refine nw_of [some (.ref 0), some (.int (nI r)), some (.int (nI k)), none] (by decide +kernel) rfl (Nat.le_of_ble_eq_true rfl) rfl ?_
  intro p l e s m args below meth c A g C
  refine cw_aload_n C dd_Le_at_0 rfl ?_
  refine cw_iload_n C dd_Le_at_1 rfl ?_
  refine cw_callV (As := [_]) C kV_Le_72 wc_0 is_0 dd_Le_at_2 rfl rfl (Nat.le_of_ble_eq_true rfl) ⟨(Nat.le_of_ble_eq_true rfl), (Nat.le_of_ble_eq_true rfl)⟩ ⟨(Nat.le_of_ble_eq_true rfl), (Nat.le_of_ble_eq_true rfl)⟩ (mm_Le_replicaOf X r hr) (nw_kr ?_)
  refine cw_astore_n C dd_Le_at_5 (Nat.le_of_ble_eq_true rfl) ?_
  refine cw_iload_n C dd_Le_at_6 rfl ?_
  refine nw_if_lt (tgt := 21) C dd_Le_at_7 (by decide) (by first | omega | (simp [wx_u] <;> omega)) (fun h7 => ?_) (fun h7 => ?_)
  · refine cw_iconst (v := nI 4294967295) C dd_Le_at_21 (by decide +kernel) ?_
    exact cw_ireturn C dd_Le_at_22 (Nat.le_of_ble_eq_true rfl) (Nat.le_of_ble_eq_true rfl) ⟨_, rfl, rfl, ⟨by rw [if_neg (by omega)], rfl⟩⟩
  · refine cw_iload_n C dd_Le_at_10 rfl ?_
    refine cw_aload_n C dd_Le_at_11 rfl ?_
    refine cw_gets (b := 64) (b' := 112) C hr rfl wc_16 kF_Le_166 (is_16 hr) (by decide) rfl dd_Le_at_12 rfl ?_
    refine nw_geti C wc_28 kF_Le_170 (is_28 hr) (by decide) rfl dd_Le_at_15 ?_
    refine nw_icmp_lt (tgt := 23) C dd_Le_at_18 (by decide) (by first | omega | (simp [wx_u] <;> omega)) (by first | omega | (simp [wx_u] <;> omega)) (fun h18 => ?_) (fun h18 => ?_)
    · refine cw_aload_n C dd_Le_at_23 rfl ?_
      refine cw_gets (b := 64) (b' := 112) C hr rfl wc_16 kF_Le_166 (is_16 hr) (by decide) rfl dd_Le_at_24 rfl ?_
      refine cw_gets (b := 112) (b' := 116) C hr rfl wc_28 kF_Le_184 (is_28 hr) (by decide) rfl dd_Le_at_27 rfl ?_
      refine cw_iload_n C dd_Le_at_30 rfl ?_
      refine nw_iald C (is_29 hr) (by first | omega | (simp [wx_u] <;> omega)) (by decide) dd_Le_at_31 ?_
      exact cw_ireturn C dd_Le_at_32 (Nat.le_of_ble_eq_true rfl) (Nat.le_of_ble_eq_true rfl) ⟨_, rfl, rfl, ⟨by rw [if_pos (by omega)], rfl⟩⟩
    · refine cw_iconst (v := nI 4294967295) C dd_Le_at_21 (by decide +kernel) ?_
      exact cw_ireturn C dd_Le_at_22 (Nat.le_of_ble_eq_true rfl) (Nat.le_of_ble_eq_true rfl) ⟨_, rfl, rfl, ⟨by rw [if_neg (by omega)], rfl⟩⟩
set_option maxRecDepth 100000 in
set_option maxHeartbeats 4000000 in
theorem mm_Le_balance (X : wx_S) (r : Nat) (hr : r < 4) (k : Nat) (hk : k < 4294967296) : nw_M wd_all yy_Le_balance cc_Le_balance 4 (some .int) 2 0 0 [.ref 0, .int (nI r), .int (nI k)] X (fun v X' => v = some (.int (nI (if k < 4 then X (120 + r) k else 4294967295))) ∧ X' = X) := by
  refine nw_of [some (.ref 0), some (.int (nI r)), some (.int (nI k)), none] (by decide +kernel) rfl (Nat.le_of_ble_eq_true rfl) rfl ?_
  intro p l e s m args below meth c A g C
  refine cw_aload_n C dd_Le_balance_0 rfl ?_
  refine cw_iload_n C dd_Le_balance_1 rfl ?_
  refine cw_callV (As := [_]) C kV_Le_72 wc_0 is_0 dd_Le_balance_2 rfl rfl (Nat.le_of_ble_eq_true rfl) ⟨(Nat.le_of_ble_eq_true rfl), (Nat.le_of_ble_eq_true rfl)⟩ ⟨(Nat.le_of_ble_eq_true rfl), (Nat.le_of_ble_eq_true rfl)⟩ (mm_Le_replicaOf X r hr) (nw_kr ?_)
  refine cw_astore_n C dd_Le_balance_5 (Nat.le_of_ble_eq_true rfl) ?_
  refine cw_iload_n C dd_Le_balance_6 rfl ?_
  refine cw_callS (As := [_]) C kS_Le_51 dd_Le_balance_7 rfl rfl (Nat.le_of_ble_eq_true rfl) ⟨(Nat.le_of_ble_eq_true rfl), (Nat.le_of_ble_eq_true rfl)⟩ ⟨(Nat.le_of_ble_eq_true rfl), (Nat.le_of_ble_eq_true rfl)⟩ (mm_Le_isAccount X k hk) (nw_ki ?_)
  refine nw_zne (tgt := 15) C dd_Le_balance_10 (by decide) (fun h10 => ?_) (fun h10 => ?_)
  · refine cw_aload_n C dd_Le_balance_15 rfl ?_
    refine cw_gets (b := 64) (b' := 112) C hr rfl wc_16 kF_Le_166 (is_16 hr) (by decide) rfl dd_Le_balance_16 rfl ?_
    refine cw_gets (b := 112) (b' := 120) C hr rfl wc_28 kF_Le_187 (is_28 hr) (by decide) rfl dd_Le_balance_19 rfl ?_
    refine cw_iload_n C dd_Le_balance_22 rfl ?_
    refine nw_iald C (is_30 hr) (by first | omega | (simp [wx_u] <;> omega)) (by decide) dd_Le_balance_23 ?_
    exact cw_ireturn C dd_Le_balance_24 (Nat.le_of_ble_eq_true rfl) (Nat.le_of_ble_eq_true rfl) ⟨_, rfl, rfl, ⟨by rw [if_pos (by omega)], rfl⟩⟩
  · refine cw_iconst (v := nI 4294967295) C dd_Le_balance_13 (by decide +kernel) ?_
    exact cw_ireturn C dd_Le_balance_14 (Nat.le_of_ble_eq_true rfl) (Nat.le_of_ble_eq_true rfl) ⟨_, rfl, rfl, ⟨by rw [if_neg (by omega)], rfl⟩⟩
