set_option maxRecDepth 100000 in
set_option maxHeartbeats 4000000 in
theorem mm_Le_replicaOf (X : wx_S) (r : Nat) (hr : r < 4) : nw_M wd_all yy_Le_replicaOf cc_Le_replicaOf 2 (some (.object "DagLedger$Replica")) 1 0 0 [.ref 0, .int (nI r)] X (fun v X' => v = some (.ref (64 + r)) ∧ X' = X) := by
  refine nw_of [some (.ref 0), some (.int (nI r))] (by decide +kernel) rfl (Nat.le_of_ble_eq_true rfl) rfl ?_
  intro p l e s m args below meth c A g C
  refine cw_iload_n C dd_Le_replicaOf_0 rfl ?_
  refine nw_if_lt (tgt := 9) C dd_Le_replicaOf_1 (by decide) (by first | omega | (simp [wx_u] <;> omega)) (fun h1 => ?_) (fun h1 => ?_)
  · exact absurd h1 (by omega)
  · refine cw_iload_n C dd_Le_replicaOf_4 rfl ?_
    refine cw_iconst (v := nI 4) C dd_Le_replicaOf_5 (by decide +kernel) ?_
    refine nw_icmp_lt (tgt := 19) C dd_Le_replicaOf_6 (by decide) (by first | omega | (simp [wx_u] <;> omega)) (by first | omega | (simp [wx_u] <;> omega)) (fun h6 => ?_) (fun h6 => ?_)
    · refine cw_aload_n C dd_Le_replicaOf_19 rfl ?_
      refine cw_getr (q' := 60) C wc_0 kF_Le_32 is_0 (by decide) rfl dd_Le_replicaOf_20 rfl ?_
      refine cw_iload_n C dd_Le_replicaOf_23 rfl ?_
      refine nw_aald (b9 := 64) C is_15 (by first | omega | (simp [wx_u] <;> omega)) (by decide) dd_Le_replicaOf_24 rfl ?_
      exact cw_areturn C dd_Le_replicaOf_25 (Nat.le_of_ble_eq_true rfl) (Nat.le_of_ble_eq_true rfl) ⟨_, rfl, rfl, ⟨by first | rfl | simp [wx_u], by first | rfl | simp [wx_u]⟩⟩
    · exact absurd h6 (by omega)
set_option maxRecDepth 100000 in
set_option maxHeartbeats 4000000 in
theorem mm_Le_upReplica (X : wx_S) (r : Nat) (hr : r < 4) (hup : X (64 + r) 8 = 1) : nw_M wd_all yy_Le_upReplica cc_Le_upReplica 3 (some (.object "DagLedger$Replica")) 2 0 0 [.ref 0, .int (nI r)] X (fun v X' => v = some (.ref (64 + r)) ∧ X' = X) := by
  refine nw_of [some (.ref 0), some (.int (nI r)), none] (by decide +kernel) rfl (Nat.le_of_ble_eq_true rfl) rfl ?_
  intro p l e s m args below meth c A g C
  refine cw_aload_n C dd_Le_upReplica_0 rfl ?_
  refine cw_iload_n C dd_Le_upReplica_1 rfl ?_
  refine cw_callV (As := [_]) C kV_Le_72 wc_0 is_0 dd_Le_upReplica_2 rfl rfl (Nat.le_of_ble_eq_true rfl) ⟨(Nat.le_of_ble_eq_true rfl), (Nat.le_of_ble_eq_true rfl)⟩ ⟨(Nat.le_of_ble_eq_true rfl), (Nat.le_of_ble_eq_true rfl)⟩ (mm_Le_replicaOf X r hr) (nw_kr ?_)
  refine cw_astore_n C dd_Le_upReplica_5 (Nat.le_of_ble_eq_true rfl) ?_
  refine cw_aload_n C dd_Le_upReplica_6 rfl ?_
  refine cw_callV (As := []) C kV_Le_78 wc_16 (is_16 hr) dd_Le_upReplica_7 rfl rfl (Nat.le_of_ble_eq_true rfl) ⟨(Nat.le_of_ble_eq_true rfl), (Nat.le_of_ble_eq_true rfl)⟩ ⟨(Nat.le_of_ble_eq_true rfl), (Nat.le_of_ble_eq_true rfl)⟩ (mm_Re_isUp X r hr (by omega)) (nw_ki ?_)
  refine nw_zne (tgt := 23) C dd_Le_upReplica_10 (by decide) (fun h10 => ?_) (fun h10 => ?_)
  · refine cw_aload_n C dd_Le_upReplica_23 rfl ?_
    exact cw_areturn C dd_Le_upReplica_24 (Nat.le_of_ble_eq_true rfl) (Nat.le_of_ble_eq_true rfl) ⟨_, rfl, rfl, ⟨by first | rfl | simp [wx_u], by first | rfl | simp [wx_u]⟩⟩
  · exact absurd hup h10
set_option maxRecDepth 100000 in
set_option maxHeartbeats 4000000 in
theorem mm_Le_isTransferOrNone (X : wx_S) (n : Nat) (hn : n < 4294967296) (hc : X 4 3 < 2147483648) : nw_M wd_all yy_Le_isTransferOrNone cc_Le_isTransferOrNone 2 (some .boolean) 2 0 0 [.ref 0, .int (nI n)] X (fun v X' => v = some (.int (nI (zb_n (n = 4294967295 ∨ n < X 4 3)))) ∧ X' = X) := by
  refine nw_of [some (.ref 0), some (.int (nI n))] (by decide +kernel) rfl (Nat.le_of_ble_eq_true rfl) rfl ?_
  intro p l e s m args below meth c A g C
  refine cw_iload_n C dd_Le_isTransferOrNone_0 rfl ?_
  refine cw_iconst (v := nI 4294967295) C dd_Le_isTransferOrNone_1 (by decide +kernel) ?_
  refine nw_icmp_eq (tgt := 16) C dd_Le_isTransferOrNone_2 (by decide) (by first | omega | (simp [wx_u] <;> omega)) (by first | omega | (simp [wx_u] <;> omega)) (fun h2 => ?_) (fun h2 => ?_)
  · refine cw_iconst (v := nI 1) C dd_Le_isTransferOrNone_16 (by decide +kernel) ?_
    refine cw_goto (tgt := 21) C dd_Le_isTransferOrNone_17 (by decide) ?_
    exact cw_zreturn C dd_Le_isTransferOrNone_21 (nw_zn (by decide)) (Nat.le_of_ble_eq_true rfl) (Nat.le_of_ble_eq_true rfl) ⟨_, rfl, rfl, ⟨by first | exact congrArg (fun z => some (Value.int z)) (zb_t (by first | omega | (simp [wx_u] <;> omega))) | exact congrArg (fun z => some (Value.int z)) (zb_f (by first | omega | (simp [wx_u] <;> omega))), by first | rfl | simp [wx_u]⟩⟩
  · refine cw_aload_n C dd_Le_isTransferOrNone_5 rfl ?_
    refine cw_getr (q' := 4) C wc_0 kF_Le_12 is_0 (by decide) rfl dd_Le_isTransferOrNone_6 rfl ?_
    refine cw_iload_n C dd_Le_isTransferOrNone_9 rfl ?_
    refine cw_callV (As := [_]) C kV_Le_202 wc_1 is_1 dd_Le_isTransferOrNone_10 rfl rfl (Nat.le_of_ble_eq_true rfl) ⟨(Nat.le_of_ble_eq_true rfl), (Nat.le_of_ble_eq_true rfl)⟩ ⟨(Nat.le_of_ble_eq_true rfl), (Nat.le_of_ble_eq_true rfl)⟩ (mm_Tr_has X n hn hc) (nw_ki ?_)
    refine nw_zeq (tgt := 20) C dd_Le_isTransferOrNone_13 (by decide) (fun h13 => ?_) (fun h13 => ?_)
    · refine cw_iconst (v := nI 0) C dd_Le_isTransferOrNone_20 (by decide +kernel) ?_
      exact cw_zreturn C dd_Le_isTransferOrNone_21 (nw_zn (by decide)) (Nat.le_of_ble_eq_true rfl) (Nat.le_of_ble_eq_true rfl) ⟨_, rfl, rfl, ⟨by first | exact congrArg (fun z => some (Value.int z)) (zb_t (by first | omega | (simp [wx_u] <;> omega))) | exact congrArg (fun z => some (Value.int z)) (zb_f (by first | omega | (simp [wx_u] <;> omega))), by first | rfl | simp [wx_u]⟩⟩
    · refine cw_iconst (v := nI 1) C dd_Le_isTransferOrNone_16 (by decide +kernel) ?_
      refine cw_goto (tgt := 21) C dd_Le_isTransferOrNone_17 (by decide) ?_
      exact cw_zreturn C dd_Le_isTransferOrNone_21 (nw_zn (by decide)) (Nat.le_of_ble_eq_true rfl) (Nat.le_of_ble_eq_true rfl) ⟨_, rfl, rfl, ⟨by first | exact congrArg (fun z => some (Value.int z)) (zb_t (by first | omega | (simp [wx_u] <;> omega))) | exact congrArg (fun z => some (Value.int z)) (zb_f (by first | omega | (simp [wx_u] <;> omega))), by first | rfl | simp [wx_u]⟩⟩
def zc_sub (X : wx_S) (r f t a : Nat) : Nat × wx_S :=
  if X 4 3 < 40 ∧ f < 4 ∧ t < 4 ∧ f ≠ t ∧ 1 ≤ a ∧ a ≤ 1000 then
    (if zc_cut X r then (4294967294, zc_goDown X r)
     else (X 4 3, wx_u (wx_u (wx_u (wx_u (wx_u (wx_u (zc_wrote X r) 8 (X 4 3) f) 12 (X 4 3) t) 16 (X 4 3) a) 4 3 (X 4 3 + 1)) (72 + r) (X (68 + r) 1) (X 4 3)) (68 + r) 1 (X (68 + r) 1 + 1)))
  else (4294967295, X)
theorem zc_wrote_dk (X : wx_S) (r : Nat) {k : Nat} (hk : k ≠ 6) : zc_wrote X r (68 + r) k = X (68 + r) k := by
  rw [zc_wrote, wx_u_nk hk]
  split
  · rfl
  · rw [wx_u_nc (by omega)]
def zc_tadd (X : wx_S) (f t a : Nat) : wx_S := wx_u (wx_u (wx_u (wx_u X 8 (X 4 3) f) 12 (X 4 3) t) 16 (X 4 3) a) 4 3 (X 4 3 + 1)
theorem mm_Tr_add' (X : wx_S) (f t a : Nat) (hc : X 4 3 < 40) : nw_M wd_all yy_Tr_add cc_Tr_add 4 (some .int) 1 0 0 [.ref 4, .int (nI f), .int (nI t), .int (nI a)] X (fun v X' => v = some (.int (nI (X 4 3))) ∧ X' = zc_tadd X f t a) := mm_Tr_add X f t a hc
theorem zc_tadd_oth (X : wx_S) (f t a : Nat) {c k : Nat} (h : 20 ≤ c) : zc_tadd X f t a c k = X c k := by
  rw [zc_tadd, wx_u_nc (by omega), wx_u_nc (by omega), wx_u_nc (by omega), wx_u_nc (by omega)]
set_option maxRecDepth 100000 in
set_option maxHeartbeats 4000000 in
theorem mm_Le_submit (X : wx_S) (r : Nat) (hr : r < 4) (f t a : Nat) (hf : f < 4294967296) (ht : t < 4294967296) (ha : a < 4294967296) (hup : X (64 + r) 8 = 1) (hn : X 4 3 ≤ 40) (hc1 : X (64 + r) 11 < 4294967296) (hc2 : X (64 + r) 12 < 4294967296) (ho : X 4 3 < 40 → X (68 + r) 1 < 40) : nw_M wd_all yy_Le_submit cc_Le_submit 7 (some .int) 5 0 0 [.ref 0, .int (nI r), .int (nI f), .int (nI t), .int (nI a)] X (fun v X' => v = some (.int (nI (zc_sub X r f t a).1)) ∧ X' = (zc_sub X r f t a).2) := by
  refine nw_of [some (.ref 0), some (.int (nI r)), some (.int (nI f)), some (.int (nI t)), some (.int (nI a)), none, none] (by decide +kernel) rfl (Nat.le_of_ble_eq_true rfl) rfl ?_
  intro p l e s m args below meth c A g C
  refine cw_aload_n C dd_Le_submit_0 rfl ?_
  refine cw_iload_n C dd_Le_submit_1 rfl ?_
  refine cw_callV (As := [_]) C kV_Le_43 wc_0 is_0 dd_Le_submit_2 rfl rfl (Nat.le_of_ble_eq_true rfl) ⟨(Nat.le_of_ble_eq_true rfl), (Nat.le_of_ble_eq_true rfl)⟩ ⟨(Nat.le_of_ble_eq_true rfl), (Nat.le_of_ble_eq_true rfl)⟩ (mm_Le_upReplica X r hr hup) (nw_kr ?_)
  refine cw_astore C dd_Le_submit_5 (Nat.le_of_ble_eq_true rfl) ?_
  refine cw_aload_n C dd_Le_submit_7 rfl ?_
  refine cw_getr (q' := 4) C wc_0 kF_Le_12 is_0 (by decide) rfl dd_Le_submit_8 rfl ?_
  refine cw_callV (As := []) C kV_Le_47 wc_1 is_1 dd_Le_submit_11 rfl rfl (Nat.le_of_ble_eq_true rfl) ⟨(Nat.le_of_ble_eq_true rfl), (Nat.le_of_ble_eq_true rfl)⟩ ⟨(Nat.le_of_ble_eq_true rfl), (Nat.le_of_ble_eq_true rfl)⟩ (mm_Tr_isFull X (by omega)) (nw_ki ?_)
  refine nw_zne (tgt := 50) C dd_Le_submit_14 (by decide) (fun h14 => ?_) (fun h14 => ?_)
  · refine cw_iconst (v := nI 4294967295) C dd_Le_submit_50 (by decide +kernel) ?_
    exact cw_ireturn C dd_Le_submit_51 (Nat.le_of_ble_eq_true rfl) (Nat.le_of_ble_eq_true rfl) ⟨_, rfl, rfl, ⟨by rw [zc_sub, if_neg (by omega)], by rw [zc_sub, if_neg (by omega)]⟩⟩
  · refine cw_iload_n C dd_Le_submit_17 rfl ?_
    refine cw_callS (As := [_]) C kS_Le_51 dd_Le_submit_18 rfl rfl (Nat.le_of_ble_eq_true rfl) ⟨(Nat.le_of_ble_eq_true rfl), (Nat.le_of_ble_eq_true rfl)⟩ ⟨(Nat.le_of_ble_eq_true rfl), (Nat.le_of_ble_eq_true rfl)⟩ (mm_Le_isAccount X f hf) (nw_ki ?_)
    refine nw_zeq (tgt := 50) C dd_Le_submit_21 (by decide) (fun h21 => ?_) (fun h21 => ?_)
    · refine cw_iconst (v := nI 4294967295) C dd_Le_submit_50 (by decide +kernel) ?_
      exact cw_ireturn C dd_Le_submit_51 (Nat.le_of_ble_eq_true rfl) (Nat.le_of_ble_eq_true rfl) ⟨_, rfl, rfl, ⟨by rw [zc_sub, if_neg (by omega)], by rw [zc_sub, if_neg (by omega)]⟩⟩
    · refine cw_iload_n C dd_Le_submit_24 rfl ?_
      refine cw_callS (As := [_]) C kS_Le_51 dd_Le_submit_25 rfl rfl (Nat.le_of_ble_eq_true rfl) ⟨(Nat.le_of_ble_eq_true rfl), (Nat.le_of_ble_eq_true rfl)⟩ ⟨(Nat.le_of_ble_eq_true rfl), (Nat.le_of_ble_eq_true rfl)⟩ (mm_Le_isAccount X t ht) (nw_ki ?_)
      refine nw_zeq (tgt := 50) C dd_Le_submit_28 (by decide) (fun h28 => ?_) (fun h28 => ?_)
      · refine cw_iconst (v := nI 4294967295) C dd_Le_submit_50 (by decide +kernel) ?_
        exact cw_ireturn C dd_Le_submit_51 (Nat.le_of_ble_eq_true rfl) (Nat.le_of_ble_eq_true rfl) ⟨_, rfl, rfl, ⟨by rw [zc_sub, if_neg (by omega)], by rw [zc_sub, if_neg (by omega)]⟩⟩
      · refine cw_iload_n C dd_Le_submit_31 rfl ?_
        refine cw_iload_n C dd_Le_submit_32 rfl ?_
        refine nw_icmp_eq (tgt := 50) C dd_Le_submit_33 (by decide) (by first | omega | (simp [wx_u] <;> omega)) (by first | omega | (simp [wx_u] <;> omega)) (fun h33 => ?_) (fun h33 => ?_)
        · refine cw_iconst (v := nI 4294967295) C dd_Le_submit_50 (by decide +kernel) ?_
          exact cw_ireturn C dd_Le_submit_51 (Nat.le_of_ble_eq_true rfl) (Nat.le_of_ble_eq_true rfl) ⟨_, rfl, rfl, ⟨by rw [zc_sub, if_neg (by omega)], by rw [zc_sub, if_neg (by omega)]⟩⟩
        · refine cw_iload C dd_Le_submit_36 rfl ?_
          refine cw_iconst (v := nI 1) C dd_Le_submit_38 (by decide +kernel) ?_
          refine nw_scmp_lt (tgt := 50) C dd_Le_submit_39 (by decide) (by first | omega | (simp [wx_u] <;> omega)) (by first | omega | (simp [wx_u] <;> omega)) (fun h39 => ?_) (fun h39 => ?_)
          · refine cw_iconst (v := nI 4294967295) C dd_Le_submit_50 (by decide +kernel) ?_
            exact cw_ireturn C dd_Le_submit_51 (Nat.le_of_ble_eq_true rfl) (Nat.le_of_ble_eq_true rfl) ⟨_, rfl, rfl, ⟨by rw [zc_sub, if_neg (by omega)], by rw [zc_sub, if_neg (by omega)]⟩⟩
          · refine cw_iload C dd_Le_submit_42 rfl ?_
            refine cw_sipush (v := nI 1000) C dd_Le_submit_44 (by decide +kernel) ?_
            refine nw_scmp_le (tgt := 52) C dd_Le_submit_47 (by decide) (by first | omega | (simp [wx_u] <;> omega)) (by first | omega | (simp [wx_u] <;> omega)) (fun h47 => ?_) (fun h47 => ?_)
            · refine cw_aload C dd_Le_submit_52 rfl ?_
              have hg : X 4 3 < 40 ∧ f < 4 ∧ t < 4 ∧ f ≠ t ∧ 1 ≤ a ∧ a ≤ 1000 := ⟨by omega, h21, h28, h33, by omega, by omega⟩
              by_cases hcut : zc_cut X r
              · refine cw_callV (As := []) C kV_Le_55 wc_16 (is_16 hr) dd_Le_submit_54 rfl rfl (Nat.le_of_ble_eq_true rfl) ⟨(Nat.le_of_ble_eq_true rfl), (Nat.le_of_ble_eq_true rfl)⟩ ⟨(Nat.le_of_ble_eq_true rfl), (Nat.le_of_ble_eq_true rfl)⟩ (mm_Re_writeRecord_dn X r hr hc1 hc2 hcut) (nw_ki ?_)
                refine nw_if_ne (tgt := 63) C dd_Le_submit_57 (by decide) (by decide) (fun h57 => ?_) (fun h57 => ?_)
                · exact absurd rfl h57
                · refine cw_bipush (v := nI 4294967294) C dd_Le_submit_60 (by decide +kernel) ?_
                  exact cw_ireturn C dd_Le_submit_62 (Nat.le_of_ble_eq_true rfl) (Nat.le_of_ble_eq_true rfl) ⟨_, rfl, rfl, ⟨by rw [zc_sub, if_pos hg, if_pos hcut], by rw [zc_sub, if_pos hg, if_pos hcut]⟩⟩
              · refine cw_callV (As := []) C kV_Le_55 wc_16 (is_16 hr) dd_Le_submit_54 rfl rfl (Nat.le_of_ble_eq_true rfl) ⟨(Nat.le_of_ble_eq_true rfl), (Nat.le_of_ble_eq_true rfl)⟩ ⟨(Nat.le_of_ble_eq_true rfl), (Nat.le_of_ble_eq_true rfl)⟩ (mm_Re_writeRecord_ok X r hr hc1 hc2 hcut) (nw_ki ?_)
                refine nw_if_ne (tgt := 63) C dd_Le_submit_57 (by decide) (by decide) (fun h57 => ?_) (fun h57 => ?_)
                · refine cw_aload_n C dd_Le_submit_63 rfl ?_
                  refine cw_getr (q' := 4) C wc_0 kF_Le_12 is_0 (by decide) rfl dd_Le_submit_64 rfl ?_
                  refine cw_iload_n C dd_Le_submit_67 rfl ?_
                  refine cw_iload_n C dd_Le_submit_68 rfl ?_
                  refine cw_iload C dd_Le_submit_69 rfl ?_
                  refine cw_callV (As := [_, _, _]) C kV_Le_58 wc_1 is_1 dd_Le_submit_71 rfl rfl (Nat.le_of_ble_eq_true rfl) ⟨(Nat.le_of_ble_eq_true rfl), (Nat.le_of_ble_eq_true rfl)⟩ ⟨(Nat.le_of_ble_eq_true rfl), (Nat.le_of_ble_eq_true rfl)⟩ (mm_Tr_add' (zc_wrote X r) f t a (by rw [zc_wrote_oth _ _ _ (by omega) (by omega)]; exact hg.1)) (nw_ki ?_)
                  refine cw_istore C dd_Le_submit_74 (Nat.le_of_ble_eq_true rfl) ?_
                  refine cw_aload C dd_Le_submit_76 rfl ?_
                  refine cw_gets (b := 64) (b' := 68) C hr rfl wc_16 kF_Le_62 (is_16 hr) (by decide) rfl dd_Le_submit_78 rfl ?_
                  refine cw_iload C dd_Le_submit_81 rfl ?_
                  refine cw_callV (As := [_]) C kV_Le_66 wc_17 (is_17 hr) dd_Le_submit_83 rfl rfl (Nat.le_of_ble_eq_true rfl) ⟨(Nat.le_of_ble_eq_true rfl), (Nat.le_of_ble_eq_true rfl)⟩ ⟨(Nat.le_of_ble_eq_true rfl), (Nat.le_of_ble_eq_true rfl)⟩ (mm_Di_keepTransfer (zc_tadd (zc_wrote X r) f t a) r hr _ (by rw [zc_tadd_oth _ _ _ _ (by omega), zc_wrote_dk _ _ (by decide)]; exact ho hg.1)) (nw_kv ?_)
                  refine cw_iload C dd_Le_submit_86 rfl ?_
                  exact cw_ireturn C dd_Le_submit_88 (Nat.le_of_ble_eq_true rfl) (Nat.le_of_ble_eq_true rfl) ⟨_, rfl, rfl, ⟨by rw [zc_sub, if_pos hg, if_neg hcut, zc_wrote_oth _ _ _ (by omega) (by omega)], by rw [zc_sub, if_pos hg, if_neg hcut, zc_tadd_oth _ _ _ _ (by omega), zc_wrote_dk _ _ (by decide), zc_tadd, zc_wrote_oth _ _ _ (by omega) (by omega)]⟩⟩
                · exact absurd h57 (by decide)
            · refine cw_iconst (v := nI 4294967295) C dd_Le_submit_50 (by decide +kernel) ?_
              exact cw_ireturn C dd_Le_submit_51 (Nat.le_of_ble_eq_true rfl) (Nat.le_of_ble_eq_true rfl) ⟨_, rfl, rfl, ⟨by rw [zc_sub, if_neg (by omega)], by rw [zc_sub, if_neg (by omega)]⟩⟩
abbrev zc_dlC (X : wx_S) (r k : Nat) : Prop := k < X 44 3 ∧ X (64 + r) 8 = 1 ∧ X 44 3 < 800
set_option maxRecDepth 100000 in
set_option maxHeartbeats 4000000 in
theorem mm_Le_deliver (X : wx_S) (r : Nat) (hr : r < 4) (k : Nat) (hk : k < 4294967296) (hV : zc_V X) (hN : zc_N X r) (hbd : ∀ k, k < X 44 3 → X 48 k < 3 ∧ X 52 k < 4 ∧ X 56 k < X 20 5) (hst : X (64 + r) 8 < 4294967296) (hw : zc_dlC X r k → X (84 + r) 3 < 90) (hnm : X 44 3 ≤ 802) (I : wx_S → Prop) (hI : ∀ X, I X → zc_I0 X r) (hstep : ∀ X Y, I X → X (64 + r) 8 = 1 → zc_step X r = some Y → I Y) (hX : zc_dlC X r k → I (zc_tk X r k)) : nw_M wd_all yy_Le_deliver cc_Le_deliver 4 (some .boolean) 8 0 0 [.ref 0, .int (nI k), .int (nI r)] X (fun v X' => v = some (.int (nI (zb_n (zc_dlC X r k)))) ∧ X' = if zc_dlC X r k then zc_take X r k else X) := by
  refine nw_of [some (.ref 0), some (.int (nI k)), some (.int (nI r)), none] (by decide +kernel) rfl (Nat.le_of_ble_eq_true rfl) rfl ?_
  intro p l e s m args below meth c A g C
  refine cw_aload_n C dd_Le_deliver_0 rfl ?_
  refine cw_iload_n C dd_Le_deliver_1 rfl ?_
  refine cw_callV (As := [_]) C kV_Le_72 wc_0 is_0 dd_Le_deliver_2 rfl rfl (Nat.le_of_ble_eq_true rfl) ⟨(Nat.le_of_ble_eq_true rfl), (Nat.le_of_ble_eq_true rfl)⟩ ⟨(Nat.le_of_ble_eq_true rfl), (Nat.le_of_ble_eq_true rfl)⟩ (mm_Le_replicaOf X r hr) (nw_kr ?_)
  refine cw_astore_n C dd_Le_deliver_5 (Nat.le_of_ble_eq_true rfl) ?_
  refine cw_aload_n C dd_Le_deliver_6 rfl ?_
  refine cw_getr (q' := 44) C wc_0 kF_Le_26 is_0 (by decide) rfl dd_Le_deliver_7 rfl ?_
  refine cw_iload_n C dd_Le_deliver_10 rfl ?_
  refine cw_callV (As := [_]) C kV_Le_75 wc_11 is_11 dd_Le_deliver_11 rfl rfl (Nat.le_of_ble_eq_true rfl) ⟨(Nat.le_of_ble_eq_true rfl), (Nat.le_of_ble_eq_true rfl)⟩ ⟨(Nat.le_of_ble_eq_true rfl), (Nat.le_of_ble_eq_true rfl)⟩ (mm_Bo_has X k hk (by omega)) (nw_ki ?_)
  refine nw_zeq (tgt := 34) C dd_Le_deliver_14 (by decide) (fun h14 => ?_) (fun h14 => ?_)
  · refine cw_iconst (v := nI 0) C dd_Le_deliver_34 (by decide +kernel) ?_
    exact cw_zreturn C dd_Le_deliver_35 (nw_zn (by decide)) (Nat.le_of_ble_eq_true rfl) (Nat.le_of_ble_eq_true rfl) ⟨_, rfl, rfl, ⟨congrArg (fun z => some (Value.int z)) (zb_f (by omega)), (if_neg (by omega)).symm⟩⟩
  · refine cw_aload_n C dd_Le_deliver_17 rfl ?_
    refine cw_callV (As := []) C kV_Le_78 wc_16 (is_16 hr) dd_Le_deliver_18 rfl rfl (Nat.le_of_ble_eq_true rfl) ⟨(Nat.le_of_ble_eq_true rfl), (Nat.le_of_ble_eq_true rfl)⟩ ⟨(Nat.le_of_ble_eq_true rfl), (Nat.le_of_ble_eq_true rfl)⟩ (mm_Re_isUp X r hr hst) (nw_ki ?_)
    refine nw_zeq (tgt := 34) C dd_Le_deliver_21 (by decide) (fun h21 => ?_) (fun h21 => ?_)
    · refine cw_iconst (v := nI 0) C dd_Le_deliver_34 (by decide +kernel) ?_
      exact cw_zreturn C dd_Le_deliver_35 (nw_zn (by decide)) (Nat.le_of_ble_eq_true rfl) (Nat.le_of_ble_eq_true rfl) ⟨_, rfl, rfl, ⟨congrArg (fun z => some (Value.int z)) (zb_f (by omega)), (if_neg (by omega)).symm⟩⟩
    · refine cw_aload_n C dd_Le_deliver_24 rfl ?_
      refine cw_getr (q' := 44) C wc_0 kF_Le_26 is_0 (by decide) rfl dd_Le_deliver_25 rfl ?_
      refine cw_callV (As := []) C kV_Le_81 wc_11 is_11 dd_Le_deliver_28 rfl rfl (Nat.le_of_ble_eq_true rfl) ⟨(Nat.le_of_ble_eq_true rfl), (Nat.le_of_ble_eq_true rfl)⟩ ⟨(Nat.le_of_ble_eq_true rfl), (Nat.le_of_ble_eq_true rfl)⟩ (mm_Bo_isFull X (by omega)) (nw_ki ?_)
      refine nw_zeq (tgt := 36) C dd_Le_deliver_31 (by decide) (fun h31 => ?_) (fun h31 => ?_)
      · refine cw_aload_n C dd_Le_deliver_36 rfl ?_
        refine cw_iload_n C dd_Le_deliver_37 rfl ?_
        have hg : zc_dlC X r k := ⟨h14, h21, by omega⟩
        have hb := hbd k h14
        refine cw_callV (As := [_]) C kV_Le_82 wc_16 (is_16 hr) dd_Le_deliver_38 rfl rfl (Nat.le_of_ble_eq_true rfl) ⟨(Nat.le_of_ble_eq_true rfl), (Nat.le_of_ble_eq_true rfl)⟩ ⟨(Nat.le_of_ble_eq_true rfl), (Nat.le_of_ble_eq_true rfl)⟩ (mm_Re_take X r hr k (by omega) hV hN hb.2.2 hb.2.1 hb.1 (by omega) (hw hg) I hI hstep (hX hg)) (nw_kv ?_)
        refine cw_iconst (v := nI 1) C dd_Le_deliver_41 (by decide +kernel) ?_
        exact cw_zreturn C dd_Le_deliver_42 (nw_zn (by decide)) (Nat.le_of_ble_eq_true rfl) (Nat.le_of_ble_eq_true rfl) ⟨_, rfl, rfl, ⟨congrArg (fun z => some (Value.int z)) (zb_t hg), (if_pos hg).symm⟩⟩
      · refine cw_iconst (v := nI 0) C dd_Le_deliver_34 (by decide +kernel) ?_
        exact cw_zreturn C dd_Le_deliver_35 (nw_zn (by decide)) (Nat.le_of_ble_eq_true rfl) (Nat.le_of_ble_eq_true rfl) ⟨_, rfl, rfl, ⟨congrArg (fun z => some (Value.int z)) (zb_f (by omega)), (if_neg (by omega)).symm⟩⟩
abbrev zc_tcC (X : wx_S) (r : Nat) : Prop := X (64 + r) 8 = 1 ∧ X 44 3 < 800
def zc_tick (X : wx_S) (r : Nat) : wx_S := zc_act (wx_u X (64 + r) 10 (if X (64 + r) 10 < 3 then X (64 + r) 10 + 1 else 3)) r
set_option maxRecDepth 100000 in
set_option maxHeartbeats 4000000 in
theorem mm_Le_tick (X : wx_S) (r : Nat) (hr : r < 4) (hst : X (64 + r) 8 < 4294967296) (hnm : X 44 3 ≤ 802) (htm : X (64 + r) 10 ≤ 3) (I : wx_S → Prop) (hI : ∀ X, I X → zc_I0 X r) (hstep : ∀ X Y, I X → X (64 + r) 8 = 1 → zc_step X r = some Y → I Y) (hX : zc_tcC X r → I (wx_u X (64 + r) 10 (if X (64 + r) 10 < 3 then X (64 + r) 10 + 1 else 3))) : nw_M wd_all yy_Le_tick cc_Le_tick 3 (some .boolean) 8 0 0 [.ref 0, .int (nI r)] X (fun v X' => v = some (.int (nI (zb_n (zc_tcC X r)))) ∧ X' = if zc_tcC X r then zc_tick X r else X) := by
  refine nw_of [some (.ref 0), some (.int (nI r)), none] (by decide +kernel) rfl (Nat.le_of_ble_eq_true rfl) rfl ?_
  intro p l e s m args below meth c A g C
  refine cw_aload_n C dd_Le_tick_0 rfl ?_
  refine cw_iload_n C dd_Le_tick_1 rfl ?_
  refine cw_callV (As := [_]) C kV_Le_72 wc_0 is_0 dd_Le_tick_2 rfl rfl (Nat.le_of_ble_eq_true rfl) ⟨(Nat.le_of_ble_eq_true rfl), (Nat.le_of_ble_eq_true rfl)⟩ ⟨(Nat.le_of_ble_eq_true rfl), (Nat.le_of_ble_eq_true rfl)⟩ (mm_Le_replicaOf X r hr) (nw_kr ?_)
  refine cw_astore_n C dd_Le_tick_5 (Nat.le_of_ble_eq_true rfl) ?_
  refine cw_aload_n C dd_Le_tick_6 rfl ?_
  refine cw_callV (As := []) C kV_Le_78 wc_16 (is_16 hr) dd_Le_tick_7 rfl rfl (Nat.le_of_ble_eq_true rfl) ⟨(Nat.le_of_ble_eq_true rfl), (Nat.le_of_ble_eq_true rfl)⟩ ⟨(Nat.le_of_ble_eq_true rfl), (Nat.le_of_ble_eq_true rfl)⟩ (mm_Re_isUp X r hr hst) (nw_ki ?_)
  refine nw_zeq (tgt := 23) C dd_Le_tick_10 (by decide) (fun h10 => ?_) (fun h10 => ?_)
  · refine cw_iconst (v := nI 0) C dd_Le_tick_23 (by decide +kernel) ?_
    exact cw_zreturn C dd_Le_tick_24 (nw_zn (by decide)) (Nat.le_of_ble_eq_true rfl) (Nat.le_of_ble_eq_true rfl) ⟨_, rfl, rfl, ⟨congrArg (fun z => some (Value.int z)) (zb_f (by omega)), (if_neg (by omega)).symm⟩⟩
  · refine cw_aload_n C dd_Le_tick_13 rfl ?_
    refine cw_getr (q' := 44) C wc_0 kF_Le_26 is_0 (by decide) rfl dd_Le_tick_14 rfl ?_
    refine cw_callV (As := []) C kV_Le_81 wc_11 is_11 dd_Le_tick_17 rfl rfl (Nat.le_of_ble_eq_true rfl) ⟨(Nat.le_of_ble_eq_true rfl), (Nat.le_of_ble_eq_true rfl)⟩ ⟨(Nat.le_of_ble_eq_true rfl), (Nat.le_of_ble_eq_true rfl)⟩ (mm_Bo_isFull X (by omega)) (nw_ki ?_)
    refine nw_zeq (tgt := 25) C dd_Le_tick_20 (by decide) (fun h20 => ?_) (fun h20 => ?_)
    · refine cw_aload_n C dd_Le_tick_25 rfl ?_
      have hg : zc_tcC X r := ⟨h10, by omega⟩
      refine cw_callV (As := []) C kV_Le_88 wc_16 (is_16 hr) dd_Le_tick_26 rfl rfl (Nat.le_of_ble_eq_true rfl) ⟨(Nat.le_of_ble_eq_true rfl), (Nat.le_of_ble_eq_true rfl)⟩ ⟨(Nat.le_of_ble_eq_true rfl), (Nat.le_of_ble_eq_true rfl)⟩ (mm_Re_passTime X r hr htm I hI hstep (hX hg)) (nw_kv ?_)
      refine cw_iconst (v := nI 1) C dd_Le_tick_29 (by decide +kernel) ?_
      exact cw_zreturn C dd_Le_tick_30 (nw_zn (by decide)) (Nat.le_of_ble_eq_true rfl) (Nat.le_of_ble_eq_true rfl) ⟨_, rfl, rfl, ⟨congrArg (fun z => some (Value.int z)) (zb_t hg), (if_pos hg).symm⟩⟩
    · refine cw_iconst (v := nI 0) C dd_Le_tick_23 (by decide +kernel) ?_
      exact cw_zreturn C dd_Le_tick_24 (nw_zn (by decide)) (Nat.le_of_ble_eq_true rfl) (Nat.le_of_ble_eq_true rfl) ⟨_, rfl, rfl, ⟨congrArg (fun z => some (Value.int z)) (zb_f (by omega)), (if_neg (by omega)).symm⟩⟩
set_option maxRecDepth 100000 in
set_option maxHeartbeats 4000000 in
theorem mm_Le_crash (X : wx_S) (r : Nat) (hr : r < 4) (hst : X (64 + r) 8 < 4294967296) : nw_M wd_all yy_Le_crash cc_Le_crash 3 (some .boolean) 4 0 0 [.ref 0, .int (nI r)] X (fun v X' => v = some (.int (nI (zb_n (X (64 + r) 8 = 1)))) ∧ X' = if X (64 + r) 8 = 1 then zc_goDown X r else X) := by
  refine nw_of [some (.ref 0), some (.int (nI r)), none] (by decide +kernel) rfl (Nat.le_of_ble_eq_true rfl) rfl ?_
  intro p l e s m args below meth c A g C
  refine cw_aload_n C dd_Le_crash_0 rfl ?_
  refine cw_iload_n C dd_Le_crash_1 rfl ?_
  refine cw_callV (As := [_]) C kV_Le_72 wc_0 is_0 dd_Le_crash_2 rfl rfl (Nat.le_of_ble_eq_true rfl) ⟨(Nat.le_of_ble_eq_true rfl), (Nat.le_of_ble_eq_true rfl)⟩ ⟨(Nat.le_of_ble_eq_true rfl), (Nat.le_of_ble_eq_true rfl)⟩ (mm_Le_replicaOf X r hr) (nw_kr ?_)
  refine cw_astore_n C dd_Le_crash_5 (Nat.le_of_ble_eq_true rfl) ?_
  refine cw_aload_n C dd_Le_crash_6 rfl ?_
  refine cw_callV (As := []) C kV_Le_78 wc_16 (is_16 hr) dd_Le_crash_7 rfl rfl (Nat.le_of_ble_eq_true rfl) ⟨(Nat.le_of_ble_eq_true rfl), (Nat.le_of_ble_eq_true rfl)⟩ ⟨(Nat.le_of_ble_eq_true rfl), (Nat.le_of_ble_eq_true rfl)⟩ (mm_Re_isUp X r hr hst) (nw_ki ?_)
  refine nw_zne (tgt := 15) C dd_Le_crash_10 (by decide) (fun h10 => ?_) (fun h10 => ?_)
  · refine cw_aload_n C dd_Le_crash_15 rfl ?_
    refine cw_callV (As := []) C kV_Le_91 wc_16 (is_16 hr) dd_Le_crash_16 rfl rfl (Nat.le_of_ble_eq_true rfl) ⟨(Nat.le_of_ble_eq_true rfl), (Nat.le_of_ble_eq_true rfl)⟩ ⟨(Nat.le_of_ble_eq_true rfl), (Nat.le_of_ble_eq_true rfl)⟩ (mm_Re_goDown X r hr) (nw_kv ?_)
    refine cw_iconst (v := nI 1) C dd_Le_crash_19 (by decide +kernel) ?_
    exact cw_zreturn C dd_Le_crash_20 (nw_zn (by decide)) (Nat.le_of_ble_eq_true rfl) (Nat.le_of_ble_eq_true rfl) ⟨_, rfl, rfl, ⟨congrArg (fun z => some (Value.int z)) (zb_t h10), (if_pos h10).symm⟩⟩
  · refine cw_iconst (v := nI 0) C dd_Le_crash_13 (by decide +kernel) ?_
    exact cw_zreturn C dd_Le_crash_14 (nw_zn (by decide)) (Nat.le_of_ble_eq_true rfl) (Nat.le_of_ble_eq_true rfl) ⟨_, rfl, rfl, ⟨congrArg (fun z => some (Value.int z)) (zb_f h10), (if_neg h10).symm⟩⟩
def zc_up (X : wx_S) (r : Nat) : wx_S := zz_fill (wx_u X (64 + r) 8 1) (120 + r) 4 100
theorem zc_up_oth (X : wx_S) (r : Nat) {c k : Nat} (h1 : c ≠ 64 + r) (h2 : c ≠ 120 + r) : zc_up X r c k = X c k := by
  simp only [zc_up, zz_fill, h2, false_and, if_false]
  exact wx_u_nc h1
def zc_restart (X : wx_S) (r : Nat) : wx_S := if X 44 3 < 800 then zc_act (zc_up X r) r else zc_up X r
set_option maxRecDepth 100000 in
set_option maxHeartbeats 4000000 in
theorem mm_Le_restart (X : wx_S) (r : Nat) (hr : r < 4) (hst : X (64 + r) 8 < 4294967296) (hnm : X 44 3 ≤ 802) (I : wx_S → Prop) (hI : ∀ X, I X → zc_I0 X r) (hstep : ∀ X Y, I X → X (64 + r) 8 = 1 → zc_step X r = some Y → I Y) (hX : X (64 + r) 8 = 0 → X 44 3 < 800 → I (zc_up X r)) : nw_M wd_all yy_Le_restart cc_Le_restart 3 (some .boolean) 7 0 0 [.ref 0, .int (nI r)] X (fun v X' => v = some (.int (nI (zb_n (X (64 + r) 8 = 0)))) ∧ X' = if X (64 + r) 8 = 0 then zc_restart X r else X) := by
  refine nw_of [some (.ref 0), some (.int (nI r)), none] (by decide +kernel) rfl (Nat.le_of_ble_eq_true rfl) rfl ?_
  intro p l e s m args below meth c A g C
  refine cw_aload_n C dd_Le_restart_0 rfl ?_
  refine cw_iload_n C dd_Le_restart_1 rfl ?_
  refine cw_callV (As := [_]) C kV_Le_72 wc_0 is_0 dd_Le_restart_2 rfl rfl (Nat.le_of_ble_eq_true rfl) ⟨(Nat.le_of_ble_eq_true rfl), (Nat.le_of_ble_eq_true rfl)⟩ ⟨(Nat.le_of_ble_eq_true rfl), (Nat.le_of_ble_eq_true rfl)⟩ (mm_Le_replicaOf X r hr) (nw_kr ?_)
  refine cw_astore_n C dd_Le_restart_5 (Nat.le_of_ble_eq_true rfl) ?_
  refine cw_aload_n C dd_Le_restart_6 rfl ?_
  refine nw_geti C wc_16 kF_Le_94 (is_16 hr) (by decide) rfl dd_Le_restart_7 ?_
  refine nw_if_eq (tgt := 15) C dd_Le_restart_10 (by decide) (by first | omega | (simp [wx_u] <;> omega)) (fun h10 => ?_) (fun h10 => ?_)
  · refine cw_aload_n C dd_Le_restart_15 rfl ?_
    refine cw_callV (As := []) C kV_Le_97 wc_16 (is_16 hr) dd_Le_restart_16 rfl rfl (Nat.le_of_ble_eq_true rfl) ⟨(Nat.le_of_ble_eq_true rfl), (Nat.le_of_ble_eq_true rfl)⟩ ⟨(Nat.le_of_ble_eq_true rfl), (Nat.le_of_ble_eq_true rfl)⟩ (mm_Re_comeUp X r hr) (nw_kv ?_)
    refine cw_aload_n C dd_Le_restart_19 rfl ?_
    refine cw_getr (q' := 44) C wc_0 kF_Le_26 is_0 (by decide) rfl dd_Le_restart_20 rfl ?_
    have e8 : zc_up X r 44 3 = X 44 3 := zc_up_oth X r (by omega) (by omega)
    refine cw_callV (As := []) C kV_Le_81 wc_11 is_11 dd_Le_restart_23 rfl rfl (Nat.le_of_ble_eq_true rfl) ⟨(Nat.le_of_ble_eq_true rfl), (Nat.le_of_ble_eq_true rfl)⟩ ⟨(Nat.le_of_ble_eq_true rfl), (Nat.le_of_ble_eq_true rfl)⟩ (mm_Bo_isFull (zc_up X r) (by omega)) (nw_ki ?_)
    refine nw_zne (tgt := 33) C dd_Le_restart_26 (by decide) (fun h26 => ?_) (fun h26 => ?_)
    · refine cw_iconst (v := nI 1) C dd_Le_restart_33 (by decide +kernel) ?_
      exact cw_zreturn C dd_Le_restart_34 (nw_zn (by decide)) (Nat.le_of_ble_eq_true rfl) (Nat.le_of_ble_eq_true rfl) ⟨_, rfl, rfl, ⟨congrArg (fun z => some (Value.int z)) (zb_t h10), by rw [if_pos h10, zc_restart]; first | rw [if_neg (by omega)] | rw [if_pos (by omega)]⟩⟩
    · refine cw_aload_n C dd_Le_restart_29 rfl ?_
      refine cw_callV (As := []) C kV_Le_100 wc_16 (is_16 hr) dd_Le_restart_30 rfl rfl (Nat.le_of_ble_eq_true rfl) ⟨(Nat.le_of_ble_eq_true rfl), (Nat.le_of_ble_eq_true rfl)⟩ ⟨(Nat.le_of_ble_eq_true rfl), (Nat.le_of_ble_eq_true rfl)⟩ (mm_Re_act (zc_up X r) r hr I hI hstep (hX h10 (by omega))) (nw_kv ?_)
      refine cw_iconst (v := nI 1) C dd_Le_restart_33 (by decide +kernel) ?_
      exact cw_zreturn C dd_Le_restart_34 (nw_zn (by decide)) (Nat.le_of_ble_eq_true rfl) (Nat.le_of_ble_eq_true rfl) ⟨_, rfl, rfl, ⟨congrArg (fun z => some (Value.int z)) (zb_t h10), by rw [if_pos h10, zc_restart]; first | rw [if_neg (by omega)] | rw [if_pos (by omega)]⟩⟩
  · refine cw_iconst (v := nI 0) C dd_Le_restart_13 (by decide +kernel) ?_
    exact cw_zreturn C dd_Le_restart_14 (nw_zn (by decide)) (Nat.le_of_ble_eq_true rfl) (Nat.le_of_ble_eq_true rfl) ⟨_, rfl, rfl, ⟨congrArg (fun z => some (Value.int z)) (zb_f h10), (if_neg h10).symm⟩⟩
set_option maxRecDepth 100000 in
set_option maxHeartbeats 4000000 in
theorem mm_Le_cut (X : wx_S) (r : Nat) (hr : r < 4) (k : Nat) (hk : k < 4294967296) (hst : X (64 + r) 8 < 4294967296) : nw_M wd_all yy_Le_cut cc_Le_cut 4 (some .boolean) 2 0 0 [.ref 0, .int (nI r), .int (nI k)] X (fun v X' => v = some (.int (nI (zb_n (k < 2147483648 ∧ X (64 + r) 8 = 1)))) ∧ X' = if k < 2147483648 ∧ X (64 + r) 8 = 1 then wx_u (wx_u X (64 + r) 11 1) (64 + r) 12 k else X) := by
  refine nw_of [some (.ref 0), some (.int (nI r)), some (.int (nI k)), none] (by decide +kernel) rfl (Nat.le_of_ble_eq_true rfl) rfl ?_
  intro p l e s m args below meth c A g C
  refine cw_aload_n C dd_Le_cut_0 rfl ?_
  refine cw_iload_n C dd_Le_cut_1 rfl ?_
  refine cw_callV (As := [_]) C kV_Le_72 wc_0 is_0 dd_Le_cut_2 rfl rfl (Nat.le_of_ble_eq_true rfl) ⟨(Nat.le_of_ble_eq_true rfl), (Nat.le_of_ble_eq_true rfl)⟩ ⟨(Nat.le_of_ble_eq_true rfl), (Nat.le_of_ble_eq_true rfl)⟩ (mm_Le_replicaOf X r hr) (nw_kr ?_)
  refine cw_astore_n C dd_Le_cut_5 (Nat.le_of_ble_eq_true rfl) ?_
  refine cw_iload_n C dd_Le_cut_6 rfl ?_
  refine nw_if_lt (tgt := 17) C dd_Le_cut_7 (by decide) (by first | omega | (simp [wx_u] <;> omega)) (fun h7 => ?_) (fun h7 => ?_)
  · refine cw_iconst (v := nI 0) C dd_Le_cut_17 (by decide +kernel) ?_
    exact cw_zreturn C dd_Le_cut_18 (nw_zn (by decide)) (Nat.le_of_ble_eq_true rfl) (Nat.le_of_ble_eq_true rfl) ⟨_, rfl, rfl, ⟨congrArg (fun z => some (Value.int z)) (zb_f (by omega)), (if_neg (by omega)).symm⟩⟩
  · refine cw_aload_n C dd_Le_cut_10 rfl ?_
    refine cw_callV (As := []) C kV_Le_78 wc_16 (is_16 hr) dd_Le_cut_11 rfl rfl (Nat.le_of_ble_eq_true rfl) ⟨(Nat.le_of_ble_eq_true rfl), (Nat.le_of_ble_eq_true rfl)⟩ ⟨(Nat.le_of_ble_eq_true rfl), (Nat.le_of_ble_eq_true rfl)⟩ (mm_Re_isUp X r hr hst) (nw_ki ?_)
    refine nw_zne (tgt := 19) C dd_Le_cut_14 (by decide) (fun h14 => ?_) (fun h14 => ?_)
    · refine cw_aload_n C dd_Le_cut_19 rfl ?_
      refine cw_iload_n C dd_Le_cut_20 rfl ?_
      refine cw_callV (As := [_]) C kV_Le_103 wc_16 (is_16 hr) dd_Le_cut_21 rfl rfl (Nat.le_of_ble_eq_true rfl) ⟨(Nat.le_of_ble_eq_true rfl), (Nat.le_of_ble_eq_true rfl)⟩ ⟨(Nat.le_of_ble_eq_true rfl), (Nat.le_of_ble_eq_true rfl)⟩ (mm_Re_setCut X r hr k) (nw_kv ?_)
      refine cw_iconst (v := nI 1) C dd_Le_cut_24 (by decide +kernel) ?_
      exact cw_zreturn C dd_Le_cut_25 (nw_zn (by decide)) (Nat.le_of_ble_eq_true rfl) (Nat.le_of_ble_eq_true rfl) ⟨_, rfl, rfl, ⟨congrArg (fun z => some (Value.int z)) (zb_t ⟨h7, h14⟩), (if_pos ⟨h7, h14⟩).symm⟩⟩
    · refine cw_iconst (v := nI 0) C dd_Le_cut_17 (by decide +kernel) ?_
      exact cw_zreturn C dd_Le_cut_18 (nw_zn (by decide)) (Nat.le_of_ble_eq_true rfl) (Nat.le_of_ble_eq_true rfl) ⟨_, rfl, rfl, ⟨congrArg (fun z => some (Value.int z)) (zb_f (by omega)), (if_neg (by omega)).symm⟩⟩
set_option maxRecDepth 100000 in
set_option maxHeartbeats 4000000 in
theorem mm_Le_corrupt (X : wx_S) (r : Nat) (hr : r < 4) (hf : X 0 4 < 4294967296) : nw_M wd_all yy_Le_corrupt cc_Le_corrupt 3 (some .boolean) 2 0 0 [.ref 0, .int (nI r)] X (fun v X' => v = some (.int (nI (zb_n (X 0 4 = 4294967295)))) ∧ X' = if X 0 4 = 4294967295 then wx_u (wx_u X (64 + r) 8 2) 0 4 r else X) := by
  refine nw_of [some (.ref 0), some (.int (nI r)), none] (by decide +kernel) rfl (Nat.le_of_ble_eq_true rfl) rfl ?_
  intro p l e s m args below meth c A g C
  refine cw_aload_n C dd_Le_corrupt_0 rfl ?_
  refine cw_iload_n C dd_Le_corrupt_1 rfl ?_
  refine cw_callV (As := [_]) C kV_Le_72 wc_0 is_0 dd_Le_corrupt_2 rfl rfl (Nat.le_of_ble_eq_true rfl) ⟨(Nat.le_of_ble_eq_true rfl), (Nat.le_of_ble_eq_true rfl)⟩ ⟨(Nat.le_of_ble_eq_true rfl), (Nat.le_of_ble_eq_true rfl)⟩ (mm_Le_replicaOf X r hr) (nw_kr ?_)
  refine cw_astore_n C dd_Le_corrupt_5 (Nat.le_of_ble_eq_true rfl) ?_
  refine cw_aload_n C dd_Le_corrupt_6 rfl ?_
  refine nw_geti C wc_0 kF_Le_39 is_0 (by decide) rfl dd_Le_corrupt_7 ?_
  refine cw_iconst (v := nI 4294967295) C dd_Le_corrupt_10 (by decide +kernel) ?_
  refine nw_icmp_eq (tgt := 16) C dd_Le_corrupt_11 (by decide) (by first | omega | (simp [wx_u] <;> omega)) (by first | omega | (simp [wx_u] <;> omega)) (fun h11 => ?_) (fun h11 => ?_)
  · refine cw_aload_n C dd_Le_corrupt_16 rfl ?_
    refine cw_iconst (v := nI 2) C dd_Le_corrupt_17 (by decide +kernel) ?_
    refine nw_puti C wc_16 kF_Le_94 (is_16 hr) (by decide) rfl rfl rfl rfl dd_Le_corrupt_18 ?_
    refine cw_aload_n C dd_Le_corrupt_21 rfl ?_
    refine cw_iload_n C dd_Le_corrupt_22 rfl ?_
    refine nw_puti C wc_0 kF_Le_39 is_0 (by decide) rfl rfl rfl rfl dd_Le_corrupt_23 ?_
    refine cw_iconst (v := nI 1) C dd_Le_corrupt_26 (by decide +kernel) ?_
    exact cw_zreturn C dd_Le_corrupt_27 (nw_zn (by decide)) (Nat.le_of_ble_eq_true rfl) (Nat.le_of_ble_eq_true rfl) ⟨_, rfl, rfl, ⟨congrArg (fun z => some (Value.int z)) (zb_t h11), (if_pos h11).symm⟩⟩
  · refine cw_iconst (v := nI 0) C dd_Le_corrupt_14 (by decide +kernel) ?_
    exact cw_zreturn C dd_Le_corrupt_15 (nw_zn (by decide)) (Nat.le_of_ble_eq_true rfl) (Nat.le_of_ble_eq_true rfl) ⟨_, rfl, rfl, ⟨congrArg (fun z => some (Value.int z)) (zb_f h11), (if_neg h11).symm⟩⟩
