abbrev zc_cut (X : wx_S) (r : Nat) : Prop := X (64 + r) 11 ≠ 0 ∧ X (64 + r) 12 = 0
def zc_goDown (X : wx_S) (r : Nat) : wx_S :=
  let X0 := wx_u (wx_u (wx_u (wx_u X (64 + r) 8 0) (64 + r) 11 0) (64 + r) 9 0) (64 + r) 10 0
  let X1 := wx_u (zz_fill (zz_fill X0 (88 + r) 90 0) (92 + r) 90 0) (84 + r) 3 0
  let X2 := wx_u (zz_fill (zz_fill X1 (104 + r) 64 4294967295) (108 + r) 16 0) (100 + r) 3 0
  let X3 := wx_u (zz_fill X2 (128 + r) 15 0) (124 + r) 5 0
  wx_u (wx_u (zz_fill X3 (120 + r) 4 0) (112 + r) 2 0) (112 + r) 3 0
def zc_wrote (X : wx_S) (r : Nat) : wx_S := wx_u (if X (64 + r) 11 = 0 then X else wx_u X (64 + r) 12 (X (64 + r) 12 - 1)) (68 + r) 6 (X (68 + r) 6 + 1)
theorem zc_wrote_oth (X : wx_S) (r : Nat) {c : Nat} (k : Nat) (h1 : c ≠ 64 + r) (h2 : c ≠ 68 + r) : zc_wrote X r c k = X c k := by
  rw [zc_wrote, wx_u_nc h2]
  split
  · rfl
  · exact wx_u_nc h1
def zc_post (X : wx_S) (k q u : Nat) : wx_S := wx_u (wx_u (wx_u (wx_u X 48 (X 44 3) k) 52 (X 44 3) q) 56 (X 44 3) u) 44 3 (X 44 3 + 1)
set_option maxRecDepth 100000 in
set_option maxHeartbeats 4000000 in
theorem mm_Re_isUp (X : wx_S) (r : Nat) (hr : r < 4) (h : X (64 + r) 8 < 4294967296) : nw_M wd_all yy_Re_isUp cc_Re_isUp 1 (some .boolean) 1 0 0 [.ref (64 + r)] X (fun v X' => v = some (.int (nI (zb_n (X (64 + r) 8 = 1)))) ∧ X' = X) := by
  refine nw_of [some (.ref (64 + r))] (by decide +kernel) rfl (Nat.le_of_ble_eq_true rfl) rfl ?_
  intro p l e s m args below meth c A g C
  refine cw_aload_n C dd_Re_isUp_0 rfl ?_
  refine nw_geti C wc_16 kF_Re_25 (is_16 hr) (by decide) rfl dd_Re_isUp_1 ?_
  refine cw_iconst (v := nI 1) C dd_Re_isUp_4 (by decide +kernel) ?_
  refine nw_icmp_ne (tgt := 12) C dd_Re_isUp_5 (by decide) (by first | omega | (simp [wx_u] <;> omega)) (by first | omega | (simp [wx_u] <;> omega)) (fun h5 => ?_) (fun h5 => ?_)
  · refine cw_iconst (v := nI 0) C dd_Re_isUp_12 (by decide +kernel) ?_
    exact cw_zreturn C dd_Re_isUp_13 (nw_zn (by decide)) (Nat.le_of_ble_eq_true rfl) (Nat.le_of_ble_eq_true rfl) ⟨_, rfl, rfl, ⟨by first | exact congrArg (fun z => some (Value.int z)) (zb_t (by first | omega | (simp [wx_u] <;> omega))) | exact congrArg (fun z => some (Value.int z)) (zb_f (by first | omega | (simp [wx_u] <;> omega))), by first | rfl | simp [wx_u]⟩⟩
  · refine cw_iconst (v := nI 1) C dd_Re_isUp_8 (by decide +kernel) ?_
    refine cw_goto (tgt := 13) C dd_Re_isUp_9 (by decide) ?_
    exact cw_zreturn C dd_Re_isUp_13 (nw_zn (by decide)) (Nat.le_of_ble_eq_true rfl) (Nat.le_of_ble_eq_true rfl) ⟨_, rfl, rfl, ⟨by first | exact congrArg (fun z => some (Value.int z)) (zb_t (by first | omega | (simp [wx_u] <;> omega))) | exact congrArg (fun z => some (Value.int z)) (zb_f (by first | omega | (simp [wx_u] <;> omega))), by first | rfl | simp [wx_u]⟩⟩
set_option maxRecDepth 100000 in
set_option maxHeartbeats 4000000 in
theorem mm_Re_goDown (X : wx_S) (r : Nat) (hr : r < 4) : nw_M wd_all yy_Re_goDown cc_Re_goDown 1 none 3 0 0 [.ref (64 + r)] X (fun v X' => v = none ∧ X' = zc_goDown X r) := by
  refine nw_of [some (.ref (64 + r))] (by decide +kernel) rfl (Nat.le_of_ble_eq_true rfl) rfl ?_
  intro p l e s m args below meth c A g C
  refine cw_aload_n C dd_Re_goDown_0 rfl ?_
  refine cw_iconst (v := nI 0) C dd_Re_goDown_1 (by decide +kernel) ?_
  refine nw_puti C wc_16 kF_Re_25 (is_16 hr) (by decide) rfl rfl rfl rfl dd_Re_goDown_2 ?_
  refine cw_aload_n C dd_Re_goDown_5 rfl ?_
  refine cw_iconst (v := nI 0) C dd_Re_goDown_6 (by decide +kernel) ?_
  refine nw_puti C wc_16 kF_Re_67 (is_16 hr) (by decide) rfl rfl (nw_zn (by decide)) (nw_zf (by decide)) dd_Re_goDown_7 ?_
  refine cw_aload_n C dd_Re_goDown_10 rfl ?_
  refine cw_iconst (v := nI 0) C dd_Re_goDown_11 (by decide +kernel) ?_
  refine nw_puti C wc_16 kF_Re_71 (is_16 hr) (by decide) rfl rfl rfl rfl dd_Re_goDown_12 ?_
  refine cw_aload_n C dd_Re_goDown_15 rfl ?_
  refine cw_iconst (v := nI 0) C dd_Re_goDown_16 (by decide +kernel) ?_
  refine nw_puti C wc_16 kF_Re_74 (is_16 hr) (by decide) rfl rfl rfl rfl dd_Re_goDown_17 ?_
  refine cw_aload_n C dd_Re_goDown_20 rfl ?_
  refine cw_gets (b := 64) (b' := 84) C hr rfl wc_16 kF_Re_21 (is_16 hr) (by decide) rfl dd_Re_goDown_21 rfl ?_
  refine cw_callV (As := []) C kV_Re_77 wc_21 (is_21 hr) dd_Re_goDown_24 rfl rfl (Nat.le_of_ble_eq_true rfl) ⟨(Nat.le_of_ble_eq_true rfl), (Nat.le_of_ble_eq_true rfl)⟩ ⟨(Nat.le_of_ble_eq_true rfl), (Nat.le_of_ble_eq_true rfl)⟩ (mm_No_clear _ r hr) (nw_kv ?_)
  refine cw_aload_n C dd_Re_goDown_27 rfl ?_
  refine cw_gets (b := 64) (b' := 100) C hr rfl wc_16 kF_Re_45 (is_16 hr) (by decide) rfl dd_Re_goDown_28 rfl ?_
  refine cw_callV (As := []) C kV_Re_80 wc_25 (is_25 hr) dd_Re_goDown_31 rfl rfl (Nat.le_of_ble_eq_true rfl) ⟨(Nat.le_of_ble_eq_true rfl), (Nat.le_of_ble_eq_true rfl)⟩ ⟨(Nat.le_of_ble_eq_true rfl), (Nat.le_of_ble_eq_true rfl)⟩ (mm_Dg_clear _ r hr) (nw_kv ?_)
  refine cw_aload_n C dd_Re_goDown_34 rfl ?_
  refine cw_gets (b := 64) (b' := 124) C hr rfl wc_16 kF_Re_63 (is_16 hr) (by decide) rfl dd_Re_goDown_35 rfl ?_
  refine cw_callV (As := []) C kV_Re_81 wc_31 (is_31 hr) dd_Re_goDown_38 rfl rfl (Nat.le_of_ble_eq_true rfl) ⟨(Nat.le_of_ble_eq_true rfl), (Nat.le_of_ble_eq_true rfl)⟩ ⟨(Nat.le_of_ble_eq_true rfl), (Nat.le_of_ble_eq_true rfl)⟩ (mm_Co_clear _ r hr) (nw_kv ?_)
  refine cw_aload_n C dd_Re_goDown_41 rfl ?_
  refine cw_gets (b := 64) (b' := 112) C hr rfl wc_16 kF_Re_54 (is_16 hr) (by decide) rfl dd_Re_goDown_42 rfl ?_
  refine cw_callV (As := []) C kV_Re_82 wc_28 (is_28 hr) dd_Re_goDown_45 rfl rfl (Nat.le_of_ble_eq_true rfl) ⟨(Nat.le_of_ble_eq_true rfl), (Nat.le_of_ble_eq_true rfl)⟩ ⟨(Nat.le_of_ble_eq_true rfl), (Nat.le_of_ble_eq_true rfl)⟩ (mm_Bk_clear _ r hr) (nw_kv ?_)
  exact cw_vreturn C dd_Re_goDown_48 (Nat.le_of_ble_eq_true rfl) (Nat.le_of_ble_eq_true rfl) ⟨_, rfl, rfl, ⟨rfl, rfl⟩⟩
set_option maxRecDepth 100000 in
set_option maxHeartbeats 4000000 in
theorem mm_Re_writeRecord_dn (X : wx_S) (r : Nat) (hr : r < 4) (h1 : X (64 + r) 11 < 4294967296) (h2 : X (64 + r) 12 < 4294967296) (hc : zc_cut X r) : nw_M wd_all yy_Re_writeRecord cc_Re_writeRecord 1 (some .boolean) 4 0 0 [.ref (64 + r)] X (fun v X' => v = some (.int (nI 0)) ∧ X' = zc_goDown X r) := by
  refine nw_of [some (.ref (64 + r))] (by decide +kernel) rfl (Nat.le_of_ble_eq_true rfl) rfl ?_
  intro p l e s m args below meth c A g C
  refine cw_aload_n C dd_Re_writeRecord_0 rfl ?_
  refine nw_geti C wc_16 kF_Re_67 (is_16 hr) (by decide) rfl dd_Re_writeRecord_1 ?_
  refine nw_if_eq (tgt := 20) C dd_Re_writeRecord_4 (by decide) (by first | omega | (simp [wx_u] <;> omega)) (fun h4 => ?_) (fun h4 => ?_)
  · exact absurd h4 hc.1
  · refine cw_aload_n C dd_Re_writeRecord_7 rfl ?_
    refine nw_geti C wc_16 kF_Re_86 (is_16 hr) (by decide) rfl dd_Re_writeRecord_8 ?_
    refine nw_if_ne (tgt := 20) C dd_Re_writeRecord_11 (by decide) (by first | omega | (simp [wx_u] <;> omega)) (fun h11 => ?_) (fun h11 => ?_)
    · exact absurd hc.2 h11
    · refine cw_aload_n C dd_Re_writeRecord_14 rfl ?_
      refine cw_callV (As := []) C kV_Re_89 wc_16 (is_16 hr) dd_Re_writeRecord_15 rfl rfl (Nat.le_of_ble_eq_true rfl) ⟨(Nat.le_of_ble_eq_true rfl), (Nat.le_of_ble_eq_true rfl)⟩ ⟨(Nat.le_of_ble_eq_true rfl), (Nat.le_of_ble_eq_true rfl)⟩ (mm_Re_goDown X r hr) (nw_kv ?_)
      refine cw_iconst (v := nI 0) C dd_Re_writeRecord_18 (by decide +kernel) ?_
      exact cw_zreturn C dd_Re_writeRecord_19 (nw_zn (by decide)) (Nat.le_of_ble_eq_true rfl) (Nat.le_of_ble_eq_true rfl) ⟨_, rfl, rfl, ⟨rfl, rfl⟩⟩
set_option maxRecDepth 100000 in
set_option maxHeartbeats 4000000 in
theorem mm_Re_writeRecord_ok (X : wx_S) (r : Nat) (hr : r < 4) (h1 : X (64 + r) 11 < 4294967296) (h2 : X (64 + r) 12 < 4294967296) (hc : ¬ zc_cut X r) : nw_M wd_all yy_Re_writeRecord cc_Re_writeRecord 1 (some .boolean) 4 0 0 [.ref (64 + r)] X (fun v X' => v = some (.int (nI 1)) ∧ X' = zc_wrote X r) := by
  refine nw_of [some (.ref (64 + r))] (by decide +kernel) rfl (Nat.le_of_ble_eq_true rfl) rfl ?_
  intro p l e s m args below meth c A g C
  refine cw_aload_n C dd_Re_writeRecord_0 rfl ?_
  refine nw_geti C wc_16 kF_Re_67 (is_16 hr) (by decide) rfl dd_Re_writeRecord_1 ?_
  refine nw_if_eq (tgt := 20) C dd_Re_writeRecord_4 (by decide) (by first | omega | (simp [wx_u] <;> omega)) (fun h4 => ?_) (fun h4 => ?_)
  · refine cw_aload_n C dd_Re_writeRecord_20 rfl ?_
    refine nw_geti C wc_16 kF_Re_67 (is_16 hr) (by decide) rfl dd_Re_writeRecord_21 ?_
    refine nw_if_eq (tgt := 37) C dd_Re_writeRecord_24 (by decide) (by first | omega | (simp [wx_u] <;> omega)) (fun h24 => ?_) (fun h24 => ?_)
    · refine cw_aload_n C dd_Re_writeRecord_37 rfl ?_
      refine cw_gets (b := 64) (b' := 68) C hr rfl wc_16 kF_Re_12 (is_16 hr) (by decide) rfl dd_Re_writeRecord_38 rfl ?_
      refine cw_dup C dd_Re_writeRecord_41 rfl ?_
      refine nw_geti C wc_17 kF_Re_92 (is_17 hr) (by decide) rfl dd_Re_writeRecord_42 ?_
      refine cw_iconst (v := nI 1) C dd_Re_writeRecord_45 (by decide +kernel) ?_
      refine nw_iadd C dd_Re_writeRecord_46 ?_
      refine nw_puti C wc_17 kF_Re_92 (is_17 hr) (by decide) rfl rfl rfl rfl dd_Re_writeRecord_47 ?_
      refine cw_iconst (v := nI 1) C dd_Re_writeRecord_50 (by decide +kernel) ?_
      exact cw_zreturn C dd_Re_writeRecord_51 (nw_zn (by decide)) (Nat.le_of_ble_eq_true rfl) (Nat.le_of_ble_eq_true rfl) ⟨_, rfl, rfl, ⟨rfl, by first | (rw [zc_wrote, if_pos h24]; done) | (rw [zc_wrote, if_neg h24])⟩⟩
    · refine cw_aload_n C dd_Re_writeRecord_27 rfl ?_
      refine cw_dup C dd_Re_writeRecord_28 rfl ?_
      refine nw_geti C wc_16 kF_Re_86 (is_16 hr) (by decide) rfl dd_Re_writeRecord_29 ?_
      refine cw_iconst (v := nI 1) C dd_Re_writeRecord_32 (by decide +kernel) ?_
      refine nw_isub C dd_Re_writeRecord_33 (by first | omega | (simp [wx_u] <;> omega)) ?_
      refine nw_puti C wc_16 kF_Re_86 (is_16 hr) (by decide) rfl rfl rfl rfl dd_Re_writeRecord_34 ?_
      refine cw_aload_n C dd_Re_writeRecord_37 rfl ?_
      refine cw_gets (b := 64) (b' := 68) C hr rfl wc_16 kF_Re_12 (is_16 hr) (by decide) rfl dd_Re_writeRecord_38 rfl ?_
      refine cw_dup C dd_Re_writeRecord_41 rfl ?_
      refine nw_getiv C (X (68 + r) 6) wc_17 kF_Re_92 (is_17 hr) (by decide) rfl dd_Re_writeRecord_42 (by repeat (first | rfl | rw [wx_u_eq] | rw [wx_u_nc (by omega)] | rw [wx_u_nk (by omega)])) ?_
      refine cw_iconst (v := nI 1) C dd_Re_writeRecord_45 (by decide +kernel) ?_
      refine nw_iadd C dd_Re_writeRecord_46 ?_
      refine nw_puti C wc_17 kF_Re_92 (is_17 hr) (by decide) rfl rfl rfl rfl dd_Re_writeRecord_47 ?_
      refine cw_iconst (v := nI 1) C dd_Re_writeRecord_50 (by decide +kernel) ?_
      exact cw_zreturn C dd_Re_writeRecord_51 (nw_zn (by decide)) (Nat.le_of_ble_eq_true rfl) (Nat.le_of_ble_eq_true rfl) ⟨_, rfl, rfl, ⟨rfl, by first | (rw [zc_wrote, if_pos h24]; done) | (rw [zc_wrote, if_neg h24])⟩⟩
  · refine cw_aload_n C dd_Re_writeRecord_7 rfl ?_
    refine nw_geti C wc_16 kF_Re_86 (is_16 hr) (by decide) rfl dd_Re_writeRecord_8 ?_
    refine nw_if_ne (tgt := 20) C dd_Re_writeRecord_11 (by decide) (by first | omega | (simp [wx_u] <;> omega)) (fun h11 => ?_) (fun h11 => ?_)
    · refine cw_aload_n C dd_Re_writeRecord_20 rfl ?_
      refine nw_geti C wc_16 kF_Re_67 (is_16 hr) (by decide) rfl dd_Re_writeRecord_21 ?_
      refine nw_if_eq (tgt := 37) C dd_Re_writeRecord_24 (by decide) (by first | omega | (simp [wx_u] <;> omega)) (fun h24 => ?_) (fun h24 => ?_)
      · refine cw_aload_n C dd_Re_writeRecord_37 rfl ?_
        refine cw_gets (b := 64) (b' := 68) C hr rfl wc_16 kF_Re_12 (is_16 hr) (by decide) rfl dd_Re_writeRecord_38 rfl ?_
        refine cw_dup C dd_Re_writeRecord_41 rfl ?_
        refine nw_geti C wc_17 kF_Re_92 (is_17 hr) (by decide) rfl dd_Re_writeRecord_42 ?_
        refine cw_iconst (v := nI 1) C dd_Re_writeRecord_45 (by decide +kernel) ?_
        refine nw_iadd C dd_Re_writeRecord_46 ?_
        refine nw_puti C wc_17 kF_Re_92 (is_17 hr) (by decide) rfl rfl rfl rfl dd_Re_writeRecord_47 ?_
        refine cw_iconst (v := nI 1) C dd_Re_writeRecord_50 (by decide +kernel) ?_
        exact cw_zreturn C dd_Re_writeRecord_51 (nw_zn (by decide)) (Nat.le_of_ble_eq_true rfl) (Nat.le_of_ble_eq_true rfl) ⟨_, rfl, rfl, ⟨rfl, by first | (rw [zc_wrote, if_pos h24]; done) | (rw [zc_wrote, if_neg h24])⟩⟩
      · refine cw_aload_n C dd_Re_writeRecord_27 rfl ?_
        refine cw_dup C dd_Re_writeRecord_28 rfl ?_
        refine nw_geti C wc_16 kF_Re_86 (is_16 hr) (by decide) rfl dd_Re_writeRecord_29 ?_
        refine cw_iconst (v := nI 1) C dd_Re_writeRecord_32 (by decide +kernel) ?_
        refine nw_isub C dd_Re_writeRecord_33 (by first | omega | (simp [wx_u] <;> omega)) ?_
        refine nw_puti C wc_16 kF_Re_86 (is_16 hr) (by decide) rfl rfl rfl rfl dd_Re_writeRecord_34 ?_
        refine cw_aload_n C dd_Re_writeRecord_37 rfl ?_
        refine cw_gets (b := 64) (b' := 68) C hr rfl wc_16 kF_Re_12 (is_16 hr) (by decide) rfl dd_Re_writeRecord_38 rfl ?_
        refine cw_dup C dd_Re_writeRecord_41 rfl ?_
        refine nw_getiv C (X (68 + r) 6) wc_17 kF_Re_92 (is_17 hr) (by decide) rfl dd_Re_writeRecord_42 (by repeat (first | rfl | rw [wx_u_eq] | rw [wx_u_nc (by omega)] | rw [wx_u_nk (by omega)])) ?_
        refine cw_iconst (v := nI 1) C dd_Re_writeRecord_45 (by decide +kernel) ?_
        refine nw_iadd C dd_Re_writeRecord_46 ?_
        refine nw_puti C wc_17 kF_Re_92 (is_17 hr) (by decide) rfl rfl rfl rfl dd_Re_writeRecord_47 ?_
        refine cw_iconst (v := nI 1) C dd_Re_writeRecord_50 (by decide +kernel) ?_
        exact cw_zreturn C dd_Re_writeRecord_51 (nw_zn (by decide)) (Nat.le_of_ble_eq_true rfl) (Nat.le_of_ble_eq_true rfl) ⟨_, rfl, rfl, ⟨rfl, by first | (rw [zc_wrote, if_pos h24]; done) | (rw [zc_wrote, if_neg h24])⟩⟩
    · exact absurd ⟨h4, h11⟩ hc
set_option maxRecDepth 100000 in
set_option maxHeartbeats 4000000 in
theorem mm_Re_comeUp (X : wx_S) (r : Nat) (hr : r < 4) : nw_M wd_all yy_Re_comeUp cc_Re_comeUp 1 none 3 0 0 [.ref (64 + r)] X (fun v X' => v = none ∧ X' = zz_fill (wx_u X (64 + r) 8 1) (120 + r) 4 100) := by
  refine nw_of [some (.ref (64 + r))] (by decide +kernel) rfl (Nat.le_of_ble_eq_true rfl) rfl ?_
  intro p l e s m args below meth c A g C
  refine cw_aload_n C dd_Re_comeUp_0 rfl ?_
  refine cw_iconst (v := nI 1) C dd_Re_comeUp_1 (by decide +kernel) ?_
  refine nw_puti C wc_16 kF_Re_25 (is_16 hr) (by decide) rfl rfl rfl rfl dd_Re_comeUp_2 ?_
  refine cw_aload_n C dd_Re_comeUp_5 rfl ?_
  refine cw_gets (b := 64) (b' := 112) C hr rfl wc_16 kF_Re_54 (is_16 hr) (by decide) rfl dd_Re_comeUp_6 rfl ?_
  refine cw_callV (As := []) C kV_Re_83 wc_28 (is_28 hr) dd_Re_comeUp_9 rfl rfl (Nat.le_of_ble_eq_true rfl) ⟨(Nat.le_of_ble_eq_true rfl), (Nat.le_of_ble_eq_true rfl)⟩ ⟨(Nat.le_of_ble_eq_true rfl), (Nat.le_of_ble_eq_true rfl)⟩ (mm_Bk_open _ r hr) (nw_kv ?_)
  exact cw_vreturn C dd_Re_comeUp_12 (Nat.le_of_ble_eq_true rfl) (Nat.le_of_ble_eq_true rfl) ⟨_, rfl, rfl, ⟨by first | rfl | simp [wx_u], by first | rfl | simp [wx_u]⟩⟩
set_option maxRecDepth 100000 in
set_option maxHeartbeats 4000000 in
theorem mm_Re_setCut (X : wx_S) (r : Nat) (hr : r < 4) (k : Nat) : nw_M wd_all yy_Re_setCut cc_Re_setCut 2 none 1 0 0 [.ref (64 + r), .int (nI k)] X (fun v X' => v = none ∧ X' = wx_u (wx_u X (64 + r) 11 1) (64 + r) 12 k) := by
  refine nw_of [some (.ref (64 + r)), some (.int (nI k))] (by decide +kernel) rfl (Nat.le_of_ble_eq_true rfl) rfl ?_
  intro p l e s m args below meth c A g C
  refine cw_aload_n C dd_Re_setCut_0 rfl ?_
  refine cw_iconst (v := nI 1) C dd_Re_setCut_1 (by decide +kernel) ?_
  refine nw_puti C wc_16 kF_Re_67 (is_16 hr) (by decide) rfl rfl (nw_zn (by decide)) (nw_zf (by decide)) dd_Re_setCut_2 ?_
  refine cw_aload_n C dd_Re_setCut_5 rfl ?_
  refine cw_iload_n C dd_Re_setCut_6 rfl ?_
  refine nw_puti C wc_16 kF_Re_86 (is_16 hr) (by decide) rfl rfl rfl rfl dd_Re_setCut_7 ?_
  exact cw_vreturn C dd_Re_setCut_10 (Nat.le_of_ble_eq_true rfl) (Nat.le_of_ble_eq_true rfl) ⟨_, rfl, rfl, ⟨by first | rfl | simp [wx_u], by first | rfl | simp [wx_u]⟩⟩
