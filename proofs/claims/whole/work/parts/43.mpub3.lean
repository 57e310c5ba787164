theorem wx_ltm1 {x : Nat} (hx : x < 4294967296) : nI x < nI 4294967295 ↔ 2147483648 ≤ x ∧ x < 4294967295 := by
  by_cases h : x < 2147483648
  · have h2 := nI_pos' h
    have h3 : nI 4294967295 < 0 := by decide +kernel
    rw [Int32.lt_iff_toInt_lt] at h3 ⊢
    rw [Int32.le_iff_toInt_le] at h2
    omega
  · have e : (nI x).toInt = (x : Int) - 4294967296 := by
      show (BitVec.ofNat 32 x).toInt = _
      rw [BitVec.toInt_eq_toNat_cond, BitVec.toNat_ofNat, Nat.mod_eq_of_lt (by omega)]
      rw [if_neg (by omega)]
      omega
    have e2 : (nI 4294967295).toInt = -1 := by decide +kernel
    rw [Int32.lt_iff_toInt_lt, e, e2]
    omega
set_option maxRecDepth 100000 in
set_option maxHeartbeats 4000000 in
theorem mm_Mo_isTransfer (X : wx_S) (x : Nat) (hx : x < 4294967296) (hnn : X 136 1 ≤ 40) : nw_M wd_all yy_Mo_isTransfer cc_Mo_isTransfer 2 (some .boolean) 1 0 0 [.ref 136, .int (nI x)] X (fun v X' => v = some (.int (nI (zb_n (x = 4294967295 ∨ x < X 136 1)))) ∧ X' = X) := by
  refine nw_of [some (.ref 136), some (.int (nI x))] (by decide +kernel) rfl (Nat.le_of_ble_eq_true rfl) rfl ?_
  intro p l e s m args below meth c A g C
  refine cw_iload_n C dd_Mo_isTransfer_0 rfl ?_
  refine cw_iconst (v := nI 4294967295) C dd_Mo_isTransfer_1 (by decide +kernel) ?_
  refine cw_icmp_lt (tgt := 17) C dd_Mo_isTransfer_2 (by decide) (fun z2 => ?_) (fun z2 => ?_)
  · have h2 := (wx_ltm1 hx).mp z2
    refine cw_iconst (v := nI 0) C dd_Mo_isTransfer_17 (by decide +kernel) ?_
    exact cw_zreturn C dd_Mo_isTransfer_18 (nw_zn (by decide)) (Nat.le_of_ble_eq_true rfl) (Nat.le_of_ble_eq_true rfl) ⟨_, rfl, rfl, ⟨by first | exact congrArg (fun z => some (Value.int z)) (zb_t (by first | omega | (simp [wx_u] <;> omega))) | exact congrArg (fun z => some (Value.int z)) (zb_f (by first | omega | (simp [wx_u] <;> omega))), by first | rfl | simp [wx_u]⟩⟩
  · have h2 : ¬ (2147483648 ≤ x ∧ x < 4294967295) := fun q => z2 ((wx_ltm1 hx).mpr q)
    refine cw_iload_n C dd_Mo_isTransfer_5 rfl ?_
    refine cw_aload_n C dd_Mo_isTransfer_6 rfl ?_
    refine nw_geti C wc_34 kF_Mo_176 is_34 (by decide) rfl dd_Mo_isTransfer_7 ?_
    refine nw_scmp_ge (tgt := 17) C dd_Mo_isTransfer_10 (by decide) (by first | omega | (simp [wx_u] <;> omega)) (by first | omega | (simp [wx_u] <;> omega)) (fun h10 => ?_) (fun h10 => ?_)
    · refine cw_iconst (v := nI 0) C dd_Mo_isTransfer_17 (by decide +kernel) ?_
      exact cw_zreturn C dd_Mo_isTransfer_18 (nw_zn (by decide)) (Nat.le_of_ble_eq_true rfl) (Nat.le_of_ble_eq_true rfl) ⟨_, rfl, rfl, ⟨by first | exact congrArg (fun z => some (Value.int z)) (zb_t (by first | omega | (simp [wx_u] <;> omega))) | exact congrArg (fun z => some (Value.int z)) (zb_f (by first | omega | (simp [wx_u] <;> omega))), by first | rfl | simp [wx_u]⟩⟩
    · refine cw_iconst (v := nI 1) C dd_Mo_isTransfer_13 (by decide +kernel) ?_
      refine cw_goto (tgt := 18) C dd_Mo_isTransfer_14 (by decide) ?_
      exact cw_zreturn C dd_Mo_isTransfer_18 (nw_zn (by decide)) (Nat.le_of_ble_eq_true rfl) (Nat.le_of_ble_eq_true rfl) ⟨_, rfl, rfl, ⟨by first | exact congrArg (fun z => some (Value.int z)) (zb_t (by first | omega | (simp [wx_u] <;> omega))) | exact congrArg (fun z => some (Value.int z)) (zb_f (by first | omega | (simp [wx_u] <;> omega))), by first | rfl | simp [wx_u]⟩⟩
abbrev zm_fgC (X : wx_S) (w q a b : Nat) : Prop := zm_fl X ≠ 4294967295 ∧ 1 ≤ w ∧ w ≤ 14 ∧ q ≤ 15 ∧ (a = 4294967295 ∨ a < X 136 1) ∧ (b = 4294967295 ∨ b < X 136 1) ∧ X 136 7 < 90 ∧ X 136 13 < 800
def zm_forge (X : wx_S) (w q a b : Nat) : wx_S := zm_say (zm_make X (zm_fl X) w q a b) (zm_fl X) (X 136 7) 0
set_option maxRecDepth 100000 in
set_option maxHeartbeats 4000000 in
theorem mm_Mo_forge (X : wx_S) (w q a b : Nat) (hw : w < 4294967296) (hq : q < 4294967296) (ha : a < 4294967296) (hb : b < 4294967296) (hst : ∀ i, i < 4 → X 192 i < 4294967296) (hmm : X 136 13 ≤ 802) (hv : X 136 7 ≤ 90) (hnn : X 136 1 ≤ 40) : nw_M wd_all yy_Mo_forge cc_Mo_forge 6 (some .int) 3 0 0 [.ref 136, .int (nI w), .int (nI q), .int (nI a), .int (nI b)] X (fun v X' => v = some (.int (nI (if zm_fgC X w q a b then X 136 7 else 4294967295))) ∧ X' = if zm_fgC X w q a b then zm_forge (wx_u X 136 0 0) w q a b else (wx_u X 136 0 0)) := by
  refine nw_of [some (.ref 136), some (.int (nI w)), some (.int (nI q)), some (.int (nI a)), some (.int (nI b)), none] (by decide +kernel) rfl (Nat.le_of_ble_eq_true rfl) rfl ?_
  intro p l e s m args below meth c A g C
  have e13 : wx_u X 136 0 0 136 13 = X 136 13 := wx_u_nk (by decide)
  have e7 : wx_u X 136 0 0 136 7 = X 136 7 := wx_u_nk (by decide)
  have e1 : wx_u X 136 0 0 136 1 = X 136 1 := wx_u_nk (by decide)
  have ef : zm_fl (wx_u X 136 0 0) = zm_fl X := zm_fl_eq (fun k => wx_u_nc (by decide))
  have gf := zm_fl_lt X
  have hz : ∀ i, i < 4 → wx_u X 136 0 0 192 i < 4294967296 := fun i hi => by rw [wx_u_nc (by decide)]; exact hst i hi
  have ek : ∀ i, (zm_make (wx_u X 136 0 0) (zm_fl X) w q a b) 192 i = X 192 i := fun i => by rw [zm_make_oth _ _ _ _ _ _ (by decide) (by decide) (by decide) (by decide) (by decide) (by omega), wx_u_nc (by decide)]
  have ek2 : zm_fl (zm_make (wx_u X 136 0 0) (zm_fl X) w q a b) = zm_fl X := zm_fl_eq ek
  have ek3 : (zm_make (wx_u X 136 0 0) (zm_fl X) w q a b) 136 13 = X 136 13 := by rw [zm_make_oth _ _ _ _ _ _ (by decide) (by decide) (by decide) (by decide) (by decide) (by omega), e13]
  refine cw_aload_n C dd_Mo_forge_0 rfl ?_
  refine cw_iconst (v := nI 0) C dd_Mo_forge_1 (by decide +kernel) ?_
  refine nw_puti C wc_34 kF_Mo_105 is_34 (by decide) rfl rfl rfl rfl dd_Mo_forge_2 ?_
  refine cw_aload_n C dd_Mo_forge_5 rfl ?_
  refine cw_callV (As := []) C kV_Mo_203 wc_34 is_34 dd_Mo_forge_6 rfl rfl (Nat.le_of_ble_eq_true rfl) ⟨(Nat.le_of_ble_eq_true rfl), (Nat.le_of_ble_eq_true rfl)⟩ ⟨(Nat.le_of_ble_eq_true rfl), (Nat.le_of_ble_eq_true rfl)⟩ (mm_Mo_faulty (wx_u X 136 0 0) hz) (nw_ki ?_)
  rw [ef]
  refine nw_if_lt (tgt := 65) C dd_Mo_forge_9 (by decide) (by first | omega | (simp [wx_u] <;> omega)) (fun h9 => ?_) (fun h9 => ?_)
  · refine cw_iconst (v := nI 4294967295) C dd_Mo_forge_65 (by decide +kernel) ?_
    exact cw_ireturn C dd_Mo_forge_66 (Nat.le_of_ble_eq_true rfl) (Nat.le_of_ble_eq_true rfl) ⟨_, rfl, rfl, ⟨by rw [if_neg (by omega)], by rw [if_neg (by omega)]⟩⟩
  · refine cw_iload_n C dd_Mo_forge_12 rfl ?_
    refine cw_iconst (v := nI 1) C dd_Mo_forge_13 (by decide +kernel) ?_
    refine cw_bipush (v := nI 14) C dd_Mo_forge_14 (by decide +kernel) ?_
    refine cw_callS (As := [_, _, _]) C kS_Mo_186 dd_Mo_forge_16 rfl rfl (Nat.le_of_ble_eq_true rfl) ⟨(Nat.le_of_ble_eq_true rfl), (Nat.le_of_ble_eq_true rfl)⟩ ⟨(Nat.le_of_ble_eq_true rfl), (Nat.le_of_ble_eq_true rfl)⟩ (mm_Mo_in _ w 1 _ 15 (by omega) (by decide) (by omega) rfl) (nw_ki ?_)
    refine nw_zeq (tgt := 65) C dd_Mo_forge_19 (by decide) (fun h19 => ?_) (fun h19 => ?_)
    · refine cw_iconst (v := nI 4294967295) C dd_Mo_forge_65 (by decide +kernel) ?_
      exact cw_ireturn C dd_Mo_forge_66 (Nat.le_of_ble_eq_true rfl) (Nat.le_of_ble_eq_true rfl) ⟨_, rfl, rfl, ⟨by rw [if_neg (by omega)], by rw [if_neg (by omega)]⟩⟩
    · refine cw_iload_n C dd_Mo_forge_22 rfl ?_
      refine cw_iconst (v := nI 0) C dd_Mo_forge_23 (by decide +kernel) ?_
      refine cw_bipush (v := nI 15) C dd_Mo_forge_24 (by decide +kernel) ?_
      refine cw_callS (As := [_, _, _]) C kS_Mo_186 dd_Mo_forge_26 rfl rfl (Nat.le_of_ble_eq_true rfl) ⟨(Nat.le_of_ble_eq_true rfl), (Nat.le_of_ble_eq_true rfl)⟩ ⟨(Nat.le_of_ble_eq_true rfl), (Nat.le_of_ble_eq_true rfl)⟩ (mm_Mo_in _ q 0 _ 16 (by omega) (by decide) (by omega) rfl) (nw_ki ?_)
      refine nw_zeq (tgt := 65) C dd_Mo_forge_29 (by decide) (fun h29 => ?_) (fun h29 => ?_)
      · refine cw_iconst (v := nI 4294967295) C dd_Mo_forge_65 (by decide +kernel) ?_
        exact cw_ireturn C dd_Mo_forge_66 (Nat.le_of_ble_eq_true rfl) (Nat.le_of_ble_eq_true rfl) ⟨_, rfl, rfl, ⟨by rw [if_neg (by omega)], by rw [if_neg (by omega)]⟩⟩
      · refine cw_aload_n C dd_Mo_forge_32 rfl ?_
        refine cw_iload_n C dd_Mo_forge_33 rfl ?_
        refine cw_callV (As := [_]) C kV_Mo_211 wc_34 is_34 dd_Mo_forge_34 rfl rfl (Nat.le_of_ble_eq_true rfl) ⟨(Nat.le_of_ble_eq_true rfl), (Nat.le_of_ble_eq_true rfl)⟩ ⟨(Nat.le_of_ble_eq_true rfl), (Nat.le_of_ble_eq_true rfl)⟩ (mm_Mo_isTransfer (wx_u X 136 0 0) a ha (by rw [e1]; exact hnn)) (nw_ki ?_)
        rw [e1]
        refine nw_zeq (tgt := 65) C dd_Mo_forge_37 (by decide) (fun h37 => ?_) (fun h37 => ?_)
        · refine cw_iconst (v := nI 4294967295) C dd_Mo_forge_65 (by decide +kernel) ?_
          exact cw_ireturn C dd_Mo_forge_66 (Nat.le_of_ble_eq_true rfl) (Nat.le_of_ble_eq_true rfl) ⟨_, rfl, rfl, ⟨by rw [if_neg (by omega)], by rw [if_neg (by omega)]⟩⟩
        · refine cw_aload_n C dd_Mo_forge_40 rfl ?_
          refine cw_iload C dd_Mo_forge_41 rfl ?_
          refine cw_callV (As := [_]) C kV_Mo_211 wc_34 is_34 dd_Mo_forge_43 rfl rfl (Nat.le_of_ble_eq_true rfl) ⟨(Nat.le_of_ble_eq_true rfl), (Nat.le_of_ble_eq_true rfl)⟩ ⟨(Nat.le_of_ble_eq_true rfl), (Nat.le_of_ble_eq_true rfl)⟩ (mm_Mo_isTransfer (wx_u X 136 0 0) b hb (by rw [e1]; exact hnn)) (nw_ki ?_)
          rw [e1]
          refine nw_zeq (tgt := 65) C dd_Mo_forge_46 (by decide) (fun h46 => ?_) (fun h46 => ?_)
          · refine cw_iconst (v := nI 4294967295) C dd_Mo_forge_65 (by decide +kernel) ?_
            exact cw_ireturn C dd_Mo_forge_66 (Nat.le_of_ble_eq_true rfl) (Nat.le_of_ble_eq_true rfl) ⟨_, rfl, rfl, ⟨by rw [if_neg (by omega)], by rw [if_neg (by omega)]⟩⟩
          · refine cw_aload_n C dd_Mo_forge_49 rfl ?_
            refine nw_getiv C (X 136 7) wc_34 kF_Mo_153 is_34 (by decide) rfl dd_Mo_forge_50 (by repeat (first | rfl | rw [wx_u_eq] | rw [wx_u_nc (by omega)] | rw [wx_u_nk (by omega)])) ?_
            refine cw_bipush (v := nI 90) C dd_Mo_forge_53 (by decide +kernel) ?_
            refine nw_icmp_eq (tgt := 65) C dd_Mo_forge_55 (by decide) (by first | omega | (simp [wx_u] <;> omega)) (by first | omega | (simp [wx_u] <;> omega)) (fun h55 => ?_) (fun h55 => ?_)
            · refine cw_iconst (v := nI 4294967295) C dd_Mo_forge_65 (by decide +kernel) ?_
              exact cw_ireturn C dd_Mo_forge_66 (Nat.le_of_ble_eq_true rfl) (Nat.le_of_ble_eq_true rfl) ⟨_, rfl, rfl, ⟨by rw [if_neg (by omega)], by rw [if_neg (by omega)]⟩⟩
            · refine cw_aload_n C dd_Mo_forge_58 rfl ?_
              refine cw_callV (As := []) C kV_Mo_196 wc_34 is_34 dd_Mo_forge_59 rfl rfl (Nat.le_of_ble_eq_true rfl) ⟨(Nat.le_of_ble_eq_true rfl), (Nat.le_of_ble_eq_true rfl)⟩ ⟨(Nat.le_of_ble_eq_true rfl), (Nat.le_of_ble_eq_true rfl)⟩ (mm_Mo_full (wx_u X 136 0 0) (by rw [e13]; omega)) (nw_ki ?_)
              rw [e13]
              refine nw_zeq (tgt := 67) C dd_Mo_forge_62 (by decide) (fun h62 => ?_) (fun h62 => ?_)
              · have hg : zm_fgC X w q a b := ⟨by omega, by omega, by omega, by omega, by omega, by omega, by omega, by omega⟩
                refine cw_aload_n C dd_Mo_forge_67 rfl ?_
                refine cw_aload_n C dd_Mo_forge_68 rfl ?_
                refine cw_callV (As := []) C kV_Mo_203 wc_34 is_34 dd_Mo_forge_69 rfl rfl (Nat.le_of_ble_eq_true rfl) ⟨(Nat.le_of_ble_eq_true rfl), (Nat.le_of_ble_eq_true rfl)⟩ ⟨(Nat.le_of_ble_eq_true rfl), (Nat.le_of_ble_eq_true rfl)⟩ (mm_Mo_faulty (wx_u X 136 0 0) hz) (nw_ki ?_)
                rw [ef]
                refine cw_iload_n C dd_Mo_forge_72 rfl ?_
                refine cw_iload_n C dd_Mo_forge_73 rfl ?_
                refine cw_iload_n C dd_Mo_forge_74 rfl ?_
                refine cw_iload C dd_Mo_forge_75 rfl ?_
                refine cw_callV (As := [_, _, _, _, _]) C kV_Mo_182 wc_34 is_34 dd_Mo_forge_77 rfl rfl (Nat.le_of_ble_eq_true rfl) ⟨(Nat.le_of_ble_eq_true rfl), (Nat.le_of_ble_eq_true rfl)⟩ ⟨(Nat.le_of_ble_eq_true rfl), (Nat.le_of_ble_eq_true rfl)⟩ (mm_Mo_make (wx_u X 136 0 0) (zm_fl X) w q a b (by rw [e7]; omega)) (nw_ki ?_)
                rw [e7]
                refine cw_istore C dd_Mo_forge_80 (Nat.le_of_ble_eq_true rfl) ?_
                refine cw_aload_n C dd_Mo_forge_82 rfl ?_
                refine cw_aload_n C dd_Mo_forge_83 rfl ?_
                refine cw_callV (As := []) C kV_Mo_203 wc_34 is_34 dd_Mo_forge_84 rfl rfl (Nat.le_of_ble_eq_true rfl) ⟨(Nat.le_of_ble_eq_true rfl), (Nat.le_of_ble_eq_true rfl)⟩ ⟨(Nat.le_of_ble_eq_true rfl), (Nat.le_of_ble_eq_true rfl)⟩ (mm_Mo_faulty (zm_make (wx_u X 136 0 0) (zm_fl X) w q a b) (fun i hi => by rw [ek i]; exact hst i hi)) (nw_ki ?_)
                rw [ek2]
                refine cw_iload C dd_Mo_forge_87 rfl ?_
                refine cw_iconst (v := nI 0) C dd_Mo_forge_89 (by decide +kernel) ?_
                refine cw_callV (As := [_, _, _]) C kV_Mo_130 wc_34 is_34 dd_Mo_forge_90 rfl rfl (Nat.le_of_ble_eq_true rfl) ⟨(Nat.le_of_ble_eq_true rfl), (Nat.le_of_ble_eq_true rfl)⟩ ⟨(Nat.le_of_ble_eq_true rfl), (Nat.le_of_ble_eq_true rfl)⟩ (mm_Mo_say (zm_make (wx_u X 136 0 0) (zm_fl X) w q a b) _ _ _ (by rw [ek3]; omega)) (nw_ki ?_)
                refine cw_pop C dd_Mo_forge_93 rfl ?_
                refine cw_iload C dd_Mo_forge_94 rfl ?_
                exact cw_ireturn C dd_Mo_forge_96 (Nat.le_of_ble_eq_true rfl) (Nat.le_of_ble_eq_true rfl) ⟨_, rfl, rfl, ⟨by rw [if_pos hg], by rw [if_pos hg, zm_forge, ef, e7]⟩⟩
              · refine cw_iconst (v := nI 4294967295) C dd_Mo_forge_65 (by decide +kernel) ?_
                exact cw_ireturn C dd_Mo_forge_66 (Nat.le_of_ble_eq_true rfl) (Nat.le_of_ble_eq_true rfl) ⟨_, rfl, rfl, ⟨by rw [if_neg (by omega)], by rw [if_neg (by omega)]⟩⟩
abbrev zm_sdC (X : wx_S) (k u : Nat) : Prop := zm_fl X ≠ 4294967295 ∧ k ≤ 2 ∧ u < X 136 7 ∧ X 136 13 < 800
set_option maxRecDepth 100000 in
set_option maxHeartbeats 4000000 in
theorem mm_Mo_send (X : wx_S) (k u : Nat) (hk : k < 4294967296) (hu : u < 4294967296) (hst : ∀ i, i < 4 → X 192 i < 4294967296) (hmm : X 136 13 ≤ 802) (hv : X 136 7 ≤ 90) : nw_M wd_all yy_Mo_send cc_Mo_send 3 (some .int) 3 0 0 [.ref 136, .int (nI k), .int (nI u)] X (fun v X' => v = some (.int (nI (if zm_sdC X k u then X 136 13 else 4294967295))) ∧ X' = if zm_sdC X k u then zm_say (wx_u X 136 0 0) (zm_fl X) u k else (wx_u X 136 0 0)) := by
  refine nw_of [some (.ref 136), some (.int (nI k)), some (.int (nI u))] (by decide +kernel) rfl (Nat.le_of_ble_eq_true rfl) rfl ?_
  intro p l e s m args below meth c A g C
  have e13 : wx_u X 136 0 0 136 13 = X 136 13 := wx_u_nk (by decide)
  have e7 : wx_u X 136 0 0 136 7 = X 136 7 := wx_u_nk (by decide)
  have e1 : wx_u X 136 0 0 136 1 = X 136 1 := wx_u_nk (by decide)
  have ef : zm_fl (wx_u X 136 0 0) = zm_fl X := zm_fl_eq (fun k => wx_u_nc (by decide))
  have gf := zm_fl_lt X
  have hz : ∀ i, i < 4 → wx_u X 136 0 0 192 i < 4294967296 := fun i hi => by rw [wx_u_nc (by decide)]; exact hst i hi
  refine cw_aload_n C dd_Mo_send_0 rfl ?_
  refine cw_iconst (v := nI 0) C dd_Mo_send_1 (by decide +kernel) ?_
  refine nw_puti C wc_34 kF_Mo_105 is_34 (by decide) rfl rfl rfl rfl dd_Mo_send_2 ?_
  refine cw_aload_n C dd_Mo_send_5 rfl ?_
  refine cw_callV (As := []) C kV_Mo_203 wc_34 is_34 dd_Mo_send_6 rfl rfl (Nat.le_of_ble_eq_true rfl) ⟨(Nat.le_of_ble_eq_true rfl), (Nat.le_of_ble_eq_true rfl)⟩ ⟨(Nat.le_of_ble_eq_true rfl), (Nat.le_of_ble_eq_true rfl)⟩ (mm_Mo_faulty (wx_u X 136 0 0) hz) (nw_ki ?_)
  rw [ef]
  refine nw_if_lt (tgt := 42) C dd_Mo_send_9 (by decide) (by first | omega | (simp [wx_u] <;> omega)) (fun h9 => ?_) (fun h9 => ?_)
  · refine cw_iconst (v := nI 4294967295) C dd_Mo_send_42 (by decide +kernel) ?_
    refine cw_goto (tgt := 56) C dd_Mo_send_43 (by decide) ?_
    exact cw_ireturn C dd_Mo_send_56 (Nat.le_of_ble_eq_true rfl) (Nat.le_of_ble_eq_true rfl) ⟨_, rfl, rfl, ⟨by rw [if_neg (by omega)], by rw [if_neg (by omega)]⟩⟩
  · refine cw_iload_n C dd_Mo_send_12 rfl ?_
    refine cw_iconst (v := nI 0) C dd_Mo_send_13 (by decide +kernel) ?_
    refine cw_iconst (v := nI 2) C dd_Mo_send_14 (by decide +kernel) ?_
    refine cw_callS (As := [_, _, _]) C kS_Mo_186 dd_Mo_send_15 rfl rfl (Nat.le_of_ble_eq_true rfl) ⟨(Nat.le_of_ble_eq_true rfl), (Nat.le_of_ble_eq_true rfl)⟩ ⟨(Nat.le_of_ble_eq_true rfl), (Nat.le_of_ble_eq_true rfl)⟩ (mm_Mo_in _ k 0 _ 3 (by omega) (by decide) (by omega) rfl) (nw_ki ?_)
    refine nw_zeq (tgt := 42) C dd_Mo_send_18 (by decide) (fun h18 => ?_) (fun h18 => ?_)
    · refine cw_iconst (v := nI 4294967295) C dd_Mo_send_42 (by decide +kernel) ?_
      refine cw_goto (tgt := 56) C dd_Mo_send_43 (by decide) ?_
      exact cw_ireturn C dd_Mo_send_56 (Nat.le_of_ble_eq_true rfl) (Nat.le_of_ble_eq_true rfl) ⟨_, rfl, rfl, ⟨by rw [if_neg (by omega)], by rw [if_neg (by omega)]⟩⟩
    · refine cw_iload_n C dd_Mo_send_21 rfl ?_
      refine cw_iconst (v := nI 0) C dd_Mo_send_22 (by decide +kernel) ?_
      refine cw_aload_n C dd_Mo_send_23 rfl ?_
      refine nw_getiv C (X 136 7) wc_34 kF_Mo_153 is_34 (by decide) rfl dd_Mo_send_24 (by repeat (first | rfl | rw [wx_u_eq] | rw [wx_u_nc (by omega)] | rw [wx_u_nk (by omega)])) ?_
      refine cw_iconst (v := nI 1) C dd_Mo_send_27 (by decide +kernel) ?_
      refine nw_idec C dd_Mo_send_28 ?_
      refine cw_callS (As := [_, _, _]) C kS_Mo_186 dd_Mo_send_29 rfl rfl (Nat.le_of_ble_eq_true rfl) ⟨(Nat.le_of_ble_eq_true rfl), (Nat.le_of_ble_eq_true rfl)⟩ ⟨(Nat.le_of_ble_eq_true rfl), (Nat.le_of_ble_eq_true rfl)⟩ (mm_Mo_in _ u 0 _ (X 136 7) (by omega) (by decide) (by omega) rfl) (nw_ki ?_)
      refine nw_zeq (tgt := 42) C dd_Mo_send_32 (by decide) (fun h32 => ?_) (fun h32 => ?_)
      · refine cw_iconst (v := nI 4294967295) C dd_Mo_send_42 (by decide +kernel) ?_
        refine cw_goto (tgt := 56) C dd_Mo_send_43 (by decide) ?_
        exact cw_ireturn C dd_Mo_send_56 (Nat.le_of_ble_eq_true rfl) (Nat.le_of_ble_eq_true rfl) ⟨_, rfl, rfl, ⟨by rw [if_neg (by omega)], by rw [if_neg (by omega)]⟩⟩
      · refine cw_aload_n C dd_Mo_send_35 rfl ?_
        refine cw_callV (As := []) C kV_Mo_196 wc_34 is_34 dd_Mo_send_36 rfl rfl (Nat.le_of_ble_eq_true rfl) ⟨(Nat.le_of_ble_eq_true rfl), (Nat.le_of_ble_eq_true rfl)⟩ ⟨(Nat.le_of_ble_eq_true rfl), (Nat.le_of_ble_eq_true rfl)⟩ (mm_Mo_full (wx_u X 136 0 0) (by rw [e13]; omega)) (nw_ki ?_)
        rw [e13]
        refine nw_zeq (tgt := 46) C dd_Mo_send_39 (by decide) (fun h39 => ?_) (fun h39 => ?_)
        · refine cw_aload_n C dd_Mo_send_46 rfl ?_
          refine cw_aload_n C dd_Mo_send_47 rfl ?_
          have hg : zm_sdC X k u := ⟨by omega, by omega, by omega, by omega⟩
          refine cw_callV (As := []) C kV_Mo_203 wc_34 is_34 dd_Mo_send_48 rfl rfl (Nat.le_of_ble_eq_true rfl) ⟨(Nat.le_of_ble_eq_true rfl), (Nat.le_of_ble_eq_true rfl)⟩ ⟨(Nat.le_of_ble_eq_true rfl), (Nat.le_of_ble_eq_true rfl)⟩ (mm_Mo_faulty (wx_u X 136 0 0) hz) (nw_ki ?_)
          rw [ef]
          refine cw_iload_n C dd_Mo_send_51 rfl ?_
          refine cw_iload_n C dd_Mo_send_52 rfl ?_
          refine cw_callV (As := [_, _, _]) C kV_Mo_130 wc_34 is_34 dd_Mo_send_53 rfl rfl (Nat.le_of_ble_eq_true rfl) ⟨(Nat.le_of_ble_eq_true rfl), (Nat.le_of_ble_eq_true rfl)⟩ ⟨(Nat.le_of_ble_eq_true rfl), (Nat.le_of_ble_eq_true rfl)⟩ (mm_Mo_say (wx_u X 136 0 0) _ _ _ (by rw [e13]; omega)) (nw_ki ?_)
          rw [e13]
          exact cw_ireturn C dd_Mo_send_56 (Nat.le_of_ble_eq_true rfl) (Nat.le_of_ble_eq_true rfl) ⟨_, rfl, rfl, ⟨by rw [if_pos hg], (if_pos hg).symm⟩⟩
        · refine cw_iconst (v := nI 4294967295) C dd_Mo_send_42 (by decide +kernel) ?_
          refine cw_goto (tgt := 56) C dd_Mo_send_43 (by decide) ?_
          exact cw_ireturn C dd_Mo_send_56 (Nat.le_of_ble_eq_true rfl) (Nat.le_of_ble_eq_true rfl) ⟨_, rfl, rfl, ⟨by rw [if_neg (by omega)], by rw [if_neg (by omega)]⟩⟩
def zm_msg (X : wx_S) (k q : Nat) : Nat := if k < X 136 13 ∧ q ≤ 2 then (if q = 0 then X 188 k else if q = 1 then X 180 k else X 184 k) else 4294967295
def zm_vtx (X : wx_S) (k q : Nat) : Nat := if k < X 136 7 ∧ q ≤ 4 then (if q = 0 then X 160 k else if q = 1 then X 164 k else if q = 2 then X 168 k else if q = 3 then X 172 k else X 176 k) else 4294967295
set_option maxRecDepth 100000 in
set_option maxHeartbeats 4000000 in
theorem mm_Mo_message (X : wx_S) (k q : Nat) (hk : k < 4294967296) (hq : q < 4294967296) (hmm : X 136 13 ≤ 802) : nw_M wd_all yy_Mo_message cc_Mo_message 3 (some .int) 2 0 0 [.ref 136, .int (nI k), .int (nI q)] X (fun v X' => v = some (.int (nI (zm_msg X k q))) ∧ X' = (wx_u X 136 0 0)) := by
  refine nw_of [some (.ref 136), some (.int (nI k)), some (.int (nI q))] (by decide +kernel) rfl (Nat.le_of_ble_eq_true rfl) rfl ?_
  intro p l e s m args below meth c A g C
  refine cw_aload_n C dd_Mo_message_0 rfl ?_
  refine cw_iconst (v := nI 0) C dd_Mo_message_1 (by decide +kernel) ?_
  refine nw_puti C wc_34 kF_Mo_105 is_34 (by decide) rfl rfl rfl rfl dd_Mo_message_2 ?_
  refine cw_iload_n C dd_Mo_message_5 rfl ?_
  refine cw_iconst (v := nI 0) C dd_Mo_message_6 (by decide +kernel) ?_
  refine cw_aload_n C dd_Mo_message_7 rfl ?_
  refine nw_getiv C (X 136 13) wc_34 kF_Mo_112 is_34 (by decide) rfl dd_Mo_message_8 (by repeat (first | rfl | rw [wx_u_eq] | rw [wx_u_nc (by omega)] | rw [wx_u_nk (by omega)])) ?_
  refine cw_iconst (v := nI 1) C dd_Mo_message_11 (by decide +kernel) ?_
  refine nw_idec C dd_Mo_message_12 ?_
  refine cw_callS (As := [_, _, _]) C kS_Mo_186 dd_Mo_message_13 rfl rfl (Nat.le_of_ble_eq_true rfl) ⟨(Nat.le_of_ble_eq_true rfl), (Nat.le_of_ble_eq_true rfl)⟩ ⟨(Nat.le_of_ble_eq_true rfl), (Nat.le_of_ble_eq_true rfl)⟩ (mm_Mo_in _ k 0 _ (X 136 13) (by omega) (by decide) (by omega) rfl) (nw_ki ?_)
  refine nw_zeq (tgt := 28) C dd_Mo_message_16 (by decide) (fun h16 => ?_) (fun h16 => ?_)
  · refine cw_iconst (v := nI 4294967295) C dd_Mo_message_28 (by decide +kernel) ?_
    refine cw_goto (tgt := 65) C dd_Mo_message_29 (by decide) ?_
    exact cw_ireturn C dd_Mo_message_65 (Nat.le_of_ble_eq_true rfl) (Nat.le_of_ble_eq_true rfl) ⟨_, rfl, rfl, ⟨by rw [zm_msg, if_neg (by omega)], rfl⟩⟩
  · refine cw_iload_n C dd_Mo_message_19 rfl ?_
    refine cw_iconst (v := nI 0) C dd_Mo_message_20 (by decide +kernel) ?_
    refine cw_iconst (v := nI 2) C dd_Mo_message_21 (by decide +kernel) ?_
    refine cw_callS (As := [_, _, _]) C kS_Mo_186 dd_Mo_message_22 rfl rfl (Nat.le_of_ble_eq_true rfl) ⟨(Nat.le_of_ble_eq_true rfl), (Nat.le_of_ble_eq_true rfl)⟩ ⟨(Nat.le_of_ble_eq_true rfl), (Nat.le_of_ble_eq_true rfl)⟩ (mm_Mo_in _ q 0 _ 3 (by omega) (by decide) (by omega) rfl) (nw_ki ?_)
    refine nw_zne (tgt := 32) C dd_Mo_message_25 (by decide) (fun h25 => ?_) (fun h25 => ?_)
    · refine cw_iload_n C dd_Mo_message_32 rfl ?_
      refine nw_if_ne (tgt := 45) C dd_Mo_message_33 (by decide) (by first | omega | (simp [wx_u] <;> omega)) (fun h33 => ?_) (fun h33 => ?_)
      · refine cw_iload_n C dd_Mo_message_45 rfl ?_
        refine cw_iconst (v := nI 1) C dd_Mo_message_46 (by decide +kernel) ?_
        refine nw_icmp_ne (tgt := 59) C dd_Mo_message_47 (by decide) (by first | omega | (simp [wx_u] <;> omega)) (by first | omega | (simp [wx_u] <;> omega)) (fun h47 => ?_) (fun h47 => ?_)
        · refine cw_aload_n C dd_Mo_message_59 rfl ?_
          refine cw_getr (q' := 184) C wc_34 kF_Mo_44 is_34 (by decide) rfl dd_Mo_message_60 rfl ?_
          refine cw_iload_n C dd_Mo_message_63 rfl ?_
          refine nw_ialdv C (X 184 k) is_46 (by first | omega | (simp [wx_u] <;> omega)) (by decide) dd_Mo_message_64 (by repeat (first | rfl | rw [wx_u_eq] | rw [wx_u_nc (by omega)] | rw [wx_u_nk (by omega)])) ?_
          exact cw_ireturn C dd_Mo_message_65 (Nat.le_of_ble_eq_true rfl) (Nat.le_of_ble_eq_true rfl) ⟨_, rfl, rfl, ⟨by rw [zm_msg, if_pos (by omega), if_neg h33, if_neg h47], rfl⟩⟩
        · refine cw_aload_n C dd_Mo_message_50 rfl ?_
          refine cw_getr (q' := 180) C wc_34 kF_Mo_41 is_34 (by decide) rfl dd_Mo_message_51 rfl ?_
          refine cw_iload_n C dd_Mo_message_54 rfl ?_
          refine nw_ialdv C (X 180 k) is_45 (by first | omega | (simp [wx_u] <;> omega)) (by decide) dd_Mo_message_55 (by repeat (first | rfl | rw [wx_u_eq] | rw [wx_u_nc (by omega)] | rw [wx_u_nk (by omega)])) ?_
          refine cw_goto (tgt := 65) C dd_Mo_message_56 (by decide) ?_
          exact cw_ireturn C dd_Mo_message_65 (Nat.le_of_ble_eq_true rfl) (Nat.le_of_ble_eq_true rfl) ⟨_, rfl, rfl, ⟨by rw [zm_msg, if_pos (by omega), if_neg h33, if_pos h47], rfl⟩⟩
      · refine cw_aload_n C dd_Mo_message_36 rfl ?_
        refine cw_getr (q' := 188) C wc_34 kF_Mo_47 is_34 (by decide) rfl dd_Mo_message_37 rfl ?_
        refine cw_iload_n C dd_Mo_message_40 rfl ?_
        refine nw_ialdv C (X 188 k) is_47 (by first | omega | (simp [wx_u] <;> omega)) (by decide) dd_Mo_message_41 (by repeat (first | rfl | rw [wx_u_eq] | rw [wx_u_nc (by omega)] | rw [wx_u_nk (by omega)])) ?_
        refine cw_goto (tgt := 65) C dd_Mo_message_42 (by decide) ?_
        exact cw_ireturn C dd_Mo_message_65 (Nat.le_of_ble_eq_true rfl) (Nat.le_of_ble_eq_true rfl) ⟨_, rfl, rfl, ⟨by rw [zm_msg, if_pos (by omega), if_pos h33], rfl⟩⟩
    · refine cw_iconst (v := nI 4294967295) C dd_Mo_message_28 (by decide +kernel) ?_
      refine cw_goto (tgt := 65) C dd_Mo_message_29 (by decide) ?_
      exact cw_ireturn C dd_Mo_message_65 (Nat.le_of_ble_eq_true rfl) (Nat.le_of_ble_eq_true rfl) ⟨_, rfl, rfl, ⟨by rw [zm_msg, if_neg (by omega)], rfl⟩⟩
set_option maxRecDepth 100000 in
set_option maxHeartbeats 4000000 in
theorem mm_Mo_vertex (X : wx_S) (k q : Nat) (hk : k < 4294967296) (hq : q < 4294967296) (hv : X 136 7 ≤ 90) : nw_M wd_all yy_Mo_vertex cc_Mo_vertex 3 (some .int) 2 0 0 [.ref 136, .int (nI k), .int (nI q)] X (fun v X' => v = some (.int (nI (zm_vtx X k q))) ∧ X' = (wx_u X 136 0 0)) := by
  refine nw_of [some (.ref 136), some (.int (nI k)), some (.int (nI q))] (by decide +kernel) rfl (Nat.le_of_ble_eq_true rfl) rfl ?_
  intro p l e s m args below meth c A g C
  refine cw_aload_n C dd_Mo_vertex_0 rfl ?_
  refine cw_iconst (v := nI 0) C dd_Mo_vertex_1 (by decide +kernel) ?_
  refine nw_puti C wc_34 kF_Mo_105 is_34 (by decide) rfl rfl rfl rfl dd_Mo_vertex_2 ?_
  refine cw_iload_n C dd_Mo_vertex_5 rfl ?_
  refine cw_iconst (v := nI 0) C dd_Mo_vertex_6 (by decide +kernel) ?_
  refine cw_aload_n C dd_Mo_vertex_7 rfl ?_
  refine nw_getiv C (X 136 7) wc_34 kF_Mo_153 is_34 (by decide) rfl dd_Mo_vertex_8 (by repeat (first | rfl | rw [wx_u_eq] | rw [wx_u_nc (by omega)] | rw [wx_u_nk (by omega)])) ?_
  refine cw_iconst (v := nI 1) C dd_Mo_vertex_11 (by decide +kernel) ?_
  refine nw_idec C dd_Mo_vertex_12 ?_
  refine cw_callS (As := [_, _, _]) C kS_Mo_186 dd_Mo_vertex_13 rfl rfl (Nat.le_of_ble_eq_true rfl) ⟨(Nat.le_of_ble_eq_true rfl), (Nat.le_of_ble_eq_true rfl)⟩ ⟨(Nat.le_of_ble_eq_true rfl), (Nat.le_of_ble_eq_true rfl)⟩ (mm_Mo_in _ k 0 _ (X 136 7) (by omega) (by decide) (by omega) rfl) (nw_ki ?_)
  refine nw_zeq (tgt := 28) C dd_Mo_vertex_16 (by decide) (fun h16 => ?_) (fun h16 => ?_)
  · refine cw_iconst (v := nI 4294967295) C dd_Mo_vertex_28 (by decide +kernel) ?_
    exact cw_ireturn C dd_Mo_vertex_29 (Nat.le_of_ble_eq_true rfl) (Nat.le_of_ble_eq_true rfl) ⟨_, rfl, rfl, ⟨by rw [zm_vtx, if_neg (by omega)], rfl⟩⟩
  · refine cw_iload_n C dd_Mo_vertex_19 rfl ?_
    refine cw_iconst (v := nI 0) C dd_Mo_vertex_20 (by decide +kernel) ?_
    refine cw_iconst (v := nI 4) C dd_Mo_vertex_21 (by decide +kernel) ?_
    refine cw_callS (As := [_, _, _]) C kS_Mo_186 dd_Mo_vertex_22 rfl rfl (Nat.le_of_ble_eq_true rfl) ⟨(Nat.le_of_ble_eq_true rfl), (Nat.le_of_ble_eq_true rfl)⟩ ⟨(Nat.le_of_ble_eq_true rfl), (Nat.le_of_ble_eq_true rfl)⟩ (mm_Mo_in _ q 0 _ 5 (by omega) (by decide) (by omega) rfl) (nw_ki ?_)
    refine nw_zne (tgt := 30) C dd_Mo_vertex_25 (by decide) (fun h25 => ?_) (fun h25 => ?_)
    · refine cw_iload_n C dd_Mo_vertex_30 rfl ?_
      refine nw_if_ne (tgt := 43) C dd_Mo_vertex_31 (by decide) (by first | omega | (simp [wx_u] <;> omega)) (fun h31 => ?_) (fun h31 => ?_)
      · refine cw_iload_n C dd_Mo_vertex_43 rfl ?_
        refine cw_iconst (v := nI 1) C dd_Mo_vertex_44 (by decide +kernel) ?_
        refine nw_icmp_ne (tgt := 57) C dd_Mo_vertex_45 (by decide) (by first | omega | (simp [wx_u] <;> omega)) (by first | omega | (simp [wx_u] <;> omega)) (fun h45 => ?_) (fun h45 => ?_)
        · refine cw_iload_n C dd_Mo_vertex_57 rfl ?_
          refine cw_iconst (v := nI 2) C dd_Mo_vertex_58 (by decide +kernel) ?_
          refine nw_icmp_ne (tgt := 71) C dd_Mo_vertex_59 (by decide) (by first | omega | (simp [wx_u] <;> omega)) (by first | omega | (simp [wx_u] <;> omega)) (fun h59 => ?_) (fun h59 => ?_)
          · refine cw_iload_n C dd_Mo_vertex_71 rfl ?_
            refine cw_iconst (v := nI 3) C dd_Mo_vertex_72 (by decide +kernel) ?_
            refine nw_icmp_ne (tgt := 85) C dd_Mo_vertex_73 (by decide) (by first | omega | (simp [wx_u] <;> omega)) (by first | omega | (simp [wx_u] <;> omega)) (fun h73 => ?_) (fun h73 => ?_)
            · refine cw_aload_n C dd_Mo_vertex_85 rfl ?_
              refine cw_getr (q' := 176) C wc_34 kF_Mo_38 is_34 (by decide) rfl dd_Mo_vertex_86 rfl ?_
              refine cw_iload_n C dd_Mo_vertex_89 rfl ?_
              refine nw_ialdv C (X 176 k) is_44 (by first | omega | (simp [wx_u] <;> omega)) (by decide) dd_Mo_vertex_90 (by repeat (first | rfl | rw [wx_u_eq] | rw [wx_u_nc (by omega)] | rw [wx_u_nk (by omega)])) ?_
              exact cw_ireturn C dd_Mo_vertex_91 (Nat.le_of_ble_eq_true rfl) (Nat.le_of_ble_eq_true rfl) ⟨_, rfl, rfl, ⟨by rw [zm_vtx, if_pos (by omega), if_neg h31, if_neg h45, if_neg h59, if_neg h73], rfl⟩⟩
            · refine cw_aload_n C dd_Mo_vertex_76 rfl ?_
              refine cw_getr (q' := 172) C wc_34 kF_Mo_35 is_34 (by decide) rfl dd_Mo_vertex_77 rfl ?_
              refine cw_iload_n C dd_Mo_vertex_80 rfl ?_
              refine nw_ialdv C (X 172 k) is_43 (by first | omega | (simp [wx_u] <;> omega)) (by decide) dd_Mo_vertex_81 (by repeat (first | rfl | rw [wx_u_eq] | rw [wx_u_nc (by omega)] | rw [wx_u_nk (by omega)])) ?_
              refine cw_goto (tgt := 91) C dd_Mo_vertex_82 (by decide) ?_
              exact cw_ireturn C dd_Mo_vertex_91 (Nat.le_of_ble_eq_true rfl) (Nat.le_of_ble_eq_true rfl) ⟨_, rfl, rfl, ⟨by rw [zm_vtx, if_pos (by omega), if_neg h31, if_neg h45, if_neg h59, if_pos h73], rfl⟩⟩
          · refine cw_aload_n C dd_Mo_vertex_62 rfl ?_
            refine cw_getr (q' := 168) C wc_34 kF_Mo_32 is_34 (by decide) rfl dd_Mo_vertex_63 rfl ?_
            refine cw_iload_n C dd_Mo_vertex_66 rfl ?_
            refine nw_ialdv C (X 168 k) is_42 (by first | omega | (simp [wx_u] <;> omega)) (by decide) dd_Mo_vertex_67 (by repeat (first | rfl | rw [wx_u_eq] | rw [wx_u_nc (by omega)] | rw [wx_u_nk (by omega)])) ?_
            refine cw_goto (tgt := 91) C dd_Mo_vertex_68 (by decide) ?_
            exact cw_ireturn C dd_Mo_vertex_91 (Nat.le_of_ble_eq_true rfl) (Nat.le_of_ble_eq_true rfl) ⟨_, rfl, rfl, ⟨by rw [zm_vtx, if_pos (by omega), if_neg h31, if_neg h45, if_pos h59], rfl⟩⟩
        · refine cw_aload_n C dd_Mo_vertex_48 rfl ?_
          refine cw_getr (q' := 164) C wc_34 kF_Mo_29 is_34 (by decide) rfl dd_Mo_vertex_49 rfl ?_
          refine cw_iload_n C dd_Mo_vertex_52 rfl ?_
          refine nw_ialdv C (X 164 k) is_41 (by first | omega | (simp [wx_u] <;> omega)) (by decide) dd_Mo_vertex_53 (by repeat (first | rfl | rw [wx_u_eq] | rw [wx_u_nc (by omega)] | rw [wx_u_nk (by omega)])) ?_
          refine cw_goto (tgt := 91) C dd_Mo_vertex_54 (by decide) ?_
          exact cw_ireturn C dd_Mo_vertex_91 (Nat.le_of_ble_eq_true rfl) (Nat.le_of_ble_eq_true rfl) ⟨_, rfl, rfl, ⟨by rw [zm_vtx, if_pos (by omega), if_neg h31, if_pos h45], rfl⟩⟩
      · refine cw_aload_n C dd_Mo_vertex_34 rfl ?_
        refine cw_getr (q' := 160) C wc_34 kF_Mo_26 is_34 (by decide) rfl dd_Mo_vertex_35 rfl ?_
        refine cw_iload_n C dd_Mo_vertex_38 rfl ?_
        refine nw_ialdv C (X 160 k) is_40 (by first | omega | (simp [wx_u] <;> omega)) (by decide) dd_Mo_vertex_39 (by repeat (first | rfl | rw [wx_u_eq] | rw [wx_u_nc (by omega)] | rw [wx_u_nk (by omega)])) ?_
        refine cw_goto (tgt := 91) C dd_Mo_vertex_40 (by decide) ?_
        exact cw_ireturn C dd_Mo_vertex_91 (Nat.le_of_ble_eq_true rfl) (Nat.le_of_ble_eq_true rfl) ⟨_, rfl, rfl, ⟨by rw [zm_vtx, if_pos (by omega), if_pos h31], rfl⟩⟩
    · refine cw_iconst (v := nI 4294967295) C dd_Mo_vertex_28 (by decide +kernel) ?_
      exact cw_ireturn C dd_Mo_vertex_29 (Nat.le_of_ble_eq_true rfl) (Nat.le_of_ble_eq_true rfl) ⟨_, rfl, rfl, ⟨by rw [zm_vtx, if_neg (by omega)], rfl⟩⟩
set_option maxRecDepth 100000 in
set_option maxHeartbeats 4000000 in
theorem mm_Mo_dag_bad (X : wx_S) (n : Nat) (hn : n < 4294967296) (hb : 4 ≤ n) (a w : Nat) : nw_M wd_all yy_Mo_dag cc_Mo_dag 4 (some .int) 3 0 0 [.ref 136, .int (nI n), .int (nI a), .int (nI w)] X (fun v X' => v = some (.int (nI 4294967295)) ∧ X' = wx_u X 136 0 1) := by
  refine nw_of [some (.ref 136), some (.int (nI n)), some (.int (nI a)), some (.int (nI w))] (by decide +kernel) rfl (Nat.le_of_ble_eq_true rfl) rfl ?_
  intro p l e s m args below meth c A g C
  refine cw_aload_n C dd_Mo_dag_0 rfl ?_
  refine cw_iload_n C dd_Mo_dag_1 rfl ?_
  refine cw_callV (As := [_]) C kV_Mo_190 wc_34 is_34 dd_Mo_dag_2 rfl rfl (Nat.le_of_ble_eq_true rfl) ⟨(Nat.le_of_ble_eq_true rfl), (Nat.le_of_ble_eq_true rfl)⟩ ⟨(Nat.le_of_ble_eq_true rfl), (Nat.le_of_ble_eq_true rfl)⟩ (mm_Mo_isNode_bad X n hn hb) (nw_ki ?_)
  refine nw_if_eq (tgt := 27) C dd_Mo_dag_5 (by decide) (by decide) (fun h5 => ?_) (fun h5 => ?_)
  · refine cw_iconst (v := nI 4294967295) C dd_Mo_dag_27 (by decide +kernel) ?_
    refine cw_goto (tgt := 48) C dd_Mo_dag_28 (by decide) ?_
    exact cw_ireturn C dd_Mo_dag_48 (Nat.le_of_ble_eq_true rfl) (Nat.le_of_ble_eq_true rfl) ⟨_, rfl, rfl, ⟨rfl, rfl⟩⟩
  · exact absurd rfl h5
set_option maxRecDepth 100000 in
set_option maxHeartbeats 4000000 in
theorem mm_Mo_at_bad (X : wx_S) (n : Nat) (hn : n < 4294967296) (hb : 4 ≤ n) (k : Nat) : nw_M wd_all yy_Mo_at cc_Mo_at 3 (some .int) 3 0 0 [.ref 136, .int (nI n), .int (nI k)] X (fun v X' => v = some (.int (nI 4294967295)) ∧ X' = wx_u X 136 0 1) := by
  refine nw_of [some (.ref 136), some (.int (nI n)), some (.int (nI k))] (by decide +kernel) rfl (Nat.le_of_ble_eq_true rfl) rfl ?_
  intro p l e s m args below meth c A g C
  refine cw_aload_n C dd_Mo_at_0 rfl ?_
  refine cw_iload_n C dd_Mo_at_1 rfl ?_
  refine cw_callV (As := [_]) C kV_Mo_190 wc_34 is_34 dd_Mo_at_2 rfl rfl (Nat.le_of_ble_eq_true rfl) ⟨(Nat.le_of_ble_eq_true rfl), (Nat.le_of_ble_eq_true rfl)⟩ ⟨(Nat.le_of_ble_eq_true rfl), (Nat.le_of_ble_eq_true rfl)⟩ (mm_Mo_isNode_bad X n hn hb) (nw_ki ?_)
  refine nw_if_eq (tgt := 22) C dd_Mo_at_5 (by decide) (by decide) (fun h5 => ?_) (fun h5 => ?_)
  · refine cw_iconst (v := nI 4294967295) C dd_Mo_at_22 (by decide +kernel) ?_
    refine cw_goto (tgt := 37) C dd_Mo_at_23 (by decide) ?_
    exact cw_ireturn C dd_Mo_at_37 (Nat.le_of_ble_eq_true rfl) (Nat.le_of_ble_eq_true rfl) ⟨_, rfl, rfl, ⟨rfl, rfl⟩⟩
  · exact absurd rfl h5
set_option maxRecDepth 100000 in
set_option maxHeartbeats 4000000 in
theorem mm_Mo_balance_bad (X : wx_S) (n : Nat) (hn : n < 4294967296) (hb : 4 ≤ n) (k : Nat) : nw_M wd_all yy_Mo_balance cc_Mo_balance 3 (some .int) 3 0 0 [.ref 136, .int (nI n), .int (nI k)] X (fun v X' => v = some (.int (nI 4294967295)) ∧ X' = wx_u X 136 0 1) := by
  refine nw_of [some (.ref 136), some (.int (nI n)), some (.int (nI k))] (by decide +kernel) rfl (Nat.le_of_ble_eq_true rfl) rfl ?_
  intro p l e s m args below meth c A g C
  refine cw_aload_n C dd_Mo_balance_0 rfl ?_
  refine cw_iload_n C dd_Mo_balance_1 rfl ?_
  refine cw_callV (As := [_]) C kV_Mo_190 wc_34 is_34 dd_Mo_balance_2 rfl rfl (Nat.le_of_ble_eq_true rfl) ⟨(Nat.le_of_ble_eq_true rfl), (Nat.le_of_ble_eq_true rfl)⟩ ⟨(Nat.le_of_ble_eq_true rfl), (Nat.le_of_ble_eq_true rfl)⟩ (mm_Mo_isNode_bad X n hn hb) (nw_ki ?_)
  refine nw_if_eq (tgt := 17) C dd_Mo_balance_5 (by decide) (by decide) (fun h5 => ?_) (fun h5 => ?_)
  · refine cw_iconst (v := nI 4294967295) C dd_Mo_balance_17 (by decide +kernel) ?_
    exact cw_ireturn C dd_Mo_balance_18 (Nat.le_of_ble_eq_true rfl) (Nat.le_of_ble_eq_true rfl) ⟨_, rfl, rfl, ⟨rfl, rfl⟩⟩
  · exact absurd rfl h5
set_option maxRecDepth 100000 in
set_option maxHeartbeats 4000000 in
theorem mm_Mo_dag (X : wx_S) (r : Nat) (hr : r < 4) (a w : Nat) (ha : a < 4294967296) (hw : w < 4294967296) : nw_M wd_all yy_Mo_dag cc_Mo_dag 4 (some .int) 3 0 0 [.ref 136, .int (nI r), .int (nI a), .int (nI w)] X (fun v X' => v = some (.int (nI (if a < 4 ∧ 1 ≤ w ∧ w ≤ 14 then (if X 228 (60 * r + 4 * w + a) = 0 then 4294967295 else X 228 (60 * r + 4 * w + a) - 1) else 4294967295))) ∧ X' = (wx_u X 136 0 0)) := by
  refine nw_of [some (.ref 136), some (.int (nI r)), some (.int (nI a)), some (.int (nI w))] (by decide +kernel) rfl (Nat.le_of_ble_eq_true rfl) rfl ?_
  intro p l e s m args below meth c A g C
  refine cw_aload_n C dd_Mo_dag_0 rfl ?_
  refine cw_iload_n C dd_Mo_dag_1 rfl ?_
  refine cw_callV (As := [_]) C kV_Mo_190 wc_34 is_34 dd_Mo_dag_2 rfl rfl (Nat.le_of_ble_eq_true rfl) ⟨(Nat.le_of_ble_eq_true rfl), (Nat.le_of_ble_eq_true rfl)⟩ ⟨(Nat.le_of_ble_eq_true rfl), (Nat.le_of_ble_eq_true rfl)⟩ (mm_Mo_isNode X r hr) (nw_ki ?_)
  refine nw_if_eq (tgt := 27) C dd_Mo_dag_5 (by decide) (by decide) (fun h5 => ?_) (fun h5 => ?_)
  · exact absurd h5 (by decide)
  · refine cw_iload_n C dd_Mo_dag_8 rfl ?_
    refine cw_iconst (v := nI 0) C dd_Mo_dag_9 (by decide +kernel) ?_
    refine cw_iconst (v := nI 3) C dd_Mo_dag_10 (by decide +kernel) ?_
    refine cw_callS (As := [_, _, _]) C kS_Mo_186 dd_Mo_dag_11 rfl rfl (Nat.le_of_ble_eq_true rfl) ⟨(Nat.le_of_ble_eq_true rfl), (Nat.le_of_ble_eq_true rfl)⟩ ⟨(Nat.le_of_ble_eq_true rfl), (Nat.le_of_ble_eq_true rfl)⟩ (mm_Mo_in _ a 0 _ 4 (by omega) (by decide) (by omega) rfl) (nw_ki ?_)
    refine nw_zeq (tgt := 27) C dd_Mo_dag_14 (by decide) (fun h14 => ?_) (fun h14 => ?_)
    · refine cw_iconst (v := nI 4294967295) C dd_Mo_dag_27 (by decide +kernel) ?_
      refine cw_goto (tgt := 48) C dd_Mo_dag_28 (by decide) ?_
      exact cw_ireturn C dd_Mo_dag_48 (Nat.le_of_ble_eq_true rfl) (Nat.le_of_ble_eq_true rfl) ⟨_, rfl, rfl, ⟨by rw [if_neg (by omega)], rfl⟩⟩
    · refine cw_iload_n C dd_Mo_dag_17 rfl ?_
      refine cw_iconst (v := nI 1) C dd_Mo_dag_18 (by decide +kernel) ?_
      refine cw_bipush (v := nI 14) C dd_Mo_dag_19 (by decide +kernel) ?_
      refine cw_callS (As := [_, _, _]) C kS_Mo_186 dd_Mo_dag_21 rfl rfl (Nat.le_of_ble_eq_true rfl) ⟨(Nat.le_of_ble_eq_true rfl), (Nat.le_of_ble_eq_true rfl)⟩ ⟨(Nat.le_of_ble_eq_true rfl), (Nat.le_of_ble_eq_true rfl)⟩ (mm_Mo_in _ w 1 _ 15 (by omega) (by decide) (by omega) rfl) (nw_ki ?_)
      refine nw_zne (tgt := 31) C dd_Mo_dag_24 (by decide) (fun h24 => ?_) (fun h24 => ?_)
      · refine cw_aload_n C dd_Mo_dag_31 rfl ?_
        refine cw_getr (q' := 228) C wc_34 kF_Mo_77 is_34 (by decide) rfl dd_Mo_dag_32 rfl ?_
        refine cw_bipush (v := nI 60) C dd_Mo_dag_35 (by decide +kernel) ?_
        refine cw_iload_n C dd_Mo_dag_37 rfl ?_
        refine nw_imul C dd_Mo_dag_38 ?_
        refine cw_iconst (v := nI 4) C dd_Mo_dag_39 (by decide +kernel) ?_
        refine cw_iload_n C dd_Mo_dag_40 rfl ?_
        refine nw_imul C dd_Mo_dag_41 ?_
        refine nw_iadd C dd_Mo_dag_42 ?_
        refine cw_iload_n C dd_Mo_dag_43 rfl ?_
        refine nw_iadd C dd_Mo_dag_44 ?_
        refine nw_ialdv C (X 228 (((60 * r) + (4 * w)) + a)) is_57 (by first | omega | (simp [wx_u] <;> omega)) (by decide) dd_Mo_dag_45 (by repeat (first | rfl | rw [wx_u_eq] | rw [wx_u_nc (by omega)] | rw [wx_u_nk (by omega)])) ?_
        refine cw_iconst (v := nI 1) C dd_Mo_dag_46 (by decide +kernel) ?_
        refine nw_idec C dd_Mo_dag_47 ?_
        exact cw_ireturn C dd_Mo_dag_48 (Nat.le_of_ble_eq_true rfl) (Nat.le_of_ble_eq_true rfl) ⟨_, rfl, rfl, ⟨by rw [if_pos (show a < 4 ∧ 1 ≤ w ∧ w ≤ 14 by omega)], rfl⟩⟩
      · refine cw_iconst (v := nI 4294967295) C dd_Mo_dag_27 (by decide +kernel) ?_
        refine cw_goto (tgt := 48) C dd_Mo_dag_28 (by decide) ?_
        exact cw_ireturn C dd_Mo_dag_48 (Nat.le_of_ble_eq_true rfl) (Nat.le_of_ble_eq_true rfl) ⟨_, rfl, rfl, ⟨by rw [if_neg (by omega)], rfl⟩⟩
set_option maxRecDepth 100000 in
set_option maxHeartbeats 4000000 in
theorem mm_Mo_at (X : wx_S) (r : Nat) (hr : r < 4) (k : Nat) (hk : k < 4294967296) (hp : ∀ i, i < 4 → X 248 i ≤ 40) : nw_M wd_all yy_Mo_at cc_Mo_at 3 (some .int) 3 0 0 [.ref 136, .int (nI r), .int (nI k)] X (fun v X' => v = some (.int (nI (if k < X 248 r then X 244 (40 * r + k) else 4294967295))) ∧ X' = (wx_u X 136 0 0)) := by
  refine nw_of [some (.ref 136), some (.int (nI r)), some (.int (nI k))] (by decide +kernel) rfl (Nat.le_of_ble_eq_true rfl) rfl ?_
  intro p l e s m args below meth c A g C
  have g1 := hp r hr
  refine cw_aload_n C dd_Mo_at_0 rfl ?_
  refine cw_iload_n C dd_Mo_at_1 rfl ?_
  refine cw_callV (As := [_]) C kV_Mo_190 wc_34 is_34 dd_Mo_at_2 rfl rfl (Nat.le_of_ble_eq_true rfl) ⟨(Nat.le_of_ble_eq_true rfl), (Nat.le_of_ble_eq_true rfl)⟩ ⟨(Nat.le_of_ble_eq_true rfl), (Nat.le_of_ble_eq_true rfl)⟩ (mm_Mo_isNode X r hr) (nw_ki ?_)
  refine nw_if_eq (tgt := 22) C dd_Mo_at_5 (by decide) (by decide) (fun h5 => ?_) (fun h5 => ?_)
  · exact absurd h5 (by decide)
  · refine cw_iload_n C dd_Mo_at_8 rfl ?_
    refine nw_if_lt (tgt := 22) C dd_Mo_at_9 (by decide) (by first | omega | (simp [wx_u] <;> omega)) (fun h9 => ?_) (fun h9 => ?_)
    · refine cw_iconst (v := nI 4294967295) C dd_Mo_at_22 (by decide +kernel) ?_
      refine cw_goto (tgt := 37) C dd_Mo_at_23 (by decide) ?_
      exact cw_ireturn C dd_Mo_at_37 (Nat.le_of_ble_eq_true rfl) (Nat.le_of_ble_eq_true rfl) ⟨_, rfl, rfl, ⟨by rw [if_neg (by omega)], rfl⟩⟩
    · refine cw_iload_n C dd_Mo_at_12 rfl ?_
      refine cw_aload_n C dd_Mo_at_13 rfl ?_
      refine cw_getr (q' := 248) C wc_34 kF_Mo_92 is_34 (by decide) rfl dd_Mo_at_14 rfl ?_
      refine cw_iload_n C dd_Mo_at_17 rfl ?_
      refine nw_ialdv C (X 248 r) is_62 (by first | omega | (simp [wx_u] <;> omega)) (by decide) dd_Mo_at_18 (by repeat (first | rfl | rw [wx_u_eq] | rw [wx_u_nc (by omega)] | rw [wx_u_nk (by omega)])) ?_
      refine nw_icmp_lt (tgt := 26) C dd_Mo_at_19 (by decide) (by first | omega | (simp [wx_u] <;> omega)) (by first | omega | (simp [wx_u] <;> omega)) (fun h19 => ?_) (fun h19 => ?_)
      · refine cw_aload_n C dd_Mo_at_26 rfl ?_
        refine cw_getr (q' := 244) C wc_34 kF_Mo_89 is_34 (by decide) rfl dd_Mo_at_27 rfl ?_
        refine cw_bipush (v := nI 40) C dd_Mo_at_30 (by decide +kernel) ?_
        refine cw_iload_n C dd_Mo_at_32 rfl ?_
        refine nw_imul C dd_Mo_at_33 ?_
        refine cw_iload_n C dd_Mo_at_34 rfl ?_
        refine nw_iadd C dd_Mo_at_35 ?_
        refine nw_ialdv C (X 244 ((40 * r) + k)) is_61 (by first | omega | (simp [wx_u] <;> omega)) (by decide) dd_Mo_at_36 (by repeat (first | rfl | rw [wx_u_eq] | rw [wx_u_nc (by omega)] | rw [wx_u_nk (by omega)])) ?_
        exact cw_ireturn C dd_Mo_at_37 (Nat.le_of_ble_eq_true rfl) (Nat.le_of_ble_eq_true rfl) ⟨_, rfl, rfl, ⟨by rw [if_pos (by omega)], rfl⟩⟩
      · refine cw_iconst (v := nI 4294967295) C dd_Mo_at_22 (by decide +kernel) ?_
        refine cw_goto (tgt := 37) C dd_Mo_at_23 (by decide) ?_
        exact cw_ireturn C dd_Mo_at_37 (Nat.le_of_ble_eq_true rfl) (Nat.le_of_ble_eq_true rfl) ⟨_, rfl, rfl, ⟨by rw [if_neg (by omega)], rfl⟩⟩
set_option maxRecDepth 100000 in
set_option maxHeartbeats 4000000 in
theorem mm_Mo_balance (X : wx_S) (r : Nat) (hr : r < 4) (k : Nat) (hk : k < 4294967296) (hst : ∀ i, i < 4 → X 192 i < 4294967296) (hwd : X 136 34 < 4294967296) : nw_M wd_all yy_Mo_balance cc_Mo_balance 3 (some .int) 3 0 0 [.ref 136, .int (nI r), .int (nI k)] X (fun v X' => v = some (.int (nI (if k < 4 then (if X 192 r = 0 ∨ (X 192 r = 2 ∧ X 136 34 ≠ 0) then 0 else X 252 (4 * r + k)) else 4294967295))) ∧ X' = (wx_u X 136 0 0)) := by
  refine nw_of [some (.ref 136), some (.int (nI r)), some (.int (nI k))] (by decide +kernel) rfl (Nat.le_of_ble_eq_true rfl) rfl ?_
  intro p l e s m args below meth c A g C
  have g1 := hst r hr
  refine cw_aload_n C dd_Mo_balance_0 rfl ?_
  refine cw_iload_n C dd_Mo_balance_1 rfl ?_
  refine cw_callV (As := [_]) C kV_Mo_190 wc_34 is_34 dd_Mo_balance_2 rfl rfl (Nat.le_of_ble_eq_true rfl) ⟨(Nat.le_of_ble_eq_true rfl), (Nat.le_of_ble_eq_true rfl)⟩ ⟨(Nat.le_of_ble_eq_true rfl), (Nat.le_of_ble_eq_true rfl)⟩ (mm_Mo_isNode X r hr) (nw_ki ?_)
  refine nw_if_eq (tgt := 17) C dd_Mo_balance_5 (by decide) (by decide) (fun h5 => ?_) (fun h5 => ?_)
  · exact absurd h5 (by decide)
  · refine cw_iload_n C dd_Mo_balance_8 rfl ?_
    refine cw_iconst (v := nI 0) C dd_Mo_balance_9 (by decide +kernel) ?_
    refine cw_iconst (v := nI 3) C dd_Mo_balance_10 (by decide +kernel) ?_
    refine cw_callS (As := [_, _, _]) C kS_Mo_186 dd_Mo_balance_11 rfl rfl (Nat.le_of_ble_eq_true rfl) ⟨(Nat.le_of_ble_eq_true rfl), (Nat.le_of_ble_eq_true rfl)⟩ ⟨(Nat.le_of_ble_eq_true rfl), (Nat.le_of_ble_eq_true rfl)⟩ (mm_Mo_in _ k 0 _ 4 (by omega) (by decide) (by omega) rfl) (nw_ki ?_)
    refine nw_zne (tgt := 19) C dd_Mo_balance_14 (by decide) (fun h14 => ?_) (fun h14 => ?_)
    · refine cw_aload_n C dd_Mo_balance_19 rfl ?_
      refine cw_getr (q' := 192) C wc_34 kF_Mo_50 is_34 (by decide) rfl dd_Mo_balance_20 rfl ?_
      refine cw_iload_n C dd_Mo_balance_23 rfl ?_
      refine nw_ialdv C (X 192 r) is_48 (by first | omega | (simp [wx_u] <;> omega)) (by decide) dd_Mo_balance_24 (by repeat (first | rfl | rw [wx_u_eq] | rw [wx_u_nc (by omega)] | rw [wx_u_nk (by omega)])) ?_
      refine nw_if_eq (tgt := 45) C dd_Mo_balance_25 (by decide) (by first | omega | (simp [wx_u] <;> omega)) (fun h25 => ?_) (fun h25 => ?_)
      · refine cw_iconst (v := nI 0) C dd_Mo_balance_45 (by decide +kernel) ?_
        refine cw_goto (tgt := 59) C dd_Mo_balance_46 (by decide) ?_
        exact cw_ireturn C dd_Mo_balance_59 (Nat.le_of_ble_eq_true rfl) (Nat.le_of_ble_eq_true rfl) ⟨_, rfl, rfl, ⟨by rw [if_pos (by omega), if_pos (by omega)], rfl⟩⟩
      · refine cw_aload_n C dd_Mo_balance_28 rfl ?_
        refine cw_getr (q' := 192) C wc_34 kF_Mo_50 is_34 (by decide) rfl dd_Mo_balance_29 rfl ?_
        refine cw_iload_n C dd_Mo_balance_32 rfl ?_
        refine nw_ialdv C (X 192 r) is_48 (by first | omega | (simp [wx_u] <;> omega)) (by decide) dd_Mo_balance_33 (by repeat (first | rfl | rw [wx_u_eq] | rw [wx_u_nc (by omega)] | rw [wx_u_nk (by omega)])) ?_
        refine cw_iconst (v := nI 2) C dd_Mo_balance_34 (by decide +kernel) ?_
        refine nw_icmp_ne (tgt := 49) C dd_Mo_balance_35 (by decide) (by first | omega | (simp [wx_u] <;> omega)) (by first | omega | (simp [wx_u] <;> omega)) (fun h35 => ?_) (fun h35 => ?_)
        · refine cw_aload_n C dd_Mo_balance_49 rfl ?_
          refine cw_getr (q' := 252) C wc_34 kF_Mo_95 is_34 (by decide) rfl dd_Mo_balance_50 rfl ?_
          refine cw_iconst (v := nI 4) C dd_Mo_balance_53 (by decide +kernel) ?_
          refine cw_iload_n C dd_Mo_balance_54 rfl ?_
          refine nw_imul C dd_Mo_balance_55 ?_
          refine cw_iload_n C dd_Mo_balance_56 rfl ?_
          refine nw_iadd C dd_Mo_balance_57 ?_
          refine nw_ialdv C (X 252 ((4 * r) + k)) is_63 (by first | omega | (simp [wx_u] <;> omega)) (by decide) dd_Mo_balance_58 (by repeat (first | rfl | rw [wx_u_eq] | rw [wx_u_nc (by omega)] | rw [wx_u_nk (by omega)])) ?_
          exact cw_ireturn C dd_Mo_balance_59 (Nat.le_of_ble_eq_true rfl) (Nat.le_of_ble_eq_true rfl) ⟨_, rfl, rfl, ⟨by rw [if_pos (by omega), if_neg (by omega)], rfl⟩⟩
        · refine cw_aload_n C dd_Mo_balance_38 rfl ?_
          refine nw_getiv C (X 136 34) wc_34 kF_Mo_207 is_34 (by decide) rfl dd_Mo_balance_39 (by repeat (first | rfl | rw [wx_u_eq] | rw [wx_u_nc (by omega)] | rw [wx_u_nk (by omega)])) ?_
          refine nw_if_eq (tgt := 49) C dd_Mo_balance_42 (by decide) (by first | omega | (simp [wx_u] <;> omega)) (fun h42 => ?_) (fun h42 => ?_)
          · refine cw_aload_n C dd_Mo_balance_49 rfl ?_
            refine cw_getr (q' := 252) C wc_34 kF_Mo_95 is_34 (by decide) rfl dd_Mo_balance_50 rfl ?_
            refine cw_iconst (v := nI 4) C dd_Mo_balance_53 (by decide +kernel) ?_
            refine cw_iload_n C dd_Mo_balance_54 rfl ?_
            refine nw_imul C dd_Mo_balance_55 ?_
            refine cw_iload_n C dd_Mo_balance_56 rfl ?_
            refine nw_iadd C dd_Mo_balance_57 ?_
            refine nw_ialdv C (X 252 ((4 * r) + k)) is_63 (by first | omega | (simp [wx_u] <;> omega)) (by decide) dd_Mo_balance_58 (by repeat (first | rfl | rw [wx_u_eq] | rw [wx_u_nc (by omega)] | rw [wx_u_nk (by omega)])) ?_
            exact cw_ireturn C dd_Mo_balance_59 (Nat.le_of_ble_eq_true rfl) (Nat.le_of_ble_eq_true rfl) ⟨_, rfl, rfl, ⟨by rw [if_pos (by omega), if_neg (by omega)], rfl⟩⟩
          · refine cw_iconst (v := nI 0) C dd_Mo_balance_45 (by decide +kernel) ?_
            refine cw_goto (tgt := 59) C dd_Mo_balance_46 (by decide) ?_
            exact cw_ireturn C dd_Mo_balance_59 (Nat.le_of_ble_eq_true rfl) (Nat.le_of_ble_eq_true rfl) ⟨_, rfl, rfl, ⟨by rw [if_pos (by omega), if_pos (by omega)], rfl⟩⟩
    · refine cw_iconst (v := nI 4294967295) C dd_Mo_balance_17 (by decide +kernel) ?_
      exact cw_ireturn C dd_Mo_balance_18 (Nat.le_of_ble_eq_true rfl) (Nat.le_of_ble_eq_true rfl) ⟨_, rfl, rfl, ⟨by rw [if_neg (by omega)], rfl⟩⟩
set_option maxRecDepth 100000 in
set_option maxHeartbeats 4000000 in
theorem mm_Mo_thrown (X : wx_S) : nw_M wd_all yy_Mo_thrown cc_Mo_thrown 1 (some .int) 1 0 0 [.ref 136] X (fun v X' => v = some (.int (nI (X 136 0))) ∧ X' = X) := by
  refine nw_of [some (.ref 136)] (by decide +kernel) rfl (Nat.le_of_ble_eq_true rfl) rfl ?_
  intro p l e s m args below meth c A g C
  refine cw_aload_n C dd_Mo_thrown_0 rfl ?_
  refine nw_geti C wc_34 kF_Mo_105 is_34 (by decide) rfl dd_Mo_thrown_1 ?_
  exact cw_ireturn C dd_Mo_thrown_4 (Nat.le_of_ble_eq_true rfl) (Nat.le_of_ble_eq_true rfl) ⟨_, rfl, rfl, ⟨by first | rfl | simp [wx_u], by first | rfl | simp [wx_u]⟩⟩
