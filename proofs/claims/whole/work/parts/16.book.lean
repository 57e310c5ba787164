def zc_place (X : wx_S) (r t : Nat) : wx_S :=
  if t = 4294967295 ∨ X (112 + r) 3 / 2 ^ t % 2 = 1 then X
  else if X 16 t ≤ X (120 + r) (X 8 t) then
    wx_u (wx_u (wx_u (wx_u (wx_u X (112 + r) 3 (X (112 + r) 3 ||| 2 ^ t)) (116 + r) (X (112 + r) 2) t) (112 + r) 2 (X (112 + r) 2 + 1)) (120 + r) (X 8 t) (X (120 + r) (X 8 t) - X 16 t)) (120 + r) (X 12 t) (X (120 + r) (X 12 t) + X 16 t)
  else wx_u (wx_u (wx_u X (112 + r) 3 (X (112 + r) 3 ||| 2 ^ t)) (116 + r) (X (112 + r) 2) t) (112 + r) 2 (X (112 + r) 2 + 1)
theorem zn_p40 {t : Nat} (h : t < 40) : 2 ^ t < 2 ^ 40 := Nat.pow_lt_pow_right (by decide) h
set_option maxRecDepth 100000 in
set_option maxHeartbeats 4000000 in
theorem mm_Bk_place (X : wx_S) (r : Nat) (hr : r < 4) (t : Nat) (ht : t < 40 ∨ t = 4294967295) (h3 : X (112 + r) 3 < 2 ^ 40) (hc : t < 40 → X (112 + r) 3 / 2 ^ t % 2 ≠ 1 → X (112 + r) 2 < 40) (hf : t < 40 → X 8 t < 4 ∧ X 12 t < 4 ∧ X 16 t < 2147483648 ∧ X 8 t ≠ X 12 t) (hb : ∀ a, a < 4 → X (120 + r) a < 2147483648) : nw_M wd_all yy_Bk_place cc_Bk_place 3 none 1 0 0 [.ref (112 + r), .int (nI t)] X (fun v X' => v = none ∧ X' = zc_place X r t) := by
  refine nw_of [some (.ref (112 + r)), some (.int (nI t)), none] (by decide +kernel) rfl (Nat.le_of_ble_eq_true rfl) rfl ?_
  intro p l e s m args below meth c A g C
  refine cw_iload_n C dd_Bk_place_0 rfl ?_
  refine cw_iconst (v := nI 4294967295) C dd_Bk_place_1 (by decide +kernel) ?_
  refine nw_icmp_eq (tgt := 18) C dd_Bk_place_2 (by decide) (by first | omega | (simp [wx_u] <;> omega)) (by first | omega | (simp [wx_u] <;> omega)) (fun h2 => ?_) (fun h2 => ?_)
  · exact cw_vreturn C dd_Bk_place_18 (Nat.le_of_ble_eq_true rfl) (Nat.le_of_ble_eq_true rfl) ⟨_, rfl, rfl, ⟨rfl, by first | exact (if_pos (Or.inl h2)).symm | exact (if_pos (Or.inr h14)).symm⟩⟩
  · refine cw_aload_n C dd_Bk_place_5 rfl ?_
    refine nw_getl C wc_28 kF_Bk_28 (is_28 hr) (by decide) rfl dd_Bk_place_6 ?_
    refine cw_iload_n C dd_Bk_place_9 rfl ?_
    have g1 : t < 40 := by omega
    have g2 := hf g1
    have g3 : X (112 + r) 3 / 2 ^ t ≤ X (112 + r) 3 := Nat.div_le_self _ _
    have g4 := zn_p40 g1
    refine nw_lshr C dd_Bk_place_10 (by first | omega | (simp [wx_u] <;> omega)) (by first | omega | (simp [wx_u] <;> omega)) ?_
    refine cw_lconst (v := lN 1) C dd_Bk_place_11 (by decide +kernel) ?_
    refine nw_land1 C dd_Bk_place_12 (by first | omega | (simp [wx_u] <;> omega)) ?_
    refine cw_lconst (v := lN 1) C dd_Bk_place_13 (by decide +kernel) ?_
    refine nw_lcmp_ne (tgt := 19) C dd_Bk_place_14 dd_Bk_place_15 (by decide) (by first | omega | (simp [wx_u] <;> omega)) (by first | omega | (simp [wx_u] <;> omega)) (fun h14 => ?_) (fun h14 => ?_)
    · have g5 := hc g1 h14
      refine cw_aload_n C dd_Bk_place_19 rfl ?_
      refine cw_dup C dd_Bk_place_20 rfl ?_
      refine nw_getl C wc_28 kF_Bk_28 (is_28 hr) (by decide) rfl dd_Bk_place_21 ?_
      refine cw_lconst (v := lN 1) C dd_Bk_place_24 (by decide +kernel) ?_
      refine cw_iload_n C dd_Bk_place_25 rfl ?_
      refine nw_lshl C dd_Bk_place_26 (by first | omega | (simp [wx_u] <;> omega)) ?_
      rw [Nat.one_mul]
      refine nw_lor C dd_Bk_place_27 (by first | omega | (simp [wx_u] <;> omega)) (by first | omega | (simp [wx_u] <;> omega)) ?_
      refine nw_putl C wc_28 kF_Bk_28 (is_28 hr) (by decide) rfl rfl rfl rfl dd_Bk_place_28 ?_
      refine cw_aload_n C dd_Bk_place_31 rfl ?_
      refine cw_gets (b := 112) (b' := 116) C hr rfl wc_28 kF_Bk_9 (is_28 hr) (by decide) rfl dd_Bk_place_32 rfl ?_
      refine cw_aload_n C dd_Bk_place_35 rfl ?_
      refine nw_getiv C (X (112 + r) 2) wc_28 kF_Bk_32 (is_28 hr) (by decide) rfl dd_Bk_place_36 (by repeat (first | rfl | rw [wx_u_eq] | rw [wx_u_nc (by omega)] | rw [wx_u_nk (by omega)])) ?_
      refine cw_iload_n C dd_Bk_place_39 rfl ?_
      refine nw_iast C (is_29 hr) (by first | omega | (simp [wx_u] <;> omega)) (by decide) dd_Bk_place_40 ?_
      refine cw_aload_n C dd_Bk_place_41 rfl ?_
      refine cw_dup C dd_Bk_place_42 rfl ?_
      refine nw_getiv C (X (112 + r) 2) wc_28 kF_Bk_32 (is_28 hr) (by decide) rfl dd_Bk_place_43 (by repeat (first | rfl | rw [wx_u_eq] | rw [wx_u_nc (by omega)] | rw [wx_u_nk (by omega)])) ?_
      refine cw_iconst (v := nI 1) C dd_Bk_place_46 (by decide +kernel) ?_
      refine nw_iadd C dd_Bk_place_47 ?_
      refine nw_puti C wc_28 kF_Bk_32 (is_28 hr) (by decide) rfl rfl rfl rfl dd_Bk_place_48 ?_
      refine cw_aload_n C dd_Bk_place_51 rfl ?_
      refine cw_getr (q' := 4) C wc_28 kF_Bk_18 (is_28 hr) (by decide) rfl dd_Bk_place_52 rfl ?_
      refine cw_getr (q' := 16) C wc_1 kF_Bk_36 is_1 (by decide) rfl dd_Bk_place_55 rfl ?_
      refine cw_iload_n C dd_Bk_place_58 rfl ?_
      refine nw_ialdv C (X 16 t) is_4 (by first | omega | (simp [wx_u] <;> omega)) (by decide) dd_Bk_place_59 (by repeat (first | rfl | rw [wx_u_eq] | rw [wx_u_nc (by omega)] | rw [wx_u_nk (by omega)])) ?_
      refine cw_istore_n C dd_Bk_place_60 (Nat.le_of_ble_eq_true rfl) ?_
      refine cw_aload_n C dd_Bk_place_61 rfl ?_
      refine cw_gets (b := 112) (b' := 120) C hr rfl wc_28 kF_Bk_15 (is_28 hr) (by decide) rfl dd_Bk_place_62 rfl ?_
      refine cw_aload_n C dd_Bk_place_65 rfl ?_
      refine cw_getr (q' := 4) C wc_28 kF_Bk_18 (is_28 hr) (by decide) rfl dd_Bk_place_66 rfl ?_
      refine cw_getr (q' := 8) C wc_1 kF_Bk_41 is_1 (by decide) rfl dd_Bk_place_69 rfl ?_
      refine cw_iload_n C dd_Bk_place_72 rfl ?_
      refine nw_ialdv C (X 8 t) is_2 (by first | omega | (simp [wx_u] <;> omega)) (by decide) dd_Bk_place_73 (by repeat (first | rfl | rw [wx_u_eq] | rw [wx_u_nc (by omega)] | rw [wx_u_nk (by omega)])) ?_
      have g6 := hb (X 8 t) g2.1
      refine nw_ialdv C (X (120 + r) (X 8 t)) (is_30 hr) (by first | omega | (simp [wx_u] <;> omega)) (by decide) dd_Bk_place_74 (by repeat (first | rfl | rw [wx_u_eq] | rw [wx_u_nc (by omega)] | rw [wx_u_nk (by omega)])) ?_
      refine cw_iload_n C dd_Bk_place_75 rfl ?_
      refine nw_icmp_lt (tgt := 115) C dd_Bk_place_76 (by decide) (by first | omega | (simp [wx_u] <;> omega)) (by first | omega | (simp [wx_u] <;> omega)) (fun h76 => ?_) (fun h76 => ?_)
      · exact cw_vreturn C dd_Bk_place_115 (Nat.le_of_ble_eq_true rfl) (Nat.le_of_ble_eq_true rfl) ⟨_, rfl, rfl, ⟨rfl, by rw [zc_place, if_neg (by omega)]; first | rw [if_pos (by omega)] | rw [if_neg (by omega)]⟩⟩
      · refine cw_aload_n C dd_Bk_place_79 rfl ?_
        refine cw_gets (b := 112) (b' := 120) C hr rfl wc_28 kF_Bk_15 (is_28 hr) (by decide) rfl dd_Bk_place_80 rfl ?_
        refine cw_aload_n C dd_Bk_place_83 rfl ?_
        refine cw_getr (q' := 4) C wc_28 kF_Bk_18 (is_28 hr) (by decide) rfl dd_Bk_place_84 rfl ?_
        refine cw_getr (q' := 8) C wc_1 kF_Bk_41 is_1 (by decide) rfl dd_Bk_place_87 rfl ?_
        refine cw_iload_n C dd_Bk_place_90 rfl ?_
        refine nw_ialdv C (X 8 t) is_2 (by first | omega | (simp [wx_u] <;> omega)) (by decide) dd_Bk_place_91 (by repeat (first | rfl | rw [wx_u_eq] | rw [wx_u_nc (by omega)] | rw [wx_u_nk (by omega)])) ?_
        refine cw_dup2 C dd_Bk_place_92 rfl rfl ?_
        refine nw_ialdv C (X (120 + r) (X 8 t)) (is_30 hr) (by first | omega | (simp [wx_u] <;> omega)) (by decide) dd_Bk_place_93 (by repeat (first | rfl | rw [wx_u_eq] | rw [wx_u_nc (by omega)] | rw [wx_u_nk (by omega)])) ?_
        refine cw_iload_n C dd_Bk_place_94 rfl ?_
        refine nw_isub C dd_Bk_place_95 (by first | omega | (simp [wx_u] <;> omega)) ?_
        refine nw_iast C (is_30 hr) (by first | omega | (simp [wx_u] <;> omega)) (by decide) dd_Bk_place_96 ?_
        refine cw_aload_n C dd_Bk_place_97 rfl ?_
        refine cw_gets (b := 112) (b' := 120) C hr rfl wc_28 kF_Bk_15 (is_28 hr) (by decide) rfl dd_Bk_place_98 rfl ?_
        refine cw_aload_n C dd_Bk_place_101 rfl ?_
        refine cw_getr (q' := 4) C wc_28 kF_Bk_18 (is_28 hr) (by decide) rfl dd_Bk_place_102 rfl ?_
        refine cw_getr (q' := 12) C wc_1 kF_Bk_44 is_1 (by decide) rfl dd_Bk_place_105 rfl ?_
        refine cw_iload_n C dd_Bk_place_108 rfl ?_
        refine nw_ialdv C (X 12 t) is_3 (by first | omega | (simp [wx_u] <;> omega)) (by decide) dd_Bk_place_109 (by repeat (first | rfl | rw [wx_u_eq] | rw [wx_u_nc (by omega)] | rw [wx_u_nk (by omega)])) ?_
        refine cw_dup2 C dd_Bk_place_110 rfl rfl ?_
        refine nw_ialdv C (X (120 + r) (X 12 t)) (is_30 hr) (by first | omega | (simp [wx_u] <;> omega)) (by decide) dd_Bk_place_111 (by repeat (first | rfl | rw [wx_u_eq] | rw [wx_u_nc (by omega)] | rw [wx_u_nk (by omega)])) ?_
        refine cw_iload_n C dd_Bk_place_112 rfl ?_
        refine nw_iadd C dd_Bk_place_113 ?_
        refine nw_iast C (is_30 hr) (by first | omega | (simp [wx_u] <;> omega)) (by decide) dd_Bk_place_114 ?_
        exact cw_vreturn C dd_Bk_place_115 (Nat.le_of_ble_eq_true rfl) (Nat.le_of_ble_eq_true rfl) ⟨_, rfl, rfl, ⟨rfl, by rw [zc_place, if_neg (by omega)]; first | rw [if_pos (by omega)] | rw [if_neg (by omega)]⟩⟩
    · exact cw_vreturn C dd_Bk_place_18 (Nat.le_of_ble_eq_true rfl) (Nat.le_of_ble_eq_true rfl) ⟨_, rfl, rfl, ⟨rfl, by first | exact (if_pos (Or.inl h2)).symm | exact (if_pos (Or.inr h14)).symm⟩⟩
