abbrev zm_dlC (X : wx_S) (r k : Nat) : Prop := X 192 r = 1 ∧ k < X 136 13 ∧ X 136 13 < 800
set_option maxRecDepth 100000 in
set_option maxHeartbeats 4000000 in
theorem mm_Mo_deliver_bad (X : wx_S) (n : Nat) (hn : n < 4294967296) (hb : 4 ≤ n) (k : Nat) : nw_M wd_all yy_Mo_deliver cc_Mo_deliver 3 (some .boolean) 7 0 0 [.ref 136, .int (nI k), .int (nI n)] X (fun v X' => v = some (.int (nI 0)) ∧ X' = wx_u X 136 0 1) := by
  refine nw_of [some (.ref 136), some (.int (nI k)), some (.int (nI n))] (by decide +kernel) rfl (Nat.le_of_ble_eq_true rfl) rfl ?_
  intro p l e s m args below meth c A g C
  refine cw_aload_n C dd_Mo_deliver_0 rfl ?_
  refine cw_iload_n C dd_Mo_deliver_1 rfl ?_
  refine cw_callV (As := [_]) C kV_Mo_193 wc_34 is_34 dd_Mo_deliver_2 rfl rfl (Nat.le_of_ble_eq_true rfl) ⟨(Nat.le_of_ble_eq_true rfl), (Nat.le_of_ble_eq_true rfl)⟩ ⟨(Nat.le_of_ble_eq_true rfl), (Nat.le_of_ble_eq_true rfl)⟩ (mm_Mo_works_bad X n hn hb) (nw_ki ?_)
  refine nw_if_eq (tgt := 29) C dd_Mo_deliver_5 (by decide) (by decide) (fun h5 => ?_) (fun h5 => ?_)
  · refine cw_iconst (v := nI 0) C dd_Mo_deliver_29 (by decide +kernel) ?_
    exact cw_zreturn C dd_Mo_deliver_30 (nw_zn (by decide)) (Nat.le_of_ble_eq_true rfl) (Nat.le_of_ble_eq_true rfl) ⟨_, rfl, rfl, ⟨rfl, rfl⟩⟩
  · exact absurd rfl h5
set_option maxRecDepth 100000 in
set_option maxHeartbeats 4000000 in
theorem mm_Mo_deliver (X : wx_S) (r : Nat) (hr : r < 4) (k : Nat) (hk : k < 4294967296) (hst : ∀ i, i < 4 → X 192 i < 4294967296) (hmm : X 136 13 ≤ 802) (hT : zm_dlC X r k → nw_M wd_all yy_Mo_take cc_Mo_take 6 none 6 0 0 [.ref 136, .int (nI r), .int (nI k)] (wx_u X 136 0 0) (fun v X' => v = none ∧ X' = zm_take (wx_u X 136 0 0) r k)) : nw_M wd_all yy_Mo_deliver cc_Mo_deliver 3 (some .boolean) 7 0 0 [.ref 136, .int (nI k), .int (nI r)] X (fun v X' => v = some (.int (nI (zb_n (zm_dlC X r k)))) ∧ X' = if zm_dlC X r k then zm_take (wx_u X 136 0 0) r k else (wx_u X 136 0 0)) := by
  refine nw_of [some (.ref 136), some (.int (nI k)), some (.int (nI r))] (by decide +kernel) rfl (Nat.le_of_ble_eq_true rfl) rfl ?_
  intro p l e s m args below meth c A g C
  have e13 : wx_u X 136 0 0 136 13 = X 136 13 := wx_u_nk (by decide)
  refine cw_aload_n C dd_Mo_deliver_0 rfl ?_
  refine cw_iload_n C dd_Mo_deliver_1 rfl ?_
  refine cw_callV (As := [_]) C kV_Mo_193 wc_34 is_34 dd_Mo_deliver_2 rfl rfl (Nat.le_of_ble_eq_true rfl) ⟨(Nat.le_of_ble_eq_true rfl), (Nat.le_of_ble_eq_true rfl)⟩ ⟨(Nat.le_of_ble_eq_true rfl), (Nat.le_of_ble_eq_true rfl)⟩ (mm_Mo_works X r hr hst) (nw_ki ?_)
  refine nw_zeq (tgt := 29) C dd_Mo_deliver_5 (by decide) (fun h5 => ?_) (fun h5 => ?_)
  · refine cw_iconst (v := nI 0) C dd_Mo_deliver_29 (by decide +kernel) ?_
    exact cw_zreturn C dd_Mo_deliver_30 (nw_zn (by decide)) (Nat.le_of_ble_eq_true rfl) (Nat.le_of_ble_eq_true rfl) ⟨_, rfl, rfl, ⟨congrArg (fun z => some (Value.int z)) (zb_f (by omega)), (if_neg (by omega)).symm⟩⟩
  · refine cw_iload_n C dd_Mo_deliver_8 rfl ?_
    refine cw_iconst (v := nI 0) C dd_Mo_deliver_9 (by decide +kernel) ?_
    refine cw_aload_n C dd_Mo_deliver_10 rfl ?_
    refine nw_getiv C (X 136 13) wc_34 kF_Mo_112 is_34 (by decide) rfl dd_Mo_deliver_11 (by repeat (first | rfl | rw [wx_u_eq] | rw [wx_u_nc (by omega)] | rw [wx_u_nk (by omega)])) ?_
    refine cw_iconst (v := nI 1) C dd_Mo_deliver_14 (by decide +kernel) ?_
    refine nw_idec C dd_Mo_deliver_15 ?_
    refine cw_callS (As := [_, _, _]) C kS_Mo_186 dd_Mo_deliver_16 rfl rfl (Nat.le_of_ble_eq_true rfl) ⟨(Nat.le_of_ble_eq_true rfl), (Nat.le_of_ble_eq_true rfl)⟩ ⟨(Nat.le_of_ble_eq_true rfl), (Nat.le_of_ble_eq_true rfl)⟩ (mm_Mo_in _ k 0 _ (X 136 13) (by omega) (by decide) (by omega) rfl) (nw_ki ?_)
    refine nw_zeq (tgt := 29) C dd_Mo_deliver_19 (by decide) (fun h19 => ?_) (fun h19 => ?_)
    · refine cw_iconst (v := nI 0) C dd_Mo_deliver_29 (by decide +kernel) ?_
      exact cw_zreturn C dd_Mo_deliver_30 (nw_zn (by decide)) (Nat.le_of_ble_eq_true rfl) (Nat.le_of_ble_eq_true rfl) ⟨_, rfl, rfl, ⟨congrArg (fun z => some (Value.int z)) (zb_f (by omega)), (if_neg (by omega)).symm⟩⟩
    · refine cw_aload_n C dd_Mo_deliver_22 rfl ?_
      refine cw_callV (As := []) C kV_Mo_196 wc_34 is_34 dd_Mo_deliver_23 rfl rfl (Nat.le_of_ble_eq_true rfl) ⟨(Nat.le_of_ble_eq_true rfl), (Nat.le_of_ble_eq_true rfl)⟩ ⟨(Nat.le_of_ble_eq_true rfl), (Nat.le_of_ble_eq_true rfl)⟩ (mm_Mo_full (wx_u X 136 0 0) (by rw [e13]; omega)) (nw_ki ?_)
      rw [e13]
      refine nw_zeq (tgt := 31) C dd_Mo_deliver_26 (by decide) (fun h26 => ?_) (fun h26 => ?_)
      · refine cw_aload_n C dd_Mo_deliver_31 rfl ?_
        refine cw_iload_n C dd_Mo_deliver_32 rfl ?_
        refine cw_iload_n C dd_Mo_deliver_33 rfl ?_
        have hg : zm_dlC X r k := ⟨h5, by omega, by omega⟩
        refine cw_callV (As := [_, _]) C kV_Mo_200 wc_34 is_34 dd_Mo_deliver_34 rfl rfl (Nat.le_of_ble_eq_true rfl) ⟨(Nat.le_of_ble_eq_true rfl), (Nat.le_of_ble_eq_true rfl)⟩ ⟨(Nat.le_of_ble_eq_true rfl), (Nat.le_of_ble_eq_true rfl)⟩ (hT hg) (nw_kv ?_)
        refine cw_iconst (v := nI 1) C dd_Mo_deliver_37 (by decide +kernel) ?_
        exact cw_zreturn C dd_Mo_deliver_38 (nw_zn (by decide)) (Nat.le_of_ble_eq_true rfl) (Nat.le_of_ble_eq_true rfl) ⟨_, rfl, rfl, ⟨congrArg (fun z => some (Value.int z)) (zb_t hg), (if_pos hg).symm⟩⟩
      · refine cw_iconst (v := nI 0) C dd_Mo_deliver_29 (by decide +kernel) ?_
        exact cw_zreturn C dd_Mo_deliver_30 (nw_zn (by decide)) (Nat.le_of_ble_eq_true rfl) (Nat.le_of_ble_eq_true rfl) ⟨_, rfl, rfl, ⟨congrArg (fun z => some (Value.int z)) (zb_f (by omega)), (if_neg (by omega)).symm⟩⟩
abbrev zm_pmC (X : wx_S) (r : Nat) : Prop := X 192 r = 1 ∧ X 220 r < X 136 13 ∧ X 136 13 < 800
def zm_pmS (X : wx_S) (r : Nat) : wx_S := zm_take (wx_u X 220 r (X 220 r + 1)) r (X 220 r)
def zm_pm (r : Nat) : Nat → wx_S → Nat × wx_S
  | 0, X => (0, X)
  | n + 1, X => if zm_pmC X r then ((zm_pm r n (zm_pmS X r)).1 + 1, (zm_pm r n (zm_pmS X r)).2) else (0, X)
set_option maxRecDepth 100000 in
set_option maxHeartbeats 4000000 in
theorem lp_Mo_pump {p : Program} {l : Launch} {e : Env} {s : State} {m : MethodId} {args : Array Value} {below : List Frame} {meth : Method} {c : Code} {A : Nat → Prop} {g : wd_G} {G : State → Prop} (r : Nat) (hr : r < 4) (N : Nat) (hN : N < 2147483648) (J : wx_S → Prop) (hJ : ∀ X, J X → X 192 r < 4294967296 ∧ X 136 13 ≤ 802 ∧ X 220 r ≤ 802) (hT : ∀ X, J X → zm_pmC X r → nw_M wd_all yy_Mo_take cc_Mo_take 6 none 6 0 0 [.ref 136, .int (nI r), .int (nI (X 220 r))] (wx_u X 220 r (X 220 r + 1)) (fun v X' => v = none ∧ X' = zm_pmS X r) ∧ J (zm_pmS X r)) (R1 : Nat) (R2 : wx_S) (C : cw_C p s m args meth c A wd_all g cc_Mo_pump 4 "DagLedgerModel" (some .int)) (hA : cw_W p l e (cw_rm 7 0 0) s m args below meth c A wd_all g 0 0 G 4 105 [some (.ref 136), some (.int (nI r)), some (.int (nI N)), some (.int (nI R1))] [] (wx_e R2) (wx_l R2)) : ∀ (n i : Nat) (X : wx_S), i + n = N → J X → i + (zm_pm r n X).1 = R1 → (zm_pm r n X).2 = R2 → cw_W p l e (cw_rm 7 0 0) s m args below meth c A wd_all g 0 0 G 4 41 [some (.ref 136), some (.int (nI r)), some (.int (nI N)), some (.int (nI i))] [] (wx_e X) (wx_l X) := by
  intro n
  induction n with
  | zero =>
    intro i X hi hX h1 h2
    refine cw_iload_n C dd_Mo_pump_41 rfl ?_
    refine cw_iload_n C dd_Mo_pump_42 rfl ?_
    refine nw_icmp_ge (tgt := 105) C dd_Mo_pump_43 (by decide) (by first | omega | (simp [wx_u] <;> omega)) (by first | omega | (simp [wx_u] <;> omega)) (fun h43 => ?_) (fun h43 => ?_)
    · have e1 : i = R1 := h1
      rw [e1]
      exact nw_eqX h2 hA
    · exact absurd h43 (by omega)
  | succ n ih =>
    intro i X hi hX h1 h2
    have g1 := hJ X hX
    refine cw_iload_n C dd_Mo_pump_41 rfl ?_
    refine cw_iload_n C dd_Mo_pump_42 rfl ?_
    refine nw_icmp_ge (tgt := 105) C dd_Mo_pump_43 (by decide) (by first | omega | (simp [wx_u] <;> omega)) (by first | omega | (simp [wx_u] <;> omega)) (fun h43 => ?_) (fun h43 => ?_)
    · exact absurd h43 (by omega)
    · refine cw_aload_n C dd_Mo_pump_46 rfl ?_
      refine cw_getr (q' := 192) C wc_34 kF_Mo_50 is_34 (by decide) rfl dd_Mo_pump_47 rfl ?_
      refine cw_iload_n C dd_Mo_pump_50 rfl ?_
      refine nw_iald C is_48 (by first | omega | (simp [wx_u] <;> omega)) (by decide) dd_Mo_pump_51 ?_
      refine cw_iconst (v := nI 1) C dd_Mo_pump_52 (by decide +kernel) ?_
      refine nw_icmp_ne (tgt := 105) C dd_Mo_pump_53 (by decide) (by first | omega | (simp [wx_u] <;> omega)) (by first | omega | (simp [wx_u] <;> omega)) (fun h53 => ?_) (fun h53 => ?_)
      · have hn : ¬ zm_pmC X r := by omega
        rw [zm_pm, if_neg hn] at h1 h2
        have e1 : i = R1 := h1
        rw [e1]
        exact nw_eqX h2 hA
      · refine cw_aload_n C dd_Mo_pump_56 rfl ?_
        refine cw_getr (q' := 220) C wc_34 kF_Mo_71 is_34 (by decide) rfl dd_Mo_pump_57 rfl ?_
        refine cw_iload_n C dd_Mo_pump_60 rfl ?_
        refine nw_iald C is_55 (by first | omega | (simp [wx_u] <;> omega)) (by decide) dd_Mo_pump_61 ?_
        refine cw_aload_n C dd_Mo_pump_62 rfl ?_
        refine nw_geti C wc_34 kF_Mo_112 is_34 (by decide) rfl dd_Mo_pump_63 ?_
        refine nw_icmp_ge (tgt := 105) C dd_Mo_pump_66 (by decide) (by first | omega | (simp [wx_u] <;> omega)) (by first | omega | (simp [wx_u] <;> omega)) (fun h66 => ?_) (fun h66 => ?_)
        · have hn : ¬ zm_pmC X r := by omega
          rw [zm_pm, if_neg hn] at h1 h2
          have e1 : i = R1 := h1
          rw [e1]
          exact nw_eqX h2 hA
        · refine cw_aload_n C dd_Mo_pump_69 rfl ?_
          refine cw_callV (As := []) C kV_Mo_196 wc_34 is_34 dd_Mo_pump_70 rfl rfl (Nat.le_of_ble_eq_true rfl) ⟨(Nat.le_of_ble_eq_true rfl), (Nat.le_of_ble_eq_true rfl)⟩ ⟨(Nat.le_of_ble_eq_true rfl), (Nat.le_of_ble_eq_true rfl)⟩ (mm_Mo_full X (by omega)) (nw_ki ?_)
          refine nw_zne (tgt := 105) C dd_Mo_pump_73 (by decide) (fun h73 => ?_) (fun h73 => ?_)
          · have hn : ¬ zm_pmC X r := by omega
            rw [zm_pm, if_neg hn] at h1 h2
            have e1 : i = R1 := h1
            rw [e1]
            exact nw_eqX h2 hA
          · have hg : zm_pmC X r := ⟨h53, by omega, by omega⟩
            have hT9 := hT X hX hg
            refine cw_aload_n C dd_Mo_pump_76 rfl ?_
            refine cw_getr (q' := 220) C wc_34 kF_Mo_71 is_34 (by decide) rfl dd_Mo_pump_77 rfl ?_
            refine cw_iload_n C dd_Mo_pump_80 rfl ?_
            refine cw_dup2 C dd_Mo_pump_81 rfl rfl ?_
            refine nw_iald C is_55 (by first | omega | (simp [wx_u] <;> omega)) (by decide) dd_Mo_pump_82 ?_
            refine cw_iconst (v := nI 1) C dd_Mo_pump_83 (by decide +kernel) ?_
            refine nw_iadd C dd_Mo_pump_84 ?_
            refine nw_iast C is_55 (by first | omega | (simp [wx_u] <;> omega)) (by decide) dd_Mo_pump_85 ?_
            refine nw_iinc (b := 1) C dd_Mo_pump_86 (by decide +kernel) rfl (Nat.le_of_ble_eq_true rfl) ?_
            refine cw_aload_n C dd_Mo_pump_89 rfl ?_
            refine cw_iload_n C dd_Mo_pump_90 rfl ?_
            refine cw_aload_n C dd_Mo_pump_91 rfl ?_
            refine cw_getr (q' := 220) C wc_34 kF_Mo_71 is_34 (by decide) rfl dd_Mo_pump_92 rfl ?_
            refine cw_iload_n C dd_Mo_pump_95 rfl ?_
            refine nw_ialdv C (X 220 r + 1) is_55 (by first | omega | (simp [wx_u] <;> omega)) (by decide) dd_Mo_pump_96 (by repeat (first | rfl | rw [wx_u_eq] | rw [wx_u_nc (by omega)] | rw [wx_u_nk (by omega)])) ?_
            refine cw_iconst (v := nI 1) C dd_Mo_pump_97 (by decide +kernel) ?_
            refine nw_isub C dd_Mo_pump_98 (by omega) ?_
            rw [Nat.add_sub_cancel]
            refine cw_callV (As := [_, _]) C kV_Mo_200 wc_34 is_34 dd_Mo_pump_99 rfl rfl (Nat.le_of_ble_eq_true rfl) ⟨(Nat.le_of_ble_eq_true rfl), (Nat.le_of_ble_eq_true rfl)⟩ ⟨(Nat.le_of_ble_eq_true rfl), (Nat.le_of_ble_eq_true rfl)⟩ (hT9.1) (nw_kv ?_)
            refine cw_goto (tgt := 41) C dd_Mo_pump_102 (by decide) ?_
            rw [zm_pm, if_pos hg] at h1 h2
            exact ih (i + 1) _ (by omega) hT9.2 (by rw [← h1]; show i + 1 + _ = i + (_ + 1); omega) h2
set_option maxRecDepth 100000 in
set_option maxHeartbeats 4000000 in
theorem mm_Mo_pump_bad (X : wx_S) (n : Nat) (hn : n < 4294967296) (hb : 4 ≤ n) (N : Nat) : nw_M wd_all yy_Mo_pump cc_Mo_pump 4 (some .int) 7 0 0 [.ref 136, .int (nI n), .int (nI N)] X (fun v X' => v = some (.int (nI 0)) ∧ X' = wx_u X 136 0 1) := by
  refine nw_of [some (.ref 136), some (.int (nI n)), some (.int (nI N)), none] (by decide +kernel) rfl (Nat.le_of_ble_eq_true rfl) rfl ?_
  intro p l e s m args below meth c A g C
  refine cw_aload_n C dd_Mo_pump_0 rfl ?_
  refine cw_iload_n C dd_Mo_pump_1 rfl ?_
  refine cw_callV (As := [_]) C kV_Mo_190 wc_34 is_34 dd_Mo_pump_2 rfl rfl (Nat.le_of_ble_eq_true rfl) ⟨(Nat.le_of_ble_eq_true rfl), (Nat.le_of_ble_eq_true rfl)⟩ ⟨(Nat.le_of_ble_eq_true rfl), (Nat.le_of_ble_eq_true rfl)⟩ (mm_Mo_isNode_bad X n hn hb) (nw_ki ?_)
  refine nw_if_ne (tgt := 10) C dd_Mo_pump_5 (by decide) (by decide) (fun h5 => ?_) (fun h5 => ?_)
  · exact absurd rfl h5
  · refine cw_iconst (v := nI 0) C dd_Mo_pump_8 (by decide +kernel) ?_
    exact cw_ireturn C dd_Mo_pump_9 (Nat.le_of_ble_eq_true rfl) (Nat.le_of_ble_eq_true rfl) ⟨_, rfl, rfl, ⟨rfl, rfl⟩⟩
set_option maxRecDepth 100000 in
set_option maxHeartbeats 4000000 in
theorem mm_Mo_pump_dn (X : wx_S) (r : Nat) (hr : r < 4) (N : Nat) (hst : ∀ i, i < 4 → X 192 i < 4294967296) (hdn : X 192 r ≠ 1) : nw_M wd_all yy_Mo_pump cc_Mo_pump 4 (some .int) 7 0 0 [.ref 136, .int (nI r), .int (nI N)] X (fun v X' => v = some (.int (nI 0)) ∧ X' = wx_u X 136 0 2) := by
  refine nw_of [some (.ref 136), some (.int (nI r)), some (.int (nI N)), none] (by decide +kernel) rfl (Nat.le_of_ble_eq_true rfl) rfl ?_
  intro p l e s m args below meth c A g C
  have g1 := hst r hr
  refine cw_aload_n C dd_Mo_pump_0 rfl ?_
  refine cw_iload_n C dd_Mo_pump_1 rfl ?_
  refine cw_callV (As := [_]) C kV_Mo_190 wc_34 is_34 dd_Mo_pump_2 rfl rfl (Nat.le_of_ble_eq_true rfl) ⟨(Nat.le_of_ble_eq_true rfl), (Nat.le_of_ble_eq_true rfl)⟩ ⟨(Nat.le_of_ble_eq_true rfl), (Nat.le_of_ble_eq_true rfl)⟩ (mm_Mo_isNode X r hr) (nw_ki ?_)
  refine nw_if_ne (tgt := 10) C dd_Mo_pump_5 (by decide) (by decide) (fun h5 => ?_) (fun h5 => ?_)
  · refine cw_aload_n C dd_Mo_pump_10 rfl ?_
    refine cw_getr (q' := 192) C wc_34 kF_Mo_50 is_34 (by decide) rfl dd_Mo_pump_11 rfl ?_
    refine cw_iload_n C dd_Mo_pump_14 rfl ?_
    refine nw_ialdv C (X 192 r) is_48 (by first | omega | (simp [wx_u] <;> omega)) (by decide) dd_Mo_pump_15 (by repeat (first | rfl | rw [wx_u_eq] | rw [wx_u_nc (by omega)] | rw [wx_u_nk (by omega)])) ?_
    refine cw_iconst (v := nI 1) C dd_Mo_pump_16 (by decide +kernel) ?_
    refine nw_icmp_eq (tgt := 27) C dd_Mo_pump_17 (by decide) (by first | omega | (simp [wx_u] <;> omega)) (by first | omega | (simp [wx_u] <;> omega)) (fun h17 => ?_) (fun h17 => ?_)
    · exact absurd h17 hdn
    · refine cw_aload_n C dd_Mo_pump_20 rfl ?_
      refine cw_iconst (v := nI 2) C dd_Mo_pump_21 (by decide +kernel) ?_
      refine nw_puti C wc_34 kF_Mo_105 is_34 (by decide) rfl rfl rfl rfl dd_Mo_pump_22 ?_
      refine cw_iconst (v := nI 0) C dd_Mo_pump_25 (by decide +kernel) ?_
      exact cw_ireturn C dd_Mo_pump_26 (Nat.le_of_ble_eq_true rfl) (Nat.le_of_ble_eq_true rfl) ⟨_, rfl, rfl, ⟨rfl, wx_u_uu _ _ _ _ _⟩⟩
  · exact absurd h5 (by decide)
set_option maxRecDepth 100000 in
set_option maxHeartbeats 4000000 in
theorem mm_Mo_pump (X : wx_S) (r : Nat) (hr : r < 4) (N : Nat) (hN : N < 4294967296) (hst : ∀ i, i < 4 → X 192 i < 4294967296) (hup : X 192 r = 1) (J : wx_S → Prop) (hJ : ∀ X, J X → X 192 r < 4294967296 ∧ X 136 13 ≤ 802 ∧ X 220 r ≤ 802) (hT : ∀ X, J X → zm_pmC X r → nw_M wd_all yy_Mo_take cc_Mo_take 6 none 6 0 0 [.ref 136, .int (nI r), .int (nI (X 220 r))] (wx_u X 220 r (X 220 r + 1)) (fun v X' => v = none ∧ X' = zm_pmS X r) ∧ J (zm_pmS X r)) (hX : J (wx_u X 136 0 0)) : nw_M wd_all yy_Mo_pump cc_Mo_pump 4 (some .int) 7 0 0 [.ref 136, .int (nI r), .int (nI N)] X (fun v X' => v = some (.int (nI (if 1 ≤ N ∧ N ≤ 50 then (zm_pm r N (wx_u X 136 0 0)).1 else 4294967295))) ∧ X' = if 1 ≤ N ∧ N ≤ 50 then (zm_pm r N (wx_u X 136 0 0)).2 else (wx_u X 136 0 0)) := by
  refine nw_of [some (.ref 136), some (.int (nI r)), some (.int (nI N)), none] (by decide +kernel) rfl (Nat.le_of_ble_eq_true rfl) rfl ?_
  intro p l e s m args below meth c A g C
  have g1 := hst r hr
  refine cw_aload_n C dd_Mo_pump_0 rfl ?_
  refine cw_iload_n C dd_Mo_pump_1 rfl ?_
  refine cw_callV (As := [_]) C kV_Mo_190 wc_34 is_34 dd_Mo_pump_2 rfl rfl (Nat.le_of_ble_eq_true rfl) ⟨(Nat.le_of_ble_eq_true rfl), (Nat.le_of_ble_eq_true rfl)⟩ ⟨(Nat.le_of_ble_eq_true rfl), (Nat.le_of_ble_eq_true rfl)⟩ (mm_Mo_isNode X r hr) (nw_ki ?_)
  refine nw_if_ne (tgt := 10) C dd_Mo_pump_5 (by decide) (by decide) (fun h5 => ?_) (fun h5 => ?_)
  · refine cw_aload_n C dd_Mo_pump_10 rfl ?_
    refine cw_getr (q' := 192) C wc_34 kF_Mo_50 is_34 (by decide) rfl dd_Mo_pump_11 rfl ?_
    refine cw_iload_n C dd_Mo_pump_14 rfl ?_
    refine nw_ialdv C (X 192 r) is_48 (by first | omega | (simp [wx_u] <;> omega)) (by decide) dd_Mo_pump_15 (by repeat (first | rfl | rw [wx_u_eq] | rw [wx_u_nc (by omega)] | rw [wx_u_nk (by omega)])) ?_
    refine cw_iconst (v := nI 1) C dd_Mo_pump_16 (by decide +kernel) ?_
    refine nw_icmp_eq (tgt := 27) C dd_Mo_pump_17 (by decide) (by first | omega | (simp [wx_u] <;> omega)) (by first | omega | (simp [wx_u] <;> omega)) (fun h17 => ?_) (fun h17 => ?_)
    · refine cw_iload_n C dd_Mo_pump_27 rfl ?_
      refine cw_iconst (v := nI 1) C dd_Mo_pump_28 (by decide +kernel) ?_
      refine cw_bipush (v := nI 50) C dd_Mo_pump_29 (by decide +kernel) ?_
      refine cw_callS (As := [_, _, _]) C kS_Mo_186 dd_Mo_pump_31 rfl rfl (Nat.le_of_ble_eq_true rfl) ⟨(Nat.le_of_ble_eq_true rfl), (Nat.le_of_ble_eq_true rfl)⟩ ⟨(Nat.le_of_ble_eq_true rfl), (Nat.le_of_ble_eq_true rfl)⟩ (mm_Mo_in _ N 1 _ 51 (by omega) (by decide) (by omega) rfl) (nw_ki ?_)
      refine nw_zne (tgt := 39) C dd_Mo_pump_34 (by decide) (fun h34 => ?_) (fun h34 => ?_)
      · refine cw_iconst (v := nI 0) C dd_Mo_pump_39 (by decide +kernel) ?_
        refine cw_istore_n C dd_Mo_pump_40 (Nat.le_of_ble_eq_true rfl) ?_
        refine lp_Mo_pump r hr N (by omega) J hJ hT (zm_pm r N (wx_u X 136 0 0)).1 (zm_pm r N (wx_u X 136 0 0)).2 C ?_ N 0 (wx_u X 136 0 0) (by omega) hX (by omega) rfl
        refine cw_iload_n C dd_Mo_pump_105 rfl ?_
        exact cw_ireturn C dd_Mo_pump_106 (Nat.le_of_ble_eq_true rfl) (Nat.le_of_ble_eq_true rfl) ⟨_, rfl, rfl, ⟨by rw [if_pos ⟨by omega, by omega⟩], by rw [if_pos ⟨by omega, by omega⟩]⟩⟩
      · refine cw_iconst (v := nI 4294967295) C dd_Mo_pump_37 (by decide +kernel) ?_
        exact cw_ireturn C dd_Mo_pump_38 (Nat.le_of_ble_eq_true rfl) (Nat.le_of_ble_eq_true rfl) ⟨_, rfl, rfl, ⟨by rw [if_neg (by omega)], by rw [if_neg (by omega)]⟩⟩
    · exact absurd hup h17
  · exact absurd h5 (by decide)
abbrev zm_tcC (X : wx_S) (r : Nat) : Prop := X 192 r = 1 ∧ X 136 13 < 800
def zm_tm (X : wx_S) (r : Nat) : wx_S := wx_u X 216 r (if X 216 r < 3 then X 216 r + 1 else 3)
set_option maxRecDepth 100000 in
set_option maxHeartbeats 4000000 in
theorem mm_Mo_tick_bad (X : wx_S) (n : Nat) (hn : n < 4294967296) (hb : 4 ≤ n) : nw_M wd_all yy_Mo_tick cc_Mo_tick 2 (some .boolean) 7 0 0 [.ref 136, .int (nI n)] X (fun v X' => v = some (.int (nI 0)) ∧ X' = wx_u X 136 0 1) := by
  refine nw_of [some (.ref 136), some (.int (nI n))] (by decide +kernel) rfl (Nat.le_of_ble_eq_true rfl) rfl ?_
  intro p l e s m args below meth c A g C
  refine cw_aload_n C dd_Mo_tick_0 rfl ?_
  refine cw_iload_n C dd_Mo_tick_1 rfl ?_
  refine cw_callV (As := [_]) C kV_Mo_193 wc_34 is_34 dd_Mo_tick_2 rfl rfl (Nat.le_of_ble_eq_true rfl) ⟨(Nat.le_of_ble_eq_true rfl), (Nat.le_of_ble_eq_true rfl)⟩ ⟨(Nat.le_of_ble_eq_true rfl), (Nat.le_of_ble_eq_true rfl)⟩ (mm_Mo_works_bad X n hn hb) (nw_ki ?_)
  refine nw_if_eq (tgt := 15) C dd_Mo_tick_5 (by decide) (by decide) (fun h5 => ?_) (fun h5 => ?_)
  · refine cw_iconst (v := nI 0) C dd_Mo_tick_15 (by decide +kernel) ?_
    exact cw_zreturn C dd_Mo_tick_16 (nw_zn (by decide)) (Nat.le_of_ble_eq_true rfl) (Nat.le_of_ble_eq_true rfl) ⟨_, rfl, rfl, ⟨rfl, rfl⟩⟩
  · exact absurd rfl h5
set_option maxRecDepth 100000 in
set_option maxHeartbeats 4000000 in
theorem mm_Mo_tick (X : wx_S) (r : Nat) (hr : r < 4) (hst : ∀ i, i < 4 → X 192 i < 4294967296) (hmm : X 136 13 ≤ 802) (htm : X 216 r < 2147483648) (hA : zm_tcC X r → nw_M wd_all yy_Mo_act cc_Mo_act 5 none 5 0 0 [.ref 136, .int (nI r)] (zm_tm (wx_u X 136 0 0) r) (fun v X' => v = none ∧ X' = zm_act (zm_tm (wx_u X 136 0 0) r) r)) : nw_M wd_all yy_Mo_tick cc_Mo_tick 2 (some .boolean) 7 0 0 [.ref 136, .int (nI r)] X (fun v X' => v = some (.int (nI (zb_n (zm_tcC X r)))) ∧ X' = if zm_tcC X r then zm_act (zm_tm (wx_u X 136 0 0) r) r else (wx_u X 136 0 0)) := by
  refine nw_of [some (.ref 136), some (.int (nI r))] (by decide +kernel) rfl (Nat.le_of_ble_eq_true rfl) rfl ?_
  intro p l e s m args below meth c A g C
  have e13 : wx_u X 136 0 0 136 13 = X 136 13 := wx_u_nk (by decide)
  have e16 : wx_u X 136 0 0 216 r = X 216 r := wx_u_nc (by decide)
  refine cw_aload_n C dd_Mo_tick_0 rfl ?_
  refine cw_iload_n C dd_Mo_tick_1 rfl ?_
  refine cw_callV (As := [_]) C kV_Mo_193 wc_34 is_34 dd_Mo_tick_2 rfl rfl (Nat.le_of_ble_eq_true rfl) ⟨(Nat.le_of_ble_eq_true rfl), (Nat.le_of_ble_eq_true rfl)⟩ ⟨(Nat.le_of_ble_eq_true rfl), (Nat.le_of_ble_eq_true rfl)⟩ (mm_Mo_works X r hr hst) (nw_ki ?_)
  refine nw_zeq (tgt := 15) C dd_Mo_tick_5 (by decide) (fun h5 => ?_) (fun h5 => ?_)
  · refine cw_iconst (v := nI 0) C dd_Mo_tick_15 (by decide +kernel) ?_
    exact cw_zreturn C dd_Mo_tick_16 (nw_zn (by decide)) (Nat.le_of_ble_eq_true rfl) (Nat.le_of_ble_eq_true rfl) ⟨_, rfl, rfl, ⟨congrArg (fun z => some (Value.int z)) (zb_f (by omega)), (if_neg (by omega)).symm⟩⟩
  · refine cw_aload_n C dd_Mo_tick_8 rfl ?_
    refine cw_callV (As := []) C kV_Mo_196 wc_34 is_34 dd_Mo_tick_9 rfl rfl (Nat.le_of_ble_eq_true rfl) ⟨(Nat.le_of_ble_eq_true rfl), (Nat.le_of_ble_eq_true rfl)⟩ ⟨(Nat.le_of_ble_eq_true rfl), (Nat.le_of_ble_eq_true rfl)⟩ (mm_Mo_full (wx_u X 136 0 0) (by rw [e13]; omega)) (nw_ki ?_)
    rw [e13]
    refine nw_zeq (tgt := 17) C dd_Mo_tick_12 (by decide) (fun h12 => ?_) (fun h12 => ?_)
    · refine cw_aload_n C dd_Mo_tick_17 rfl ?_
      refine cw_getr (q' := 216) C wc_34 kF_Mo_68 is_34 (by decide) rfl dd_Mo_tick_18 rfl ?_
      refine cw_iload_n C dd_Mo_tick_21 rfl ?_
      refine cw_aload_n C dd_Mo_tick_22 rfl ?_
      refine cw_getr (q' := 216) C wc_34 kF_Mo_68 is_34 (by decide) rfl dd_Mo_tick_23 rfl ?_
      refine cw_iload_n C dd_Mo_tick_26 rfl ?_
      refine nw_ialdv C (X 216 r) is_54 (by first | omega | (simp [wx_u] <;> omega)) (by decide) dd_Mo_tick_27 (by repeat (first | rfl | rw [wx_u_eq] | rw [wx_u_nc (by omega)] | rw [wx_u_nk (by omega)])) ?_
      refine cw_iconst (v := nI 3) C dd_Mo_tick_28 (by decide +kernel) ?_
      refine nw_icmp_ge (tgt := 43) C dd_Mo_tick_29 (by decide) (by first | omega | (simp [wx_u] <;> omega)) (by first | omega | (simp [wx_u] <;> omega)) (fun h29 => ?_) (fun h29 => ?_)
      · refine cw_iconst (v := nI 3) C dd_Mo_tick_43 (by decide +kernel) ?_
        refine nw_iast C is_54 (by first | omega | (simp [wx_u] <;> omega)) (by decide) dd_Mo_tick_44 ?_
        refine cw_aload_n C dd_Mo_tick_45 rfl ?_
        refine cw_iload_n C dd_Mo_tick_46 rfl ?_
        have hg : zm_tcC X r := ⟨h5, by omega⟩
        have e17 : zm_tm (wx_u X 136 0 0) r = wx_u (wx_u X 136 0 0) 216 r 3 := by rw [zm_tm, e16]; rw [if_neg (by omega)]
        rw [← e17]
        refine cw_callV (As := [_]) C kV_Mo_134 wc_34 is_34 dd_Mo_tick_47 rfl rfl (Nat.le_of_ble_eq_true rfl) ⟨(Nat.le_of_ble_eq_true rfl), (Nat.le_of_ble_eq_true rfl)⟩ ⟨(Nat.le_of_ble_eq_true rfl), (Nat.le_of_ble_eq_true rfl)⟩ (hA hg) (nw_kv ?_)
        refine cw_iconst (v := nI 1) C dd_Mo_tick_50 (by decide +kernel) ?_
        exact cw_zreturn C dd_Mo_tick_51 (nw_zn (by decide)) (Nat.le_of_ble_eq_true rfl) (Nat.le_of_ble_eq_true rfl) ⟨_, rfl, rfl, ⟨congrArg (fun z => some (Value.int z)) (zb_t hg), (if_pos hg).symm⟩⟩
      · refine cw_aload_n C dd_Mo_tick_32 rfl ?_
        refine cw_getr (q' := 216) C wc_34 kF_Mo_68 is_34 (by decide) rfl dd_Mo_tick_33 rfl ?_
        refine cw_iload_n C dd_Mo_tick_36 rfl ?_
        refine nw_ialdv C (X 216 r) is_54 (by first | omega | (simp [wx_u] <;> omega)) (by decide) dd_Mo_tick_37 (by repeat (first | rfl | rw [wx_u_eq] | rw [wx_u_nc (by omega)] | rw [wx_u_nk (by omega)])) ?_
        refine cw_iconst (v := nI 1) C dd_Mo_tick_38 (by decide +kernel) ?_
        refine nw_iadd C dd_Mo_tick_39 ?_
        refine cw_goto (tgt := 44) C dd_Mo_tick_40 (by decide) ?_
        refine nw_iast C is_54 (by first | omega | (simp [wx_u] <;> omega)) (by decide) dd_Mo_tick_44 ?_
        refine cw_aload_n C dd_Mo_tick_45 rfl ?_
        refine cw_iload_n C dd_Mo_tick_46 rfl ?_
        have hg : zm_tcC X r := ⟨h5, by omega⟩
        have e17 : zm_tm (wx_u X 136 0 0) r = wx_u (wx_u X 136 0 0) 216 r (X 216 r + 1) := by rw [zm_tm, e16]; rw [if_pos (by omega)]
        rw [← e17]
        refine cw_callV (As := [_]) C kV_Mo_134 wc_34 is_34 dd_Mo_tick_47 rfl rfl (Nat.le_of_ble_eq_true rfl) ⟨(Nat.le_of_ble_eq_true rfl), (Nat.le_of_ble_eq_true rfl)⟩ ⟨(Nat.le_of_ble_eq_true rfl), (Nat.le_of_ble_eq_true rfl)⟩ (hA hg) (nw_kv ?_)
        refine cw_iconst (v := nI 1) C dd_Mo_tick_50 (by decide +kernel) ?_
        exact cw_zreturn C dd_Mo_tick_51 (nw_zn (by decide)) (Nat.le_of_ble_eq_true rfl) (Nat.le_of_ble_eq_true rfl) ⟨_, rfl, rfl, ⟨congrArg (fun z => some (Value.int z)) (zb_t hg), (if_pos hg).symm⟩⟩
    · refine cw_iconst (v := nI 0) C dd_Mo_tick_15 (by decide +kernel) ?_
      exact cw_zreturn C dd_Mo_tick_16 (nw_zn (by decide)) (Nat.le_of_ble_eq_true rfl) (Nat.le_of_ble_eq_true rfl) ⟨_, rfl, rfl, ⟨congrArg (fun z => some (Value.int z)) (zb_f (by omega)), (if_neg (by omega)).symm⟩⟩
set_option maxRecDepth 100000 in
set_option maxHeartbeats 4000000 in
theorem mm_Mo_crash_bad (X : wx_S) (n : Nat) (hn : n < 4294967296) (hb : 4 ≤ n) : nw_M wd_all yy_Mo_crash cc_Mo_crash 2 (some .boolean) 4 0 0 [.ref 136, .int (nI n)] X (fun v X' => v = some (.int (nI 0)) ∧ X' = wx_u X 136 0 1) := by
  refine nw_of [some (.ref 136), some (.int (nI n))] (by decide +kernel) rfl (Nat.le_of_ble_eq_true rfl) rfl ?_
  intro p l e s m args below meth c A g C
  refine cw_aload_n C dd_Mo_crash_0 rfl ?_
  refine cw_iload_n C dd_Mo_crash_1 rfl ?_
  refine cw_callV (As := [_]) C kV_Mo_193 wc_34 is_34 dd_Mo_crash_2 rfl rfl (Nat.le_of_ble_eq_true rfl) ⟨(Nat.le_of_ble_eq_true rfl), (Nat.le_of_ble_eq_true rfl)⟩ ⟨(Nat.le_of_ble_eq_true rfl), (Nat.le_of_ble_eq_true rfl)⟩ (mm_Mo_works_bad X n hn hb) (nw_ki ?_)
  refine nw_if_ne (tgt := 10) C dd_Mo_crash_5 (by decide) (by decide) (fun h5 => ?_) (fun h5 => ?_)
  · exact absurd rfl h5
  · refine cw_iconst (v := nI 0) C dd_Mo_crash_8 (by decide +kernel) ?_
    exact cw_zreturn C dd_Mo_crash_9 (nw_zn (by decide)) (Nat.le_of_ble_eq_true rfl) (Nat.le_of_ble_eq_true rfl) ⟨_, rfl, rfl, ⟨rfl, rfl⟩⟩
set_option maxRecDepth 100000 in
set_option maxHeartbeats 4000000 in
theorem mm_Mo_crash (X : wx_S) (r : Nat) (hr : r < 4) (hst : ∀ i, i < 4 → X 192 i < 4294967296) : nw_M wd_all yy_Mo_crash cc_Mo_crash 2 (some .boolean) 4 0 0 [.ref 136, .int (nI r)] X (fun v X' => v = some (.int (nI (zb_n (X 192 r = 1)))) ∧ X' = if X 192 r = 1 then zm_fall (wx_u X 136 0 0) r else (wx_u X 136 0 0)) := by
  refine nw_of [some (.ref 136), some (.int (nI r))] (by decide +kernel) rfl (Nat.le_of_ble_eq_true rfl) rfl ?_
  intro p l e s m args below meth c A g C
  refine cw_aload_n C dd_Mo_crash_0 rfl ?_
  refine cw_iload_n C dd_Mo_crash_1 rfl ?_
  refine cw_callV (As := [_]) C kV_Mo_193 wc_34 is_34 dd_Mo_crash_2 rfl rfl (Nat.le_of_ble_eq_true rfl) ⟨(Nat.le_of_ble_eq_true rfl), (Nat.le_of_ble_eq_true rfl)⟩ ⟨(Nat.le_of_ble_eq_true rfl), (Nat.le_of_ble_eq_true rfl)⟩ (mm_Mo_works X r hr hst) (nw_ki ?_)
  refine nw_zne (tgt := 10) C dd_Mo_crash_5 (by decide) (fun h5 => ?_) (fun h5 => ?_)
  · refine cw_aload_n C dd_Mo_crash_10 rfl ?_
    refine cw_iload_n C dd_Mo_crash_11 rfl ?_
    refine cw_callV (As := [_]) C kV_Mo_109 wc_34 is_34 dd_Mo_crash_12 rfl rfl (Nat.le_of_ble_eq_true rfl) ⟨(Nat.le_of_ble_eq_true rfl), (Nat.le_of_ble_eq_true rfl)⟩ ⟨(Nat.le_of_ble_eq_true rfl), (Nat.le_of_ble_eq_true rfl)⟩ (mm_Mo_fall (wx_u X 136 0 0) r hr) (nw_kv ?_)
    refine cw_iconst (v := nI 1) C dd_Mo_crash_15 (by decide +kernel) ?_
    exact cw_zreturn C dd_Mo_crash_16 (nw_zn (by decide)) (Nat.le_of_ble_eq_true rfl) (Nat.le_of_ble_eq_true rfl) ⟨_, rfl, rfl, ⟨congrArg (fun z => some (Value.int z)) (zb_t h5), (if_pos h5).symm⟩⟩
  · refine cw_iconst (v := nI 0) C dd_Mo_crash_8 (by decide +kernel) ?_
    exact cw_zreturn C dd_Mo_crash_9 (nw_zn (by decide)) (Nat.le_of_ble_eq_true rfl) (Nat.le_of_ble_eq_true rfl) ⟨_, rfl, rfl, ⟨congrArg (fun z => some (Value.int z)) (zb_f h5), (if_neg h5).symm⟩⟩
def zm_restart (X : wx_S) (r : Nat) : wx_S := if X 136 13 < 800 then zm_act (wx_u X 192 r 1) r else wx_u X 192 r 1
set_option maxRecDepth 100000 in
set_option maxHeartbeats 4000000 in
theorem mm_Mo_restart_bad (X : wx_S) (n : Nat) (hn : n < 4294967296) (hb : 4 ≤ n) : nw_M wd_all yy_Mo_restart cc_Mo_restart 2 (some .boolean) 6 0 0 [.ref 136, .int (nI n)] X (fun v X' => v = some (.int (nI 0)) ∧ X' = wx_u X 136 0 1) := by
  refine nw_of [some (.ref 136), some (.int (nI n))] (by decide +kernel) rfl (Nat.le_of_ble_eq_true rfl) rfl ?_
  intro p l e s m args below meth c A g C
  refine cw_aload_n C dd_Mo_restart_0 rfl ?_
  refine cw_iload_n C dd_Mo_restart_1 rfl ?_
  refine cw_callV (As := [_]) C kV_Mo_190 wc_34 is_34 dd_Mo_restart_2 rfl rfl (Nat.le_of_ble_eq_true rfl) ⟨(Nat.le_of_ble_eq_true rfl), (Nat.le_of_ble_eq_true rfl)⟩ ⟨(Nat.le_of_ble_eq_true rfl), (Nat.le_of_ble_eq_true rfl)⟩ (mm_Mo_isNode_bad X n hn hb) (nw_ki ?_)
  refine nw_if_eq (tgt := 17) C dd_Mo_restart_5 (by decide) (by decide) (fun h5 => ?_) (fun h5 => ?_)
  · refine cw_iconst (v := nI 0) C dd_Mo_restart_17 (by decide +kernel) ?_
    exact cw_zreturn C dd_Mo_restart_18 (nw_zn (by decide)) (Nat.le_of_ble_eq_true rfl) (Nat.le_of_ble_eq_true rfl) ⟨_, rfl, rfl, ⟨rfl, rfl⟩⟩
  · exact absurd rfl h5
set_option maxRecDepth 100000 in
set_option maxHeartbeats 4000000 in
theorem mm_Mo_restart (X : wx_S) (r : Nat) (hr : r < 4) (hst : ∀ i, i < 4 → X 192 i < 4294967296) (hmm : X 136 13 ≤ 802) (hA : X 192 r = 0 → X 136 13 < 800 → nw_M wd_all yy_Mo_act cc_Mo_act 5 none 5 0 0 [.ref 136, .int (nI r)] (wx_u (wx_u X 136 0 0) 192 r 1) (fun v X' => v = none ∧ X' = zm_act (wx_u (wx_u X 136 0 0) 192 r 1) r)) : nw_M wd_all yy_Mo_restart cc_Mo_restart 2 (some .boolean) 6 0 0 [.ref 136, .int (nI r)] X (fun v X' => v = some (.int (nI (zb_n (X 192 r = 0)))) ∧ X' = if X 192 r = 0 then zm_restart (wx_u X 136 0 0) r else (wx_u X 136 0 0)) := by
  refine nw_of [some (.ref 136), some (.int (nI r))] (by decide +kernel) rfl (Nat.le_of_ble_eq_true rfl) rfl ?_
  intro p l e s m args below meth c A g C
  have g1 := hst r hr
  have e13 : wx_u X 136 0 0 136 13 = X 136 13 := wx_u_nk (by decide)
  have e14 : wx_u (wx_u X 136 0 0) 192 r 1 136 13 = X 136 13 := by rw [wx_u_nc (by decide)]; exact e13
  refine cw_aload_n C dd_Mo_restart_0 rfl ?_
  refine cw_iload_n C dd_Mo_restart_1 rfl ?_
  refine cw_callV (As := [_]) C kV_Mo_190 wc_34 is_34 dd_Mo_restart_2 rfl rfl (Nat.le_of_ble_eq_true rfl) ⟨(Nat.le_of_ble_eq_true rfl), (Nat.le_of_ble_eq_true rfl)⟩ ⟨(Nat.le_of_ble_eq_true rfl), (Nat.le_of_ble_eq_true rfl)⟩ (mm_Mo_isNode X r hr) (nw_ki ?_)
  refine nw_if_eq (tgt := 17) C dd_Mo_restart_5 (by decide) (by decide) (fun h5 => ?_) (fun h5 => ?_)
  · exact absurd h5 (by decide)
  · refine cw_aload_n C dd_Mo_restart_8 rfl ?_
    refine cw_getr (q' := 192) C wc_34 kF_Mo_50 is_34 (by decide) rfl dd_Mo_restart_9 rfl ?_
    refine cw_iload_n C dd_Mo_restart_12 rfl ?_
    refine nw_ialdv C (X 192 r) is_48 (by first | omega | (simp [wx_u] <;> omega)) (by decide) dd_Mo_restart_13 (by repeat (first | rfl | rw [wx_u_eq] | rw [wx_u_nc (by omega)] | rw [wx_u_nk (by omega)])) ?_
    refine nw_if_eq (tgt := 19) C dd_Mo_restart_14 (by decide) (by first | omega | (simp [wx_u] <;> omega)) (fun h14 => ?_) (fun h14 => ?_)
    · refine cw_aload_n C dd_Mo_restart_19 rfl ?_
      refine cw_getr (q' := 192) C wc_34 kF_Mo_50 is_34 (by decide) rfl dd_Mo_restart_20 rfl ?_
      refine cw_iload_n C dd_Mo_restart_23 rfl ?_
      refine cw_iconst (v := nI 1) C dd_Mo_restart_24 (by decide +kernel) ?_
      refine nw_iast C is_48 (by first | omega | (simp [wx_u] <;> omega)) (by decide) dd_Mo_restart_25 ?_
      refine cw_aload_n C dd_Mo_restart_26 rfl ?_
      refine cw_callV (As := []) C kV_Mo_196 wc_34 is_34 dd_Mo_restart_27 rfl rfl (Nat.le_of_ble_eq_true rfl) ⟨(Nat.le_of_ble_eq_true rfl), (Nat.le_of_ble_eq_true rfl)⟩ ⟨(Nat.le_of_ble_eq_true rfl), (Nat.le_of_ble_eq_true rfl)⟩ (mm_Mo_full (wx_u (wx_u X 136 0 0) 192 r 1) (by rw [e14]; omega)) (nw_ki ?_)
      rw [e14]
      refine nw_zne (tgt := 38) C dd_Mo_restart_30 (by decide) (fun h30 => ?_) (fun h30 => ?_)
      · refine cw_iconst (v := nI 1) C dd_Mo_restart_38 (by decide +kernel) ?_
        exact cw_zreturn C dd_Mo_restart_39 (nw_zn (by decide)) (Nat.le_of_ble_eq_true rfl) (Nat.le_of_ble_eq_true rfl) ⟨_, rfl, rfl, ⟨congrArg (fun z => some (Value.int z)) (zb_t h14), by rw [if_pos h14, zm_restart, e13]; first | rw [if_neg (by omega)] | rw [if_pos (by omega)]⟩⟩
      · refine cw_aload_n C dd_Mo_restart_33 rfl ?_
        refine cw_iload_n C dd_Mo_restart_34 rfl ?_
        refine cw_callV (As := [_]) C kV_Mo_134 wc_34 is_34 dd_Mo_restart_35 rfl rfl (Nat.le_of_ble_eq_true rfl) ⟨(Nat.le_of_ble_eq_true rfl), (Nat.le_of_ble_eq_true rfl)⟩ ⟨(Nat.le_of_ble_eq_true rfl), (Nat.le_of_ble_eq_true rfl)⟩ (hA h14 (by omega)) (nw_kv ?_)
        refine cw_iconst (v := nI 1) C dd_Mo_restart_38 (by decide +kernel) ?_
        exact cw_zreturn C dd_Mo_restart_39 (nw_zn (by decide)) (Nat.le_of_ble_eq_true rfl) (Nat.le_of_ble_eq_true rfl) ⟨_, rfl, rfl, ⟨congrArg (fun z => some (Value.int z)) (zb_t h14), by rw [if_pos h14, zm_restart, e13]; first | rw [if_neg (by omega)] | rw [if_pos (by omega)]⟩⟩
    · refine cw_iconst (v := nI 0) C dd_Mo_restart_17 (by decide +kernel) ?_
      exact cw_zreturn C dd_Mo_restart_18 (nw_zn (by decide)) (Nat.le_of_ble_eq_true rfl) (Nat.le_of_ble_eq_true rfl) ⟨_, rfl, rfl, ⟨congrArg (fun z => some (Value.int z)) (zb_f h14), (if_neg h14).symm⟩⟩
set_option maxRecDepth 100000 in
set_option maxHeartbeats 4000000 in
theorem mm_Mo_cut_bad (X : wx_S) (n : Nat) (hn : n < 4294967296) (hb : 4 ≤ n) (k : Nat) : nw_M wd_all yy_Mo_cut cc_Mo_cut 3 (some .boolean) 4 0 0 [.ref 136, .int (nI n), .int (nI k)] X (fun v X' => v = some (.int (nI 0)) ∧ X' = wx_u X 136 0 1) := by
  refine nw_of [some (.ref 136), some (.int (nI n)), some (.int (nI k))] (by decide +kernel) rfl (Nat.le_of_ble_eq_true rfl) rfl ?_
  intro p l e s m args below meth c A g C
  refine cw_aload_n C dd_Mo_cut_0 rfl ?_
  refine cw_iload_n C dd_Mo_cut_1 rfl ?_
  refine cw_callV (As := [_]) C kV_Mo_193 wc_34 is_34 dd_Mo_cut_2 rfl rfl (Nat.le_of_ble_eq_true rfl) ⟨(Nat.le_of_ble_eq_true rfl), (Nat.le_of_ble_eq_true rfl)⟩ ⟨(Nat.le_of_ble_eq_true rfl), (Nat.le_of_ble_eq_true rfl)⟩ (mm_Mo_works_bad X n hn hb) (nw_ki ?_)
  refine nw_if_eq (tgt := 12) C dd_Mo_cut_5 (by decide) (by decide) (fun h5 => ?_) (fun h5 => ?_)
  · refine cw_iconst (v := nI 0) C dd_Mo_cut_12 (by decide +kernel) ?_
    exact cw_zreturn C dd_Mo_cut_13 (nw_zn (by decide)) (Nat.le_of_ble_eq_true rfl) (Nat.le_of_ble_eq_true rfl) ⟨_, rfl, rfl, ⟨rfl, rfl⟩⟩
  · exact absurd rfl h5
set_option maxRecDepth 100000 in
set_option maxHeartbeats 4000000 in
theorem mm_Mo_cut (X : wx_S) (r : Nat) (hr : r < 4) (k : Nat) (hk : k < 4294967296) (hst : ∀ i, i < 4 → X 192 i < 4294967296) : nw_M wd_all yy_Mo_cut cc_Mo_cut 3 (some .boolean) 4 0 0 [.ref 136, .int (nI r), .int (nI k)] X (fun v X' => v = some (.int (nI (zb_n (k < 2147483648 ∧ X 192 r = 1)))) ∧ X' = if k < 2147483648 ∧ X 192 r = 1 then wx_u (wx_u X 136 0 0) 200 r k else (wx_u X 136 0 0)) := by
  refine nw_of [some (.ref 136), some (.int (nI r)), some (.int (nI k))] (by decide +kernel) rfl (Nat.le_of_ble_eq_true rfl) rfl ?_
  intro p l e s m args below meth c A g C
  refine cw_aload_n C dd_Mo_cut_0 rfl ?_
  refine cw_iload_n C dd_Mo_cut_1 rfl ?_
  refine cw_callV (As := [_]) C kV_Mo_193 wc_34 is_34 dd_Mo_cut_2 rfl rfl (Nat.le_of_ble_eq_true rfl) ⟨(Nat.le_of_ble_eq_true rfl), (Nat.le_of_ble_eq_true rfl)⟩ ⟨(Nat.le_of_ble_eq_true rfl), (Nat.le_of_ble_eq_true rfl)⟩ (mm_Mo_works X r hr hst) (nw_ki ?_)
  refine nw_zeq (tgt := 12) C dd_Mo_cut_5 (by decide) (fun h5 => ?_) (fun h5 => ?_)
  · refine cw_iconst (v := nI 0) C dd_Mo_cut_12 (by decide +kernel) ?_
    exact cw_zreturn C dd_Mo_cut_13 (nw_zn (by decide)) (Nat.le_of_ble_eq_true rfl) (Nat.le_of_ble_eq_true rfl) ⟨_, rfl, rfl, ⟨congrArg (fun z => some (Value.int z)) (zb_f (by omega)), (if_neg (by omega)).symm⟩⟩
  · refine cw_iload_n C dd_Mo_cut_8 rfl ?_
    refine nw_if_ge (tgt := 14) C dd_Mo_cut_9 (by decide) (by first | omega | (simp [wx_u] <;> omega)) (fun h9 => ?_) (fun h9 => ?_)
    · refine cw_aload_n C dd_Mo_cut_14 rfl ?_
      refine cw_getr (q' := 200) C wc_34 kF_Mo_56 is_34 (by decide) rfl dd_Mo_cut_15 rfl ?_
      refine cw_iload_n C dd_Mo_cut_18 rfl ?_
      refine cw_iload_n C dd_Mo_cut_19 rfl ?_
      refine nw_iast C is_50 (by first | omega | (simp [wx_u] <;> omega)) (by decide) dd_Mo_cut_20 ?_
      refine cw_iconst (v := nI 1) C dd_Mo_cut_21 (by decide +kernel) ?_
      exact cw_zreturn C dd_Mo_cut_22 (nw_zn (by decide)) (Nat.le_of_ble_eq_true rfl) (Nat.le_of_ble_eq_true rfl) ⟨_, rfl, rfl, ⟨congrArg (fun z => some (Value.int z)) (zb_t ⟨h9, h5⟩), (if_pos ⟨h9, h5⟩).symm⟩⟩
    · refine cw_iconst (v := nI 0) C dd_Mo_cut_12 (by decide +kernel) ?_
      exact cw_zreturn C dd_Mo_cut_13 (nw_zn (by decide)) (Nat.le_of_ble_eq_true rfl) (Nat.le_of_ble_eq_true rfl) ⟨_, rfl, rfl, ⟨congrArg (fun z => some (Value.int z)) (zb_f (by omega)), (if_neg (by omega)).symm⟩⟩
def zm_fl (X : wx_S) : Nat := if X 192 0 = 2 then 0 else if X 192 1 = 2 then 1 else if X 192 2 = 2 then 2 else if X 192 3 = 2 then 3 else 4294967295
theorem zm_fl_lt (X : wx_S) : zm_fl X < 4 ∨ zm_fl X = 4294967295 := by
  unfold zm_fl; repeat' split
  all_goals omega
theorem zm_fl_eq {X Y : wx_S} (h : ∀ k, X 192 k = Y 192 k) : zm_fl X = zm_fl Y := by unfold zm_fl; rw [h, h, h, h]
set_option maxRecDepth 100000 in
set_option maxHeartbeats 4000000 in
theorem mm_Mo_faulty (X : wx_S) (hst : ∀ i, i < 4 → X 192 i < 4294967296) : nw_M wd_all yy_Mo_faulty cc_Mo_faulty 2 (some .int) 1 0 0 [.ref 136] X (fun v X' => v = some (.int (nI (zm_fl X))) ∧ X' = X) := by
  refine nw_of [some (.ref 136), none] (by decide +kernel) rfl (Nat.le_of_ble_eq_true rfl) rfl ?_
  intro p l e s m args below meth c A g C
  have g1 := hst 0 (by decide)
  have g2 := hst 1 (by decide)
  have g3 := hst 2 (by decide)
  have g4 := hst 3 (by decide)
  refine cw_iconst (v := nI 0) C dd_Mo_faulty_0 (by decide +kernel) ?_
  refine cw_istore_n C dd_Mo_faulty_1 (Nat.le_of_ble_eq_true rfl) ?_
  refine cw_iload_n C dd_Mo_faulty_2 rfl ?_
  refine cw_iconst (v := nI 4) C dd_Mo_faulty_3 (by decide +kernel) ?_
  refine nw_icmp_ge (tgt := 25) C dd_Mo_faulty_4 (by decide) (by first | omega | (simp [wx_u] <;> omega)) (by first | omega | (simp [wx_u] <;> omega)) (fun h4 => ?_) (fun h4 => ?_)
  · exact absurd h4 (by omega)
  · refine cw_aload_n C dd_Mo_faulty_7 rfl ?_
    refine cw_getr (q' := 192) C wc_34 kF_Mo_50 is_34 (by decide) rfl dd_Mo_faulty_8 rfl ?_
    refine cw_iload_n C dd_Mo_faulty_11 rfl ?_
    refine nw_iald C is_48 (by first | omega | (simp [wx_u] <;> omega)) (by decide) dd_Mo_faulty_12 ?_
    refine cw_iconst (v := nI 2) C dd_Mo_faulty_13 (by decide +kernel) ?_
    refine nw_icmp_ne (tgt := 19) C dd_Mo_faulty_14 (by decide) (by first | assumption | (simp only [Nat.zero_add]; assumption) | (simp only [Nat.zero_add, Nat.reduceAdd]; assumption)) (by first | omega | (simp [wx_u] <;> omega)) (fun h14 => ?_) (fun h14 => ?_)
    · refine nw_iinc (b := 1) C dd_Mo_faulty_19 (by decide +kernel) rfl (Nat.le_of_ble_eq_true rfl) ?_
      refine cw_goto (tgt := 2) C dd_Mo_faulty_22 (by decide) ?_
      refine cw_iload_n C dd_Mo_faulty_2 rfl ?_
      refine cw_iconst (v := nI 4) C dd_Mo_faulty_3 (by decide +kernel) ?_
      refine nw_icmp_ge (tgt := 25) C dd_Mo_faulty_4 (by decide) (by first | omega | (simp [wx_u] <;> omega)) (by first | omega | (simp [wx_u] <;> omega)) (fun h4 => ?_) (fun h4 => ?_)
      · exact absurd h4 (by omega)
      · refine cw_aload_n C dd_Mo_faulty_7 rfl ?_
        refine cw_getr (q' := 192) C wc_34 kF_Mo_50 is_34 (by decide) rfl dd_Mo_faulty_8 rfl ?_
        refine cw_iload_n C dd_Mo_faulty_11 rfl ?_
        refine nw_iald C is_48 (by first | omega | (simp [wx_u] <;> omega)) (by decide) dd_Mo_faulty_12 ?_
        refine cw_iconst (v := nI 2) C dd_Mo_faulty_13 (by decide +kernel) ?_
        refine nw_icmp_ne (tgt := 19) C dd_Mo_faulty_14 (by decide) (by first | assumption | (simp only [Nat.zero_add]; assumption) | (simp only [Nat.zero_add, Nat.reduceAdd]; assumption)) (by first | omega | (simp [wx_u] <;> omega)) (fun h14 => ?_) (fun h14 => ?_)
        · refine nw_iinc (b := 1) C dd_Mo_faulty_19 (by decide +kernel) rfl (Nat.le_of_ble_eq_true rfl) ?_
          refine cw_goto (tgt := 2) C dd_Mo_faulty_22 (by decide) ?_
          refine cw_iload_n C dd_Mo_faulty_2 rfl ?_
          refine cw_iconst (v := nI 4) C dd_Mo_faulty_3 (by decide +kernel) ?_
          refine nw_icmp_ge (tgt := 25) C dd_Mo_faulty_4 (by decide) (by first | omega | (simp [wx_u] <;> omega)) (by first | omega | (simp [wx_u] <;> omega)) (fun h4 => ?_) (fun h4 => ?_)
          · exact absurd h4 (by omega)
          · refine cw_aload_n C dd_Mo_faulty_7 rfl ?_
            refine cw_getr (q' := 192) C wc_34 kF_Mo_50 is_34 (by decide) rfl dd_Mo_faulty_8 rfl ?_
            refine cw_iload_n C dd_Mo_faulty_11 rfl ?_
            refine nw_iald C is_48 (by first | omega | (simp [wx_u] <;> omega)) (by decide) dd_Mo_faulty_12 ?_
            refine cw_iconst (v := nI 2) C dd_Mo_faulty_13 (by decide +kernel) ?_
            refine nw_icmp_ne (tgt := 19) C dd_Mo_faulty_14 (by decide) (by first | assumption | (simp only [Nat.zero_add]; assumption) | (simp only [Nat.zero_add, Nat.reduceAdd]; assumption)) (by first | omega | (simp [wx_u] <;> omega)) (fun h14 => ?_) (fun h14 => ?_)
            · refine nw_iinc (b := 1) C dd_Mo_faulty_19 (by decide +kernel) rfl (Nat.le_of_ble_eq_true rfl) ?_
              refine cw_goto (tgt := 2) C dd_Mo_faulty_22 (by decide) ?_
              refine cw_iload_n C dd_Mo_faulty_2 rfl ?_
              refine cw_iconst (v := nI 4) C dd_Mo_faulty_3 (by decide +kernel) ?_
              refine nw_icmp_ge (tgt := 25) C dd_Mo_faulty_4 (by decide) (by first | omega | (simp [wx_u] <;> omega)) (by first | omega | (simp [wx_u] <;> omega)) (fun h4 => ?_) (fun h4 => ?_)
              · exact absurd h4 (by omega)
              · refine cw_aload_n C dd_Mo_faulty_7 rfl ?_
                refine cw_getr (q' := 192) C wc_34 kF_Mo_50 is_34 (by decide) rfl dd_Mo_faulty_8 rfl ?_
                refine cw_iload_n C dd_Mo_faulty_11 rfl ?_
                refine nw_iald C is_48 (by first | omega | (simp [wx_u] <;> omega)) (by decide) dd_Mo_faulty_12 ?_
                refine cw_iconst (v := nI 2) C dd_Mo_faulty_13 (by decide +kernel) ?_
                refine nw_icmp_ne (tgt := 19) C dd_Mo_faulty_14 (by decide) (by first | assumption | (simp only [Nat.zero_add]; assumption) | (simp only [Nat.zero_add, Nat.reduceAdd]; assumption)) (by first | omega | (simp [wx_u] <;> omega)) (fun h14 => ?_) (fun h14 => ?_)
                · refine nw_iinc (b := 1) C dd_Mo_faulty_19 (by decide +kernel) rfl (Nat.le_of_ble_eq_true rfl) ?_
                  refine cw_goto (tgt := 2) C dd_Mo_faulty_22 (by decide) ?_
                  refine cw_iload_n C dd_Mo_faulty_2 rfl ?_
                  refine cw_iconst (v := nI 4) C dd_Mo_faulty_3 (by decide +kernel) ?_
                  refine nw_icmp_ge (tgt := 25) C dd_Mo_faulty_4 (by decide) (by first | omega | (simp [wx_u] <;> omega)) (by first | omega | (simp [wx_u] <;> omega)) (fun h4 => ?_) (fun h4 => ?_)
                  · refine cw_iconst (v := nI 4294967295) C dd_Mo_faulty_25 (by decide +kernel) ?_
                    exact cw_ireturn C dd_Mo_faulty_26 (Nat.le_of_ble_eq_true rfl) (Nat.le_of_ble_eq_true rfl) ⟨_, rfl, rfl, ⟨by simp [zm_fl, *], rfl⟩⟩
                  · exact absurd h4 (by decide)
                · refine cw_iload_n C dd_Mo_faulty_17 rfl ?_
                  exact cw_ireturn C dd_Mo_faulty_18 (Nat.le_of_ble_eq_true rfl) (Nat.le_of_ble_eq_true rfl) ⟨_, rfl, rfl, ⟨by simp [zm_fl, *], rfl⟩⟩
            · refine cw_iload_n C dd_Mo_faulty_17 rfl ?_
              exact cw_ireturn C dd_Mo_faulty_18 (Nat.le_of_ble_eq_true rfl) (Nat.le_of_ble_eq_true rfl) ⟨_, rfl, rfl, ⟨by simp [zm_fl, *], rfl⟩⟩
        · refine cw_iload_n C dd_Mo_faulty_17 rfl ?_
          exact cw_ireturn C dd_Mo_faulty_18 (Nat.le_of_ble_eq_true rfl) (Nat.le_of_ble_eq_true rfl) ⟨_, rfl, rfl, ⟨by simp [zm_fl, *], rfl⟩⟩
    · refine cw_iload_n C dd_Mo_faulty_17 rfl ?_
      exact cw_ireturn C dd_Mo_faulty_18 (Nat.le_of_ble_eq_true rfl) (Nat.le_of_ble_eq_true rfl) ⟨_, rfl, rfl, ⟨by simp [zm_fl, *], rfl⟩⟩
set_option maxRecDepth 100000 in
set_option maxHeartbeats 4000000 in
theorem mm_Mo_corrupt_bad (X : wx_S) (n : Nat) (hn : n < 4294967296) (hb : 4 ≤ n) : nw_M wd_all yy_Mo_corrupt cc_Mo_corrupt 2 (some .boolean) 4 0 0 [.ref 136, .int (nI n)] X (fun v X' => v = some (.int (nI 0)) ∧ X' = wx_u X 136 0 1) := by
  refine nw_of [some (.ref 136), some (.int (nI n))] (by decide +kernel) rfl (Nat.le_of_ble_eq_true rfl) rfl ?_
  intro p l e s m args below meth c A g C
  refine cw_aload_n C dd_Mo_corrupt_0 rfl ?_
  refine cw_iload_n C dd_Mo_corrupt_1 rfl ?_
  refine cw_callV (As := [_]) C kV_Mo_190 wc_34 is_34 dd_Mo_corrupt_2 rfl rfl (Nat.le_of_ble_eq_true rfl) ⟨(Nat.le_of_ble_eq_true rfl), (Nat.le_of_ble_eq_true rfl)⟩ ⟨(Nat.le_of_ble_eq_true rfl), (Nat.le_of_ble_eq_true rfl)⟩ (mm_Mo_isNode_bad X n hn hb) (nw_ki ?_)
  refine nw_if_eq (tgt := 15) C dd_Mo_corrupt_5 (by decide) (by decide) (fun h5 => ?_) (fun h5 => ?_)
  · refine cw_iconst (v := nI 0) C dd_Mo_corrupt_15 (by decide +kernel) ?_
    exact cw_zreturn C dd_Mo_corrupt_16 (nw_zn (by decide)) (Nat.le_of_ble_eq_true rfl) (Nat.le_of_ble_eq_true rfl) ⟨_, rfl, rfl, ⟨rfl, rfl⟩⟩
  · exact absurd rfl h5
def zm_corrupt (X : wx_S) (r : Nat) : wx_S := wx_u (wx_u X 136 34 (zb_n (X 192 r = 0))) 192 r 2
set_option maxRecDepth 100000 in
set_option maxHeartbeats 4000000 in
theorem mm_Mo_corrupt (X : wx_S) (r : Nat) (hr : r < 4) (hst : ∀ i, i < 4 → X 192 i < 4294967296) : nw_M wd_all yy_Mo_corrupt cc_Mo_corrupt 2 (some .boolean) 4 0 0 [.ref 136, .int (nI r)] X (fun v X' => v = some (.int (nI (zb_n (zm_fl X = 4294967295)))) ∧ X' = if zm_fl X = 4294967295 then zm_corrupt (wx_u X 136 0 0) r else (wx_u X 136 0 0)) := by
  refine nw_of [some (.ref 136), some (.int (nI r))] (by decide +kernel) rfl (Nat.le_of_ble_eq_true rfl) rfl ?_
  intro p l e s m args below meth c A g C
  have g1 := hst r hr
  have ef : zm_fl (wx_u X 136 0 0) = zm_fl X := zm_fl_eq (fun k => wx_u_nc (by decide))
  have gf := zm_fl_lt X
  have hz : ∀ i, i < 4 → wx_u X 136 0 0 192 i < 4294967296 := fun i hi => by rw [wx_u_nc (by decide)]; exact hst i hi
  have e19 : wx_u X 136 0 0 192 r = X 192 r := wx_u_nc (by decide)
  refine cw_aload_n C dd_Mo_corrupt_0 rfl ?_
  refine cw_iload_n C dd_Mo_corrupt_1 rfl ?_
  refine cw_callV (As := [_]) C kV_Mo_190 wc_34 is_34 dd_Mo_corrupt_2 rfl rfl (Nat.le_of_ble_eq_true rfl) ⟨(Nat.le_of_ble_eq_true rfl), (Nat.le_of_ble_eq_true rfl)⟩ ⟨(Nat.le_of_ble_eq_true rfl), (Nat.le_of_ble_eq_true rfl)⟩ (mm_Mo_isNode X r hr) (nw_ki ?_)
  refine nw_if_eq (tgt := 15) C dd_Mo_corrupt_5 (by decide) (by decide) (fun h5 => ?_) (fun h5 => ?_)
  · exact absurd h5 (by decide)
  · refine cw_aload_n C dd_Mo_corrupt_8 rfl ?_
    refine cw_callV (As := []) C kV_Mo_203 wc_34 is_34 dd_Mo_corrupt_9 rfl rfl (Nat.le_of_ble_eq_true rfl) ⟨(Nat.le_of_ble_eq_true rfl), (Nat.le_of_ble_eq_true rfl)⟩ ⟨(Nat.le_of_ble_eq_true rfl), (Nat.le_of_ble_eq_true rfl)⟩ (mm_Mo_faulty (wx_u X 136 0 0) hz) (nw_ki ?_)
    rw [ef]
    refine nw_if_lt (tgt := 17) C dd_Mo_corrupt_12 (by decide) (by first | omega | (simp [wx_u] <;> omega)) (fun h12 => ?_) (fun h12 => ?_)
    · refine cw_aload_n C dd_Mo_corrupt_17 rfl ?_
      refine cw_aload_n C dd_Mo_corrupt_18 rfl ?_
      refine cw_getr (q' := 192) C wc_34 kF_Mo_50 is_34 (by decide) rfl dd_Mo_corrupt_19 rfl ?_
      refine cw_iload_n C dd_Mo_corrupt_22 rfl ?_
      refine nw_ialdv C (X 192 r) is_48 (by first | omega | (simp [wx_u] <;> omega)) (by decide) dd_Mo_corrupt_23 (by repeat (first | rfl | rw [wx_u_eq] | rw [wx_u_nc (by omega)] | rw [wx_u_nk (by omega)])) ?_
      refine nw_if_ne (tgt := 31) C dd_Mo_corrupt_24 (by decide) (by first | omega | (simp [wx_u] <;> omega)) (fun h24 => ?_) (fun h24 => ?_)
      · refine cw_iconst (v := nI 0) C dd_Mo_corrupt_31 (by decide +kernel) ?_
        refine nw_puti C wc_34 kF_Mo_207 is_34 (by decide) rfl rfl (nw_zn (by decide)) (nw_zf (by decide)) dd_Mo_corrupt_32 ?_
        refine cw_aload_n C dd_Mo_corrupt_35 rfl ?_
        refine cw_getr (q' := 192) C wc_34 kF_Mo_50 is_34 (by decide) rfl dd_Mo_corrupt_36 rfl ?_
        refine cw_iload_n C dd_Mo_corrupt_39 rfl ?_
        refine cw_iconst (v := nI 2) C dd_Mo_corrupt_40 (by decide +kernel) ?_
        refine nw_iast C is_48 (by first | omega | (simp [wx_u] <;> omega)) (by decide) dd_Mo_corrupt_41 ?_
        refine cw_iconst (v := nI 1) C dd_Mo_corrupt_42 (by decide +kernel) ?_
        exact cw_zreturn C dd_Mo_corrupt_43 (nw_zn (by decide)) (Nat.le_of_ble_eq_true rfl) (Nat.le_of_ble_eq_true rfl) ⟨_, rfl, rfl, ⟨congrArg (fun z => some (Value.int z)) (zb_t (by omega)), by rw [if_pos (by omega), zm_corrupt, e19, zb_n, if_neg h24]⟩⟩
      · refine cw_iconst (v := nI 1) C dd_Mo_corrupt_27 (by decide +kernel) ?_
        refine cw_goto (tgt := 32) C dd_Mo_corrupt_28 (by decide) ?_
        refine nw_puti C wc_34 kF_Mo_207 is_34 (by decide) rfl rfl (nw_zn (by decide)) (nw_zf (by decide)) dd_Mo_corrupt_32 ?_
        refine cw_aload_n C dd_Mo_corrupt_35 rfl ?_
        refine cw_getr (q' := 192) C wc_34 kF_Mo_50 is_34 (by decide) rfl dd_Mo_corrupt_36 rfl ?_
        refine cw_iload_n C dd_Mo_corrupt_39 rfl ?_
        refine cw_iconst (v := nI 2) C dd_Mo_corrupt_40 (by decide +kernel) ?_
        refine nw_iast C is_48 (by first | omega | (simp [wx_u] <;> omega)) (by decide) dd_Mo_corrupt_41 ?_
        refine cw_iconst (v := nI 1) C dd_Mo_corrupt_42 (by decide +kernel) ?_
        exact cw_zreturn C dd_Mo_corrupt_43 (nw_zn (by decide)) (Nat.le_of_ble_eq_true rfl) (Nat.le_of_ble_eq_true rfl) ⟨_, rfl, rfl, ⟨congrArg (fun z => some (Value.int z)) (zb_t (by omega)), by rw [if_pos (by omega), zm_corrupt, e19, zb_n, if_pos h24]⟩⟩
    · refine cw_iconst (v := nI 0) C dd_Mo_corrupt_15 (by decide +kernel) ?_
      exact cw_zreturn C dd_Mo_corrupt_16 (nw_zn (by decide)) (Nat.le_of_ble_eq_true rfl) (Nat.le_of_ble_eq_true rfl) ⟨_, rfl, rfl, ⟨congrArg (fun z => some (Value.int z)) (zb_f (by omega)), (if_neg (by omega)).symm⟩⟩
