abbrev zc_pmC (X : wx_S) (r : Nat) : Prop := X (64 + r) 8 = 1 ∧ X 44 3 < 800 ∧ X (64 + r) 9 < X 44 3
def zc_pmS (X : wx_S) (r : Nat) : wx_S := zc_take (wx_u X (64 + r) 9 (X (64 + r) 9 + 1)) r (X (64 + r) 9)
def zc_pm (r : Nat) : Nat → wx_S → Nat × wx_S
  | 0, X => (0, X)
  | n + 1, X => if zc_pmC X r then ((zc_pm r n (zc_pmS X r)).1 + 1, (zc_pm r n (zc_pmS X r)).2) else (0, X)
set_option maxRecDepth 100000 in
set_option maxHeartbeats 4000000 in
theorem lp_Le_pump {p : Program} {l : Launch} {e : Env} {s : State} {m : MethodId} {args : Array Value} {below : List Frame} {meth : Method} {c : Code} {A : Nat → Prop} {g : wd_G} {G : State → Prop} (r : Nat) (hr : r < 4) (N : Nat) (hN : N < 2147483648) (J : wx_S → Prop) (hJ : ∀ X, J X → X (64 + r) 8 < 4294967296 ∧ X 44 3 ≤ 802 ∧ X (64 + r) 9 ≤ 802) (hT : ∀ X, J X → zc_pmC X r → nw_M wd_all yy_Re_take cc_Re_take 4 none 7 0 0 [.ref (64 + r), .int (nI (X (64 + r) 9))] (wx_u X (64 + r) 9 (X (64 + r) 9 + 1)) (fun v X' => v = none ∧ X' = zc_pmS X r) ∧ J (zc_pmS X r)) (R1 : Nat) (R2 : wx_S) (C : cw_C p s m args meth c A wd_all g cc_Le_pump 5 "DagLedger" (some .int)) (hA : cw_W p l e (cw_rm 8 0 0) s m args below meth c A wd_all g 0 0 G 5 85 [some (.ref 0), some (.int (nI r)), some (.int (nI N)), some (.ref (64 + r)), some (.int (nI R1))] [] (wx_e R2) (wx_l R2)) : ∀ (n i : Nat) (X : wx_S), i + n = N → J X → i + (zc_pm r n X).1 = R1 → (zc_pm r n X).2 = R2 → cw_W p l e (cw_rm 8 0 0) s m args below meth c A wd_all g 0 0 G 5 22 [some (.ref 0), some (.int (nI r)), some (.int (nI N)), some (.ref (64 + r)), some (.int (nI i))] [] (wx_e X) (wx_l X) := by
  intro n
  induction n with
  | zero =>
    intro i X hi hX h1 h2
    refine cw_iload C dd_Le_pump_22 rfl ?_
    refine cw_iload_n C dd_Le_pump_24 rfl ?_
    refine nw_icmp_ge (tgt := 85) C dd_Le_pump_25 (by decide) (by first | omega | (simp [wx_u] <;> omega)) (by first | omega | (simp [wx_u] <;> omega)) (fun h25 => ?_) (fun h25 => ?_)
    · have e1 : i = R1 := h1
      rw [e1]
      exact nw_eqX h2 hA
    · exact absurd h25 (by omega)
  | succ n ih =>
    intro i X hi hX h1 h2
    refine cw_iload C dd_Le_pump_22 rfl ?_
    refine cw_iload_n C dd_Le_pump_24 rfl ?_
    refine nw_icmp_ge (tgt := 85) C dd_Le_pump_25 (by decide) (by first | omega | (simp [wx_u] <;> omega)) (by first | omega | (simp [wx_u] <;> omega)) (fun h25 => ?_) (fun h25 => ?_)
    · exact absurd h25 (by omega)
    · refine cw_aload_n C dd_Le_pump_28 rfl ?_
      refine cw_callV (As := []) C kV_Le_78 wc_16 (is_16 hr) dd_Le_pump_29 rfl rfl (Nat.le_of_ble_eq_true rfl) ⟨(Nat.le_of_ble_eq_true rfl), (Nat.le_of_ble_eq_true rfl)⟩ ⟨(Nat.le_of_ble_eq_true rfl), (Nat.le_of_ble_eq_true rfl)⟩ (mm_Re_isUp X r hr (hJ X hX).1) (nw_ki ?_)
      refine nw_zeq (tgt := 85) C dd_Le_pump_32 (by decide) (fun h32 => ?_) (fun h32 => ?_)
      · have hn : ¬ zc_pmC X r := by omega
        rw [zc_pm, if_neg hn] at h1 h2
        have e1 : i = R1 := h1
        rw [e1]
        exact nw_eqX h2 hA
      · refine cw_aload_n C dd_Le_pump_35 rfl ?_
        refine cw_getr (q' := 44) C wc_0 kF_Le_26 is_0 (by decide) rfl dd_Le_pump_36 rfl ?_
        refine cw_callV (As := []) C kV_Le_81 wc_11 is_11 dd_Le_pump_39 rfl rfl (Nat.le_of_ble_eq_true rfl) ⟨(Nat.le_of_ble_eq_true rfl), (Nat.le_of_ble_eq_true rfl)⟩ ⟨(Nat.le_of_ble_eq_true rfl), (Nat.le_of_ble_eq_true rfl)⟩ (mm_Bo_isFull X (by have := hJ X hX; omega)) (nw_ki ?_)
        refine nw_zne (tgt := 85) C dd_Le_pump_42 (by decide) (fun h42 => ?_) (fun h42 => ?_)
        · have hn : ¬ zc_pmC X r := by omega
          rw [zc_pm, if_neg hn] at h1 h2
          have e1 : i = R1 := h1
          rw [e1]
          exact nw_eqX h2 hA
        · refine cw_aload_n C dd_Le_pump_45 rfl ?_
          refine cw_getr (q' := 44) C wc_0 kF_Le_26 is_0 (by decide) rfl dd_Le_pump_46 rfl ?_
          refine cw_aload_n C dd_Le_pump_49 rfl ?_
          refine nw_geti C wc_16 kF_Le_85 (is_16 hr) (by decide) rfl dd_Le_pump_50 ?_
          refine cw_callV (As := [_]) C kV_Le_75 wc_11 is_11 dd_Le_pump_53 rfl rfl (Nat.le_of_ble_eq_true rfl) ⟨(Nat.le_of_ble_eq_true rfl), (Nat.le_of_ble_eq_true rfl)⟩ ⟨(Nat.le_of_ble_eq_true rfl), (Nat.le_of_ble_eq_true rfl)⟩ (mm_Bo_has X _ (by have := hJ X hX; omega) (by have := hJ X hX; omega)) (nw_ki ?_)
          refine nw_zeq (tgt := 85) C dd_Le_pump_56 (by decide) (fun h56 => ?_) (fun h56 => ?_)
          · have hn : ¬ zc_pmC X r := by omega
            rw [zc_pm, if_neg hn] at h1 h2
            have e1 : i = R1 := h1
            rw [e1]
            exact nw_eqX h2 hA
          · have hg : zc_pmC X r := ⟨h32, by omega, h56⟩
            have hT9 := hT X hX hg
            refine cw_aload_n C dd_Le_pump_59 rfl ?_
            refine cw_dup C dd_Le_pump_60 rfl ?_
            refine nw_geti C wc_16 kF_Le_85 (is_16 hr) (by decide) rfl dd_Le_pump_61 ?_
            refine cw_iconst (v := nI 1) C dd_Le_pump_64 (by decide +kernel) ?_
            refine nw_iadd C dd_Le_pump_65 ?_
            refine nw_puti C wc_16 kF_Le_85 (is_16 hr) (by decide) rfl rfl rfl rfl dd_Le_pump_66 ?_
            refine cw_aload_n C dd_Le_pump_69 rfl ?_
            refine cw_aload_n C dd_Le_pump_70 rfl ?_
            refine nw_getiv C (X (64 + r) 9 + 1) wc_16 kF_Le_85 (is_16 hr) (by decide) rfl dd_Le_pump_71 (by repeat (first | rfl | rw [wx_u_eq] | rw [wx_u_nc (by omega)] | rw [wx_u_nk (by omega)])) ?_
            refine cw_iconst (v := nI 1) C dd_Le_pump_74 (by decide +kernel) ?_
            refine nw_isub C dd_Le_pump_75 (by first | omega | (simp [wx_u] <;> omega)) ?_
            rw [Nat.add_sub_cancel]
            refine cw_callV (As := [_]) C kV_Le_82 wc_16 (is_16 hr) dd_Le_pump_76 rfl rfl (Nat.le_of_ble_eq_true rfl) ⟨(Nat.le_of_ble_eq_true rfl), (Nat.le_of_ble_eq_true rfl)⟩ ⟨(Nat.le_of_ble_eq_true rfl), (Nat.le_of_ble_eq_true rfl)⟩ (hT9.1) (nw_kv ?_)
            refine nw_iinc (b := 1) C dd_Le_pump_79 (by decide +kernel) rfl (Nat.le_of_ble_eq_true rfl) ?_
            refine cw_goto (tgt := 22) C dd_Le_pump_82 (by decide) ?_
            rw [zc_pm, if_pos hg] at h1 h2
            exact ih (i + 1) _ (by omega) hT9.2 (by rw [← h1]; show i + 1 + _ = i + (_ + 1); omega) h2
set_option maxRecDepth 100000 in
set_option maxHeartbeats 4000000 in
theorem mm_Le_pump (X : wx_S) (r : Nat) (hr : r < 4) (N : Nat) (hN : N < 4294967296) (hup : X (64 + r) 8 = 1) (J : wx_S → Prop) (hJ : ∀ X, J X → X (64 + r) 8 < 4294967296 ∧ X 44 3 ≤ 802 ∧ X (64 + r) 9 ≤ 802) (hT : ∀ X, J X → zc_pmC X r → nw_M wd_all yy_Re_take cc_Re_take 4 none 7 0 0 [.ref (64 + r), .int (nI (X (64 + r) 9))] (wx_u X (64 + r) 9 (X (64 + r) 9 + 1)) (fun v X' => v = none ∧ X' = zc_pmS X r) ∧ J (zc_pmS X r)) (hX : J X) : nw_M wd_all yy_Le_pump cc_Le_pump 5 (some .int) 8 0 0 [.ref 0, .int (nI r), .int (nI N)] X (fun v X' => v = some (.int (nI (if 1 ≤ N ∧ N ≤ 50 then (zc_pm r N X).1 else 4294967295))) ∧ X' = if 1 ≤ N ∧ N ≤ 50 then (zc_pm r N X).2 else X) := by
  refine nw_of [some (.ref 0), some (.int (nI r)), some (.int (nI N)), none, none] (by decide +kernel) rfl (Nat.le_of_ble_eq_true rfl) rfl ?_
  intro p l e s m args below meth c A g C
  refine cw_aload_n C dd_Le_pump_0 rfl ?_
  refine cw_iload_n C dd_Le_pump_1 rfl ?_
  refine cw_callV (As := [_]) C kV_Le_43 wc_0 is_0 dd_Le_pump_2 rfl rfl (Nat.le_of_ble_eq_true rfl) ⟨(Nat.le_of_ble_eq_true rfl), (Nat.le_of_ble_eq_true rfl)⟩ ⟨(Nat.le_of_ble_eq_true rfl), (Nat.le_of_ble_eq_true rfl)⟩ (mm_Le_upReplica X r hr hup) (nw_kr ?_)
  refine cw_astore_n C dd_Le_pump_5 (Nat.le_of_ble_eq_true rfl) ?_
  refine cw_iload_n C dd_Le_pump_6 rfl ?_
  refine cw_iconst (v := nI 1) C dd_Le_pump_7 (by decide +kernel) ?_
  refine nw_scmp_lt (tgt := 17) C dd_Le_pump_8 (by decide) (by first | omega | (simp [wx_u] <;> omega)) (by first | omega | (simp [wx_u] <;> omega)) (fun h8 => ?_) (fun h8 => ?_)
  · refine cw_iconst (v := nI 4294967295) C dd_Le_pump_17 (by decide +kernel) ?_
    exact cw_ireturn C dd_Le_pump_18 (Nat.le_of_ble_eq_true rfl) (Nat.le_of_ble_eq_true rfl) ⟨_, rfl, rfl, ⟨by rw [if_neg (by omega)], by rw [if_neg (by omega)]⟩⟩
  · refine cw_iload_n C dd_Le_pump_11 rfl ?_
    refine cw_bipush (v := nI 50) C dd_Le_pump_12 (by decide +kernel) ?_
    refine nw_scmp_le (tgt := 19) C dd_Le_pump_14 (by decide) (by first | omega | (simp [wx_u] <;> omega)) (by first | omega | (simp [wx_u] <;> omega)) (fun h14 => ?_) (fun h14 => ?_)
    · refine cw_iconst (v := nI 0) C dd_Le_pump_19 (by decide +kernel) ?_
      refine cw_istore C dd_Le_pump_20 (Nat.le_of_ble_eq_true rfl) ?_
      refine lp_Le_pump r hr N (by omega) J hJ hT (zc_pm r N X).1 (zc_pm r N X).2 C ?_ N 0 X (by omega) hX (by omega) rfl
      refine cw_iload C dd_Le_pump_85 rfl ?_
      exact cw_ireturn C dd_Le_pump_87 (Nat.le_of_ble_eq_true rfl) (Nat.le_of_ble_eq_true rfl) ⟨_, rfl, rfl, ⟨by rw [if_pos ⟨by omega, by omega⟩], by rw [if_pos ⟨by omega, by omega⟩]⟩⟩
    · refine cw_iconst (v := nI 4294967295) C dd_Le_pump_17 (by decide +kernel) ?_
      exact cw_ireturn C dd_Le_pump_18 (Nat.le_of_ble_eq_true rfl) (Nat.le_of_ble_eq_true rfl) ⟨_, rfl, rfl, ⟨by rw [if_neg (by omega)], by rw [if_neg (by omega)]⟩⟩
abbrev zc_fgC (X : wx_S) (w q a b : Nat) : Prop := X 0 4 ≠ 4294967295 ∧ 1 ≤ w ∧ w ≤ 14 ∧ q ≤ 15 ∧ (a = 4294967295 ∨ a < X 4 3) ∧ (b = 4294967295 ∨ b < X 4 3) ∧ X 20 5 < 90 ∧ X 44 3 < 800
def zc_forge (X : wx_S) (w q a b : Nat) : wx_S := zc_post (zc_vadd X (X 0 4) w q a b) 0 (X 0 4) (X 20 5)
set_option maxRecDepth 100000 in
set_option maxHeartbeats 4000000 in
theorem mm_Le_forge (X : wx_S) (w q a b : Nat) (hw : w < 4294967296) (hq : q < 4294967296) (ha : a < 4294967296) (hb : b < 4294967296) (hf : X 0 4 < 4294967296) (hn : X 4 3 ≤ 40) (hv : X 20 5 ≤ 90) (hm : X 44 3 ≤ 802) : nw_M wd_all yy_Le_forge cc_Le_forge 6 (some .int) 3 0 0 [.ref 0, .int (nI w), .int (nI q), .int (nI a), .int (nI b)] X (fun v X' => v = some (.int (nI (if zc_fgC X w q a b then X 20 5 else 4294967295))) ∧ X' = if zc_fgC X w q a b then zc_forge X w q a b else X) := by
  refine nw_of [some (.ref 0), some (.int (nI w)), some (.int (nI q)), some (.int (nI a)), some (.int (nI b)), none] (by decide +kernel) rfl (Nat.le_of_ble_eq_true rfl) rfl ?_
  intro p l e s m args below meth c A g C
  refine cw_aload_n C dd_Le_forge_0 rfl ?_
  refine nw_geti C wc_0 kF_Le_39 is_0 (by decide) rfl dd_Le_forge_1 ?_
  refine cw_iconst (v := nI 4294967295) C dd_Le_forge_4 (by decide +kernel) ?_
  refine nw_icmp_eq (tgt := 66) C dd_Le_forge_5 (by decide) (by first | omega | (simp [wx_u] <;> omega)) (by first | omega | (simp [wx_u] <;> omega)) (fun h5 => ?_) (fun h5 => ?_)
  · refine cw_iconst (v := nI 4294967295) C dd_Le_forge_66 (by decide +kernel) ?_
    exact cw_ireturn C dd_Le_forge_67 (Nat.le_of_ble_eq_true rfl) (Nat.le_of_ble_eq_true rfl) ⟨_, rfl, rfl, ⟨by rw [if_neg (by omega)], by rw [if_neg (by omega)]⟩⟩
  · refine cw_iload_n C dd_Le_forge_8 rfl ?_
    refine cw_iconst (v := nI 1) C dd_Le_forge_9 (by decide +kernel) ?_
    refine nw_scmp_lt (tgt := 66) C dd_Le_forge_10 (by decide) (by first | omega | (simp [wx_u] <;> omega)) (by first | omega | (simp [wx_u] <;> omega)) (fun h10 => ?_) (fun h10 => ?_)
    · refine cw_iconst (v := nI 4294967295) C dd_Le_forge_66 (by decide +kernel) ?_
      exact cw_ireturn C dd_Le_forge_67 (Nat.le_of_ble_eq_true rfl) (Nat.le_of_ble_eq_true rfl) ⟨_, rfl, rfl, ⟨by rw [if_neg (by omega)], by rw [if_neg (by omega)]⟩⟩
    · refine cw_iload_n C dd_Le_forge_13 rfl ?_
      refine cw_bipush (v := nI 14) C dd_Le_forge_14 (by decide +kernel) ?_
      refine nw_scmp_gt (tgt := 66) C dd_Le_forge_16 (by decide) (by first | omega | (simp [wx_u] <;> omega)) (by first | omega | (simp [wx_u] <;> omega)) (fun h16 => ?_) (fun h16 => ?_)
      · refine cw_iconst (v := nI 4294967295) C dd_Le_forge_66 (by decide +kernel) ?_
        exact cw_ireturn C dd_Le_forge_67 (Nat.le_of_ble_eq_true rfl) (Nat.le_of_ble_eq_true rfl) ⟨_, rfl, rfl, ⟨by rw [if_neg (by omega)], by rw [if_neg (by omega)]⟩⟩
      · refine cw_iload_n C dd_Le_forge_19 rfl ?_
        refine nw_if_lt (tgt := 66) C dd_Le_forge_20 (by decide) (by first | omega | (simp [wx_u] <;> omega)) (fun h20 => ?_) (fun h20 => ?_)
        · refine cw_iconst (v := nI 4294967295) C dd_Le_forge_66 (by decide +kernel) ?_
          exact cw_ireturn C dd_Le_forge_67 (Nat.le_of_ble_eq_true rfl) (Nat.le_of_ble_eq_true rfl) ⟨_, rfl, rfl, ⟨by rw [if_neg (by omega)], by rw [if_neg (by omega)]⟩⟩
        · refine cw_iload_n C dd_Le_forge_23 rfl ?_
          refine cw_bipush (v := nI 15) C dd_Le_forge_24 (by decide +kernel) ?_
          refine nw_scmp_gt (tgt := 66) C dd_Le_forge_26 (by decide) (by first | omega | (simp [wx_u] <;> omega)) (by first | omega | (simp [wx_u] <;> omega)) (fun h26 => ?_) (fun h26 => ?_)
          · refine cw_iconst (v := nI 4294967295) C dd_Le_forge_66 (by decide +kernel) ?_
            exact cw_ireturn C dd_Le_forge_67 (Nat.le_of_ble_eq_true rfl) (Nat.le_of_ble_eq_true rfl) ⟨_, rfl, rfl, ⟨by rw [if_neg (by omega)], by rw [if_neg (by omega)]⟩⟩
          · refine cw_aload_n C dd_Le_forge_29 rfl ?_
            refine cw_iload_n C dd_Le_forge_30 rfl ?_
            refine cw_callV (As := [_]) C kV_Le_106 wc_0 is_0 dd_Le_forge_31 rfl rfl (Nat.le_of_ble_eq_true rfl) ⟨(Nat.le_of_ble_eq_true rfl), (Nat.le_of_ble_eq_true rfl)⟩ ⟨(Nat.le_of_ble_eq_true rfl), (Nat.le_of_ble_eq_true rfl)⟩ (mm_Le_isTransferOrNone X a ha (by omega)) (nw_ki ?_)
            refine nw_zeq (tgt := 66) C dd_Le_forge_34 (by decide) (fun h34 => ?_) (fun h34 => ?_)
            · refine cw_iconst (v := nI 4294967295) C dd_Le_forge_66 (by decide +kernel) ?_
              exact cw_ireturn C dd_Le_forge_67 (Nat.le_of_ble_eq_true rfl) (Nat.le_of_ble_eq_true rfl) ⟨_, rfl, rfl, ⟨by rw [if_neg (by omega)], by rw [if_neg (by omega)]⟩⟩
            · refine cw_aload_n C dd_Le_forge_37 rfl ?_
              refine cw_iload C dd_Le_forge_38 rfl ?_
              refine cw_callV (As := [_]) C kV_Le_106 wc_0 is_0 dd_Le_forge_40 rfl rfl (Nat.le_of_ble_eq_true rfl) ⟨(Nat.le_of_ble_eq_true rfl), (Nat.le_of_ble_eq_true rfl)⟩ ⟨(Nat.le_of_ble_eq_true rfl), (Nat.le_of_ble_eq_true rfl)⟩ (mm_Le_isTransferOrNone X b hb (by omega)) (nw_ki ?_)
              refine nw_zeq (tgt := 66) C dd_Le_forge_43 (by decide) (fun h43 => ?_) (fun h43 => ?_)
              · refine cw_iconst (v := nI 4294967295) C dd_Le_forge_66 (by decide +kernel) ?_
                exact cw_ireturn C dd_Le_forge_67 (Nat.le_of_ble_eq_true rfl) (Nat.le_of_ble_eq_true rfl) ⟨_, rfl, rfl, ⟨by rw [if_neg (by omega)], by rw [if_neg (by omega)]⟩⟩
              · refine cw_aload_n C dd_Le_forge_46 rfl ?_
                refine cw_getr (q' := 20) C wc_0 kF_Le_19 is_0 (by decide) rfl dd_Le_forge_47 rfl ?_
                refine cw_callV (As := []) C kV_Le_109 wc_5 is_5 dd_Le_forge_50 rfl rfl (Nat.le_of_ble_eq_true rfl) ⟨(Nat.le_of_ble_eq_true rfl), (Nat.le_of_ble_eq_true rfl)⟩ ⟨(Nat.le_of_ble_eq_true rfl), (Nat.le_of_ble_eq_true rfl)⟩ (mm_Ve_isFull X (by omega)) (nw_ki ?_)
                refine nw_zne (tgt := 66) C dd_Le_forge_53 (by decide) (fun h53 => ?_) (fun h53 => ?_)
                · refine cw_iconst (v := nI 4294967295) C dd_Le_forge_66 (by decide +kernel) ?_
                  exact cw_ireturn C dd_Le_forge_67 (Nat.le_of_ble_eq_true rfl) (Nat.le_of_ble_eq_true rfl) ⟨_, rfl, rfl, ⟨by rw [if_neg (by omega)], by rw [if_neg (by omega)]⟩⟩
                · refine cw_aload_n C dd_Le_forge_56 rfl ?_
                  refine cw_getr (q' := 44) C wc_0 kF_Le_26 is_0 (by decide) rfl dd_Le_forge_57 rfl ?_
                  refine cw_callV (As := []) C kV_Le_81 wc_11 is_11 dd_Le_forge_60 rfl rfl (Nat.le_of_ble_eq_true rfl) ⟨(Nat.le_of_ble_eq_true rfl), (Nat.le_of_ble_eq_true rfl)⟩ ⟨(Nat.le_of_ble_eq_true rfl), (Nat.le_of_ble_eq_true rfl)⟩ (mm_Bo_isFull X (by omega)) (nw_ki ?_)
                  refine nw_zeq (tgt := 68) C dd_Le_forge_63 (by decide) (fun h63 => ?_) (fun h63 => ?_)
                  · refine cw_aload_n C dd_Le_forge_68 rfl ?_
                    refine cw_getr (q' := 20) C wc_0 kF_Le_19 is_0 (by decide) rfl dd_Le_forge_69 rfl ?_
                    refine cw_aload_n C dd_Le_forge_72 rfl ?_
                    refine nw_geti C wc_0 kF_Le_39 is_0 (by decide) rfl dd_Le_forge_73 ?_
                    refine cw_iload_n C dd_Le_forge_76 rfl ?_
                    refine cw_iload_n C dd_Le_forge_77 rfl ?_
                    refine cw_iload_n C dd_Le_forge_78 rfl ?_
                    refine cw_iload C dd_Le_forge_79 rfl ?_
                    have hg : zc_fgC X w q a b := ⟨h5, by omega, by omega, by omega, h34, h43, by omega, by omega⟩
                    refine cw_callV (As := [_, _, _, _, _]) C kV_Le_110 wc_5 is_5 dd_Le_forge_81 rfl rfl (Nat.le_of_ble_eq_true rfl) ⟨(Nat.le_of_ble_eq_true rfl), (Nat.le_of_ble_eq_true rfl)⟩ ⟨(Nat.le_of_ble_eq_true rfl), (Nat.le_of_ble_eq_true rfl)⟩ (mm_Ve_add' X _ _ _ _ _ (by omega)) (nw_ki ?_)
                    refine cw_istore C dd_Le_forge_84 (Nat.le_of_ble_eq_true rfl) ?_
                    refine cw_aload_n C dd_Le_forge_86 rfl ?_
                    refine cw_getr (q' := 44) C wc_0 kF_Le_26 is_0 (by decide) rfl dd_Le_forge_87 rfl ?_
                    refine cw_iconst (v := nI 0) C dd_Le_forge_90 (by decide +kernel) ?_
                    refine cw_aload_n C dd_Le_forge_91 rfl ?_
                    refine nw_getiv C (X 0 4) wc_0 kF_Le_39 is_0 (by decide) rfl dd_Le_forge_92 (by rw [zc_vadd, wx_u_nc (by decide), wx_u_nc (by decide), wx_u_nc (by decide), wx_u_nc (by decide), wx_u_nc (by decide), wx_u_nc (by decide)]) ?_
                    refine cw_iload C dd_Le_forge_95 rfl ?_
                    refine cw_callV (As := [_, _, _]) C kV_Le_113 wc_11 is_11 dd_Le_forge_97 rfl rfl (Nat.le_of_ble_eq_true rfl) ⟨(Nat.le_of_ble_eq_true rfl), (Nat.le_of_ble_eq_true rfl)⟩ ⟨(Nat.le_of_ble_eq_true rfl), (Nat.le_of_ble_eq_true rfl)⟩ (mm_Bo_post' _ _ _ _ (by rw [zc_vadd_oth _ _ _ _ _ _ (by omega)]; omega)) (nw_ki ?_)
                    refine cw_pop C dd_Le_forge_100 rfl ?_
                    refine cw_iload C dd_Le_forge_101 rfl ?_
                    exact cw_ireturn C dd_Le_forge_103 (Nat.le_of_ble_eq_true rfl) (Nat.le_of_ble_eq_true rfl) ⟨_, rfl, rfl, ⟨by rw [if_pos hg], (if_pos hg).symm⟩⟩
                  · refine cw_iconst (v := nI 4294967295) C dd_Le_forge_66 (by decide +kernel) ?_
                    exact cw_ireturn C dd_Le_forge_67 (Nat.le_of_ble_eq_true rfl) (Nat.le_of_ble_eq_true rfl) ⟨_, rfl, rfl, ⟨by rw [if_neg (by omega)], by rw [if_neg (by omega)]⟩⟩
abbrev zc_sdC (X : wx_S) (k u : Nat) : Prop := X 0 4 ≠ 4294967295 ∧ k ≤ 2 ∧ u < X 20 5 ∧ X 44 3 < 800
set_option maxRecDepth 100000 in
set_option maxHeartbeats 4000000 in
theorem mm_Le_send (X : wx_S) (k u : Nat) (hk : k < 4294967296) (hu : u < 4294967296) (hf : X 0 4 < 4294967296) (hn : X 4 3 ≤ 40) (hv : X 20 5 ≤ 90) (hm : X 44 3 ≤ 802) : nw_M wd_all yy_Le_send cc_Le_send 3 (some .int) 2 0 0 [.ref 0, .int (nI k), .int (nI u)] X (fun v X' => v = some (.int (nI (if zc_sdC X k u then X 44 3 else 4294967295))) ∧ X' = if zc_sdC X k u then zc_post X k (X 0 4) u else X) := by
  refine nw_of [some (.ref 0), some (.int (nI k)), some (.int (nI u))] (by decide +kernel) rfl (Nat.le_of_ble_eq_true rfl) rfl ?_
  intro p l e s m args below meth c A g C
  refine cw_aload_n C dd_Le_send_0 rfl ?_
  refine nw_geti C wc_0 kF_Le_39 is_0 (by decide) rfl dd_Le_send_1 ?_
  refine cw_iconst (v := nI 4294967295) C dd_Le_send_4 (by decide +kernel) ?_
  refine nw_icmp_eq (tgt := 38) C dd_Le_send_5 (by decide) (by first | omega | (simp [wx_u] <;> omega)) (by first | omega | (simp [wx_u] <;> omega)) (fun h5 => ?_) (fun h5 => ?_)
  · refine cw_iconst (v := nI 4294967295) C dd_Le_send_38 (by decide +kernel) ?_
    exact cw_ireturn C dd_Le_send_39 (Nat.le_of_ble_eq_true rfl) (Nat.le_of_ble_eq_true rfl) ⟨_, rfl, rfl, ⟨by rw [if_neg (by omega)], by rw [if_neg (by omega)]⟩⟩
  · refine cw_iload_n C dd_Le_send_8 rfl ?_
    refine nw_if_lt (tgt := 38) C dd_Le_send_9 (by decide) (by first | omega | (simp [wx_u] <;> omega)) (fun h9 => ?_) (fun h9 => ?_)
    · refine cw_iconst (v := nI 4294967295) C dd_Le_send_38 (by decide +kernel) ?_
      exact cw_ireturn C dd_Le_send_39 (Nat.le_of_ble_eq_true rfl) (Nat.le_of_ble_eq_true rfl) ⟨_, rfl, rfl, ⟨by rw [if_neg (by omega)], by rw [if_neg (by omega)]⟩⟩
    · refine cw_iload_n C dd_Le_send_12 rfl ?_
      refine cw_iconst (v := nI 2) C dd_Le_send_13 (by decide +kernel) ?_
      refine nw_scmp_gt (tgt := 38) C dd_Le_send_14 (by decide) (by first | omega | (simp [wx_u] <;> omega)) (by first | omega | (simp [wx_u] <;> omega)) (fun h14 => ?_) (fun h14 => ?_)
      · refine cw_iconst (v := nI 4294967295) C dd_Le_send_38 (by decide +kernel) ?_
        exact cw_ireturn C dd_Le_send_39 (Nat.le_of_ble_eq_true rfl) (Nat.le_of_ble_eq_true rfl) ⟨_, rfl, rfl, ⟨by rw [if_neg (by omega)], by rw [if_neg (by omega)]⟩⟩
      · refine cw_aload_n C dd_Le_send_17 rfl ?_
        refine cw_getr (q' := 20) C wc_0 kF_Le_19 is_0 (by decide) rfl dd_Le_send_18 rfl ?_
        refine cw_iload_n C dd_Le_send_21 rfl ?_
        refine cw_callV (As := [_]) C kV_Le_116 wc_5 is_5 dd_Le_send_22 rfl rfl (Nat.le_of_ble_eq_true rfl) ⟨(Nat.le_of_ble_eq_true rfl), (Nat.le_of_ble_eq_true rfl)⟩ ⟨(Nat.le_of_ble_eq_true rfl), (Nat.le_of_ble_eq_true rfl)⟩ (mm_Ve_has X u hu (by omega)) (nw_ki ?_)
        refine nw_zeq (tgt := 38) C dd_Le_send_25 (by decide) (fun h25 => ?_) (fun h25 => ?_)
        · refine cw_iconst (v := nI 4294967295) C dd_Le_send_38 (by decide +kernel) ?_
          exact cw_ireturn C dd_Le_send_39 (Nat.le_of_ble_eq_true rfl) (Nat.le_of_ble_eq_true rfl) ⟨_, rfl, rfl, ⟨by rw [if_neg (by omega)], by rw [if_neg (by omega)]⟩⟩
        · refine cw_aload_n C dd_Le_send_28 rfl ?_
          refine cw_getr (q' := 44) C wc_0 kF_Le_26 is_0 (by decide) rfl dd_Le_send_29 rfl ?_
          refine cw_callV (As := []) C kV_Le_81 wc_11 is_11 dd_Le_send_32 rfl rfl (Nat.le_of_ble_eq_true rfl) ⟨(Nat.le_of_ble_eq_true rfl), (Nat.le_of_ble_eq_true rfl)⟩ ⟨(Nat.le_of_ble_eq_true rfl), (Nat.le_of_ble_eq_true rfl)⟩ (mm_Bo_isFull X (by omega)) (nw_ki ?_)
          refine nw_zeq (tgt := 40) C dd_Le_send_35 (by decide) (fun h35 => ?_) (fun h35 => ?_)
          · refine cw_aload_n C dd_Le_send_40 rfl ?_
            refine cw_getr (q' := 44) C wc_0 kF_Le_26 is_0 (by decide) rfl dd_Le_send_41 rfl ?_
            refine cw_iload_n C dd_Le_send_44 rfl ?_
            refine cw_aload_n C dd_Le_send_45 rfl ?_
            refine nw_geti C wc_0 kF_Le_39 is_0 (by decide) rfl dd_Le_send_46 ?_
            refine cw_iload_n C dd_Le_send_49 rfl ?_
            have hg : zc_sdC X k u := ⟨h5, by omega, h25, by omega⟩
            refine cw_callV (As := [_, _, _]) C kV_Le_113 wc_11 is_11 dd_Le_send_50 rfl rfl (Nat.le_of_ble_eq_true rfl) ⟨(Nat.le_of_ble_eq_true rfl), (Nat.le_of_ble_eq_true rfl)⟩ ⟨(Nat.le_of_ble_eq_true rfl), (Nat.le_of_ble_eq_true rfl)⟩ (mm_Bo_post' X _ _ _ (by omega)) (nw_ki ?_)
            exact cw_ireturn C dd_Le_send_53 (Nat.le_of_ble_eq_true rfl) (Nat.le_of_ble_eq_true rfl) ⟨_, rfl, rfl, ⟨by rw [if_pos hg], (if_pos hg).symm⟩⟩
          · refine cw_iconst (v := nI 4294967295) C dd_Le_send_38 (by decide +kernel) ?_
            exact cw_ireturn C dd_Le_send_39 (Nat.le_of_ble_eq_true rfl) (Nat.le_of_ble_eq_true rfl) ⟨_, rfl, rfl, ⟨by rw [if_neg (by omega)], by rw [if_neg (by omega)]⟩⟩
theorem wx_tout (a n : Nat) (ha : a < 4294967296) (h : n ≤ a) (hn : 0 < n ∧ n < 2147483648) : (nI a).toInt < 0 ∨ ((n - 1 : Nat) : Int) < (nI a).toInt := by
  by_cases h1 : a < 2147483648
  · right; rw [nI_toInt h1]; omega
  · left
    have := (wx_lt0 ha).mpr (by omega)
    rw [Int32.lt_iff_toInt_lt] at this
    exact this
def zc_msg (X : wx_S) (k q : Nat) : Nat := if k < X 44 3 then (if q = 0 then X 48 k else if q = 1 then X 52 k else if q = 2 then X 56 k else 4294967295) else 4294967295
def zc_vtx (X : wx_S) (k q : Nat) : Nat := if k < X 20 5 then (if q = 0 then X 24 k else if q = 1 then X 28 k else if q = 2 then X 32 k else if q = 3 then X 36 k else if q = 4 then X 40 k else 4294967295) else 4294967295
set_option maxRecDepth 100000 in
set_option maxHeartbeats 4000000 in
theorem mm_Le_message (X : wx_S) (k q : Nat) (hk : k < 4294967296) (hq : q < 4294967296) (hm : X 44 3 ≤ 802) : nw_M wd_all yy_Le_message cc_Le_message 3 (some .int) 2 0 0 [.ref 0, .int (nI k), .int (nI q)] X (fun v X' => v = some (.int (nI (zc_msg X k q))) ∧ X' = X) := by
  refine nw_of [some (.ref 0), some (.int (nI k)), some (.int (nI q))] (by decide +kernel) rfl (Nat.le_of_ble_eq_true rfl) rfl ?_
  intro p l e s m args below meth c A g C
  refine cw_aload_n C dd_Le_message_0 rfl ?_
  refine cw_getr (q' := 44) C wc_0 kF_Le_26 is_0 (by decide) rfl dd_Le_message_1 rfl ?_
  refine cw_iload_n C dd_Le_message_4 rfl ?_
  refine cw_callV (As := [_]) C kV_Le_75 wc_11 is_11 dd_Le_message_5 rfl rfl (Nat.le_of_ble_eq_true rfl) ⟨(Nat.le_of_ble_eq_true rfl), (Nat.le_of_ble_eq_true rfl)⟩ ⟨(Nat.le_of_ble_eq_true rfl), (Nat.le_of_ble_eq_true rfl)⟩ (mm_Bo_has X k hk (by omega)) (nw_ki ?_)
  refine nw_zne (tgt := 13) C dd_Le_message_8 (by decide) (fun h8 => ?_) (fun h8 => ?_)
  · refine cw_iload_n C dd_Le_message_13 rfl ?_
    rcases (show q = 0 ∨ q = 1 ∨ q = 2 ∨ 3 ≤ q by omega) with hs | hs | hs | hs
    · refine cw_tableIn (off := 26) (tgt := 40) C dd_Le_message_14 (by rw [hs]; decide +kernel) (by rw [hs]; decide +kernel) (by rw [hs]; decide +kernel) (by decide) ?_
      refine cw_aload_n C dd_Le_message_40 rfl ?_
      refine cw_getr (q' := 44) C wc_0 kF_Le_26 is_0 (by decide) rfl dd_Le_message_41 rfl ?_
      refine cw_getr (q' := 48) C wc_11 kF_Le_117 is_11 (by decide) rfl dd_Le_message_44 rfl ?_
      refine cw_iload_n C dd_Le_message_47 rfl ?_
      refine nw_iald C is_12 (by first | omega | (simp [wx_u] <;> omega)) (by decide) dd_Le_message_48 ?_
      exact cw_ireturn C dd_Le_message_49 (Nat.le_of_ble_eq_true rfl) (Nat.le_of_ble_eq_true rfl) ⟨_, rfl, rfl, ⟨by rw [zc_msg, if_pos h8, if_pos hs], rfl⟩⟩
    · refine cw_tableIn (off := 36) (tgt := 50) C dd_Le_message_14 (by rw [hs]; decide +kernel) (by rw [hs]; decide +kernel) (by rw [hs]; decide +kernel) (by decide) ?_
      refine cw_aload_n C dd_Le_message_50 rfl ?_
      refine cw_getr (q' := 44) C wc_0 kF_Le_26 is_0 (by decide) rfl dd_Le_message_51 rfl ?_
      refine cw_getr (q' := 52) C wc_11 kF_Le_121 is_11 (by decide) rfl dd_Le_message_54 rfl ?_
      refine cw_iload_n C dd_Le_message_57 rfl ?_
      refine nw_iald C is_13 (by first | omega | (simp [wx_u] <;> omega)) (by decide) dd_Le_message_58 ?_
      exact cw_ireturn C dd_Le_message_59 (Nat.le_of_ble_eq_true rfl) (Nat.le_of_ble_eq_true rfl) ⟨_, rfl, rfl, ⟨by rw [zc_msg, if_pos h8, if_neg (by omega), if_pos hs], rfl⟩⟩
    · refine cw_tableIn (off := 46) (tgt := 60) C dd_Le_message_14 (by rw [hs]; decide +kernel) (by rw [hs]; decide +kernel) (by rw [hs]; decide +kernel) (by decide) ?_
      refine cw_aload_n C dd_Le_message_60 rfl ?_
      refine cw_getr (q' := 44) C wc_0 kF_Le_26 is_0 (by decide) rfl dd_Le_message_61 rfl ?_
      refine cw_getr (q' := 56) C wc_11 kF_Le_124 is_11 (by decide) rfl dd_Le_message_64 rfl ?_
      refine cw_iload_n C dd_Le_message_67 rfl ?_
      refine nw_iald C is_14 (by first | omega | (simp [wx_u] <;> omega)) (by decide) dd_Le_message_68 ?_
      exact cw_ireturn C dd_Le_message_69 (Nat.le_of_ble_eq_true rfl) (Nat.le_of_ble_eq_true rfl) ⟨_, rfl, rfl, ⟨by rw [zc_msg, if_pos h8, if_neg (by omega), if_neg (by omega), if_pos hs], rfl⟩⟩
    · refine cw_tableOut (tgt := 70) C dd_Le_message_14 (wx_tout q 3 hq hs (by decide)) (by decide) ?_
      refine cw_iconst (v := nI 4294967295) C dd_Le_message_70 (by decide +kernel) ?_
      exact cw_ireturn C dd_Le_message_71 (Nat.le_of_ble_eq_true rfl) (Nat.le_of_ble_eq_true rfl) ⟨_, rfl, rfl, ⟨by rw [zc_msg, if_pos h8, if_neg (by omega), if_neg (by omega), if_neg (by omega)], rfl⟩⟩
  · refine cw_iconst (v := nI 4294967295) C dd_Le_message_11 (by decide +kernel) ?_
    exact cw_ireturn C dd_Le_message_12 (Nat.le_of_ble_eq_true rfl) (Nat.le_of_ble_eq_true rfl) ⟨_, rfl, rfl, ⟨by rw [zc_msg, if_neg h8], rfl⟩⟩
set_option maxRecDepth 100000 in
set_option maxHeartbeats 4000000 in
theorem mm_Le_vertex (X : wx_S) (k q : Nat) (hk : k < 4294967296) (hq : q < 4294967296) (hm : X 20 5 ≤ 90) : nw_M wd_all yy_Le_vertex cc_Le_vertex 3 (some .int) 2 0 0 [.ref 0, .int (nI k), .int (nI q)] X (fun v X' => v = some (.int (nI (zc_vtx X k q))) ∧ X' = X) := by
  refine nw_of [some (.ref 0), some (.int (nI k)), some (.int (nI q))] (by decide +kernel) rfl (Nat.le_of_ble_eq_true rfl) rfl ?_
  intro p l e s m args below meth c A g C
  refine cw_aload_n C dd_Le_vertex_0 rfl ?_
  refine cw_getr (q' := 20) C wc_0 kF_Le_19 is_0 (by decide) rfl dd_Le_vertex_1 rfl ?_
  refine cw_iload_n C dd_Le_vertex_4 rfl ?_
  refine cw_callV (As := [_]) C kV_Le_116 wc_5 is_5 dd_Le_vertex_5 rfl rfl (Nat.le_of_ble_eq_true rfl) ⟨(Nat.le_of_ble_eq_true rfl), (Nat.le_of_ble_eq_true rfl)⟩ ⟨(Nat.le_of_ble_eq_true rfl), (Nat.le_of_ble_eq_true rfl)⟩ (mm_Ve_has X k hk (by omega)) (nw_ki ?_)
  refine nw_zne (tgt := 13) C dd_Le_vertex_8 (by decide) (fun h8 => ?_) (fun h8 => ?_)
  · refine cw_iload_n C dd_Le_vertex_13 rfl ?_
    rcases (show q = 0 ∨ q = 1 ∨ q = 2 ∨ q = 3 ∨ q = 4 ∨ 5 ≤ q by omega) with hs | hs | hs | hs | hs | hs
    · refine cw_tableIn (off := 34) (tgt := 48) C dd_Le_vertex_14 (by rw [hs]; decide +kernel) (by rw [hs]; decide +kernel) (by rw [hs]; decide +kernel) (by decide) ?_
      refine cw_aload_n C dd_Le_vertex_48 rfl ?_
      refine cw_getr (q' := 20) C wc_0 kF_Le_19 is_0 (by decide) rfl dd_Le_vertex_49 rfl ?_
      refine cw_getr (q' := 24) C wc_5 kF_Le_127 is_5 (by decide) rfl dd_Le_vertex_52 rfl ?_
      refine cw_iload_n C dd_Le_vertex_55 rfl ?_
      refine nw_iald C is_6 (by first | omega | (simp [wx_u] <;> omega)) (by decide) dd_Le_vertex_56 ?_
      exact cw_ireturn C dd_Le_vertex_57 (Nat.le_of_ble_eq_true rfl) (Nat.le_of_ble_eq_true rfl) ⟨_, rfl, rfl, ⟨by rw [zc_vtx, if_pos h8, if_pos hs], rfl⟩⟩
    · refine cw_tableIn (off := 44) (tgt := 58) C dd_Le_vertex_14 (by rw [hs]; decide +kernel) (by rw [hs]; decide +kernel) (by rw [hs]; decide +kernel) (by decide) ?_
      refine cw_aload_n C dd_Le_vertex_58 rfl ?_
      refine cw_getr (q' := 20) C wc_0 kF_Le_19 is_0 (by decide) rfl dd_Le_vertex_59 rfl ?_
      refine cw_getr (q' := 28) C wc_5 kF_Le_130 is_5 (by decide) rfl dd_Le_vertex_62 rfl ?_
      refine cw_iload_n C dd_Le_vertex_65 rfl ?_
      refine nw_iald C is_7 (by first | omega | (simp [wx_u] <;> omega)) (by decide) dd_Le_vertex_66 ?_
      exact cw_ireturn C dd_Le_vertex_67 (Nat.le_of_ble_eq_true rfl) (Nat.le_of_ble_eq_true rfl) ⟨_, rfl, rfl, ⟨by rw [zc_vtx, if_pos h8, if_neg (by omega), if_pos hs], rfl⟩⟩
    · refine cw_tableIn (off := 54) (tgt := 68) C dd_Le_vertex_14 (by rw [hs]; decide +kernel) (by rw [hs]; decide +kernel) (by rw [hs]; decide +kernel) (by decide) ?_
      refine cw_aload_n C dd_Le_vertex_68 rfl ?_
      refine cw_getr (q' := 20) C wc_0 kF_Le_19 is_0 (by decide) rfl dd_Le_vertex_69 rfl ?_
      refine cw_getr (q' := 32) C wc_5 kF_Le_133 is_5 (by decide) rfl dd_Le_vertex_72 rfl ?_
      refine cw_iload_n C dd_Le_vertex_75 rfl ?_
      refine nw_iald C is_8 (by first | omega | (simp [wx_u] <;> omega)) (by decide) dd_Le_vertex_76 ?_
      exact cw_ireturn C dd_Le_vertex_77 (Nat.le_of_ble_eq_true rfl) (Nat.le_of_ble_eq_true rfl) ⟨_, rfl, rfl, ⟨by rw [zc_vtx, if_pos h8, if_neg (by omega), if_neg (by omega), if_pos hs], rfl⟩⟩
    · refine cw_tableIn (off := 64) (tgt := 78) C dd_Le_vertex_14 (by rw [hs]; decide +kernel) (by rw [hs]; decide +kernel) (by rw [hs]; decide +kernel) (by decide) ?_
      refine cw_aload_n C dd_Le_vertex_78 rfl ?_
      refine cw_getr (q' := 20) C wc_0 kF_Le_19 is_0 (by decide) rfl dd_Le_vertex_79 rfl ?_
      refine cw_getr (q' := 36) C wc_5 kF_Le_136 is_5 (by decide) rfl dd_Le_vertex_82 rfl ?_
      refine cw_iload_n C dd_Le_vertex_85 rfl ?_
      refine nw_iald C is_9 (by first | omega | (simp [wx_u] <;> omega)) (by decide) dd_Le_vertex_86 ?_
      exact cw_ireturn C dd_Le_vertex_87 (Nat.le_of_ble_eq_true rfl) (Nat.le_of_ble_eq_true rfl) ⟨_, rfl, rfl, ⟨by rw [zc_vtx, if_pos h8, if_neg (by omega), if_neg (by omega), if_neg (by omega), if_pos hs], rfl⟩⟩
    · refine cw_tableIn (off := 74) (tgt := 88) C dd_Le_vertex_14 (by rw [hs]; decide +kernel) (by rw [hs]; decide +kernel) (by rw [hs]; decide +kernel) (by decide) ?_
      refine cw_aload_n C dd_Le_vertex_88 rfl ?_
      refine cw_getr (q' := 20) C wc_0 kF_Le_19 is_0 (by decide) rfl dd_Le_vertex_89 rfl ?_
      refine cw_getr (q' := 40) C wc_5 kF_Le_139 is_5 (by decide) rfl dd_Le_vertex_92 rfl ?_
      refine cw_iload_n C dd_Le_vertex_95 rfl ?_
      refine nw_iald C is_10 (by first | omega | (simp [wx_u] <;> omega)) (by decide) dd_Le_vertex_96 ?_
      exact cw_ireturn C dd_Le_vertex_97 (Nat.le_of_ble_eq_true rfl) (Nat.le_of_ble_eq_true rfl) ⟨_, rfl, rfl, ⟨by rw [zc_vtx, if_pos h8, if_neg (by omega), if_neg (by omega), if_neg (by omega), if_neg (by omega), if_pos hs], rfl⟩⟩
    · refine cw_tableOut (tgt := 98) C dd_Le_vertex_14 (wx_tout q 5 hq hs (by decide)) (by decide) ?_
      refine cw_iconst (v := nI 4294967295) C dd_Le_vertex_98 (by decide +kernel) ?_
      exact cw_ireturn C dd_Le_vertex_99 (Nat.le_of_ble_eq_true rfl) (Nat.le_of_ble_eq_true rfl) ⟨_, rfl, rfl, ⟨by rw [zc_vtx, if_pos h8, if_neg (by omega), if_neg (by omega), if_neg (by omega), if_neg (by omega), if_neg (by omega)], rfl⟩⟩
  · refine cw_iconst (v := nI 4294967295) C dd_Le_vertex_11 (by decide +kernel) ?_
    exact cw_ireturn C dd_Le_vertex_12 (Nat.le_of_ble_eq_true rfl) (Nat.le_of_ble_eq_true rfl) ⟨_, rfl, rfl, ⟨by rw [zc_vtx, if_neg h8], rfl⟩⟩
