/-- ADVANCE may happen -/
abbrev zc_may (X : wx_S) (r : Nat) : Prop := X 20 5 < 90 ∧ X (68 + r) 5 < 14 ∧ ((X (68 + r) 5 = 0 ∧ X (64 + r) 10 ≠ 0) ∨ (X (68 + r) 5 ≠ 0 ∧ X (104 + r) (X (68 + r) 5 * 4 + r) ≠ 4294967295 ∧ 3 ≤ zn_ones (X (108 + r) (X (68 + r) 5)) ∧ (X (68 + r) 5 % 2 = 1 ∨ X (104 + r) (X (68 + r) 5 * 4 + X (68 + r) 5 / 2 % 4) ≠ 4294967295 ∨ 3 ≤ X (64 + r) 10)))
set_option maxRecDepth 100000 in
set_option maxHeartbeats 4000000 in
theorem mm_Re_mayAdvance (X : wx_S) (r : Nat) (hr : r < 4) (hok : zc_ok X r) (hid : X (64 + r) 0 = r) (hrd : X (68 + r) 5 ≤ 14) (htm : X (64 + r) 10 < 2147483648) : nw_M wd_all yy_Re_mayAdvance cc_Re_mayAdvance 2 (some .boolean) 3 0 0 [.ref (64 + r)] X (fun v X' => v = some (.int (nI (zb_n (zc_may X r)))) ∧ X' = X) := by
  refine nw_of [some (.ref (64 + r)), none] (by decide +kernel) rfl (Nat.le_of_ble_eq_true rfl) rfl ?_
  intro p l e s m args below meth c A g C
  have g0 := hok.1.1
  have gs : ∀ k, k < 64 → X (104 + r) k < 4294967296 := fun k hk => by have := hok.2.1.1 k hk; omega
  refine cw_aload_n C dd_Re_mayAdvance_0 rfl ?_
  refine cw_gets (b := 64) (b' := 68) C hr rfl wc_16 kF_Re_12 (is_16 hr) (by decide) rfl dd_Re_mayAdvance_1 rfl ?_
  refine nw_geti C wc_17 kF_Re_199 (is_17 hr) (by decide) rfl dd_Re_mayAdvance_4 ?_
  refine cw_istore_n C dd_Re_mayAdvance_7 (Nat.le_of_ble_eq_true rfl) ?_
  refine cw_aload_n C dd_Re_mayAdvance_8 rfl ?_
  refine cw_getr (q' := 20) C wc_16 kF_Re_36 (is_16 hr) (by decide) rfl dd_Re_mayAdvance_9 rfl ?_
  refine cw_callV (As := []) C kV_Re_214 wc_5 is_5 dd_Re_mayAdvance_12 rfl rfl (Nat.le_of_ble_eq_true rfl) ⟨(Nat.le_of_ble_eq_true rfl), (Nat.le_of_ble_eq_true rfl)⟩ ⟨(Nat.le_of_ble_eq_true rfl), (Nat.le_of_ble_eq_true rfl)⟩ (mm_Ve_isFull X (by omega)) (nw_ki ?_)
  refine nw_zne (tgt := 24) C dd_Re_mayAdvance_15 (by decide) (fun h15 => ?_) (fun h15 => ?_)
  · refine cw_iconst (v := nI 0) C dd_Re_mayAdvance_24 (by decide +kernel) ?_
    exact cw_zreturn C dd_Re_mayAdvance_25 (nw_zn (by decide)) (Nat.le_of_ble_eq_true rfl) (Nat.le_of_ble_eq_true rfl) ⟨_, rfl, rfl, ⟨by first | exact congrArg (fun z => some (Value.int z)) (zb_f (fun q => absurd q.1 (by omega))) | exact congrArg (fun z => some (Value.int z)) (zb_f (fun q => absurd q.2.1 (by omega))), rfl⟩⟩
  · refine cw_iload_n C dd_Re_mayAdvance_18 rfl ?_
    refine cw_bipush (v := nI 14) C dd_Re_mayAdvance_19 (by decide +kernel) ?_
    refine nw_icmp_lt (tgt := 26) C dd_Re_mayAdvance_21 (by decide) (by first | omega | (simp [wx_u] <;> omega)) (by first | omega | (simp [wx_u] <;> omega)) (fun h21 => ?_) (fun h21 => ?_)
    · refine cw_iload_n C dd_Re_mayAdvance_26 rfl ?_
      refine nw_if_ne (tgt := 43) C dd_Re_mayAdvance_27 (by decide) (by first | omega | (simp [wx_u] <;> omega)) (fun h27 => ?_) (fun h27 => ?_)
      · refine cw_aload_n C dd_Re_mayAdvance_43 rfl ?_
        refine cw_gets (b := 64) (b' := 100) C hr rfl wc_16 kF_Re_45 (is_16 hr) (by decide) rfl dd_Re_mayAdvance_44 rfl ?_
        refine cw_aload_n C dd_Re_mayAdvance_47 rfl ?_
        refine nw_getiv C r wc_16 kF_Re_29 (is_16 hr) (by decide) rfl dd_Re_mayAdvance_48 hid ?_
        refine cw_iload_n C dd_Re_mayAdvance_51 rfl ?_
        refine cw_callV (As := [_, _]) C kV_Re_217 wc_25 (is_25 hr) dd_Re_mayAdvance_52 rfl rfl (Nat.le_of_ble_eq_true rfl) ⟨(Nat.le_of_ble_eq_true rfl), (Nat.le_of_ble_eq_true rfl)⟩ ⟨(Nat.le_of_ble_eq_true rfl), (Nat.le_of_ble_eq_true rfl)⟩ (mm_Dg_holds X r hr r _ (by omega) (gs _ (by omega))) (nw_ki ?_)
        refine nw_zeq (tgt := 73) C dd_Re_mayAdvance_55 (by decide) (fun h55 => ?_) (fun h55 => ?_)
        · refine cw_iconst (v := nI 0) C dd_Re_mayAdvance_73 (by decide +kernel) ?_
          exact cw_zreturn C dd_Re_mayAdvance_74 (nw_zn (by decide)) (Nat.le_of_ble_eq_true rfl) (Nat.le_of_ble_eq_true rfl) ⟨_, rfl, rfl, ⟨by first | exact congrArg (fun z => some (Value.int z)) (zb_f (fun q => q.2.2.elim (fun z => h27 z.1) (fun z => h55 z.2.1))) | exact congrArg (fun z => some (Value.int z)) (zb_f (fun q => q.2.2.elim (fun z => h27 z.1) (fun z => absurd z.2.2.1 (by omega)))), rfl⟩⟩
        · refine cw_aload_n C dd_Re_mayAdvance_58 rfl ?_
          refine cw_gets (b := 64) (b' := 100) C hr rfl wc_16 kF_Re_45 (is_16 hr) (by decide) rfl dd_Re_mayAdvance_59 rfl ?_
          refine cw_iload_n C dd_Re_mayAdvance_62 rfl ?_
          refine cw_callV (As := [_]) C kV_Re_202 wc_25 (is_25 hr) dd_Re_mayAdvance_63 rfl rfl (Nat.le_of_ble_eq_true rfl) ⟨(Nat.le_of_ble_eq_true rfl), (Nat.le_of_ble_eq_true rfl)⟩ ⟨(Nat.le_of_ble_eq_true rfl), (Nat.le_of_ble_eq_true rfl)⟩ (mm_Dg_authorsOf X r hr _ (by omega)) (nw_ki ?_)
          refine cw_callS (As := [_]) C kS_Re_220 dd_Re_mayAdvance_66 rfl rfl (Nat.le_of_ble_eq_true rfl) ⟨(Nat.le_of_ble_eq_true rfl), (Nat.le_of_ble_eq_true rfl)⟩ ⟨(Nat.le_of_ble_eq_true rfl), (Nat.le_of_ble_eq_true rfl)⟩ (mm_In_bitCount X _ (hok.2.1.2 _ (by omega))) (nw_ki ?_)
          refine cw_iconst (v := nI 3) C dd_Re_mayAdvance_69 (by decide +kernel) ?_
          have g9 := zn_ones_le (X (108 + r) (X (68 + r) 5))
          refine nw_icmp_ge (tgt := 75) C dd_Re_mayAdvance_70 (by decide) (by first | omega | (simp [wx_u] <;> omega)) (by first | omega | (simp [wx_u] <;> omega)) (fun h70 => ?_) (fun h70 => ?_)
          · refine cw_iload_n C dd_Re_mayAdvance_75 rfl ?_
            refine cw_iconst (v := nI 2) C dd_Re_mayAdvance_76 (by decide +kernel) ?_
            refine nw_irem C dd_Re_mayAdvance_77 (by first | omega | (simp [wx_u] <;> omega)) (by decide) (by decide) ?_
            refine cw_iconst (v := nI 1) C dd_Re_mayAdvance_78 (by decide +kernel) ?_
            refine nw_icmp_eq (tgt := 105) C dd_Re_mayAdvance_79 (by decide) (by first | omega | (simp [wx_u] <;> omega)) (by first | omega | (simp [wx_u] <;> omega)) (fun h79 => ?_) (fun h79 => ?_)
            · refine cw_iconst (v := nI 1) C dd_Re_mayAdvance_105 (by decide +kernel) ?_
              refine cw_goto (tgt := 110) C dd_Re_mayAdvance_106 (by decide) ?_
              exact cw_zreturn C dd_Re_mayAdvance_110 (nw_zn (by decide)) (Nat.le_of_ble_eq_true rfl) (Nat.le_of_ble_eq_true rfl) ⟨_, rfl, rfl, ⟨by first | exact congrArg (fun z => some (Value.int z)) (zb_t ⟨by omega, by omega, Or.inr ⟨h27, h55, by omega, Or.inl h79⟩⟩) | exact congrArg (fun z => some (Value.int z)) (zb_t ⟨by omega, by omega, Or.inr ⟨h27, h55, by omega, Or.inr (Or.inl h94)⟩⟩) | exact congrArg (fun z => some (Value.int z)) (zb_t ⟨by omega, by omega, Or.inr ⟨h27, h55, by omega, Or.inr (Or.inr (by omega))⟩⟩) | exact congrArg (fun z => some (Value.int z)) (zb_f (fun q => q.2.2.elim (fun z => h27 z.1) (fun z => z.2.2.2.elim h79 (fun y => y.elim h94 (fun x => absurd x (by omega)))))), rfl⟩⟩
            · refine cw_aload_n C dd_Re_mayAdvance_82 rfl ?_
              refine cw_gets (b := 64) (b' := 100) C hr rfl wc_16 kF_Re_45 (is_16 hr) (by decide) rfl dd_Re_mayAdvance_83 rfl ?_
              refine cw_iload_n C dd_Re_mayAdvance_86 rfl ?_
              refine cw_callSN (As := [_]) C kS_Re_225 dd_Re_mayAdvance_87 rfl rfl (Nat.le_of_ble_eq_true rfl) ⟨(Nat.le_of_ble_eq_true rfl), (Nat.le_of_ble_eq_true rfl)⟩ ⟨(Nat.le_of_ble_eq_true rfl), (Nat.le_of_ble_eq_true rfl)⟩ (mm_Le_leaderOf X _ (by omega)) (nw_ki ?_)
              refine cw_iload_n C dd_Re_mayAdvance_90 rfl ?_
              refine cw_callV (As := [_, _]) C kV_Re_217 wc_25 (is_25 hr) dd_Re_mayAdvance_91 rfl rfl (Nat.le_of_ble_eq_true rfl) ⟨(Nat.le_of_ble_eq_true rfl), (Nat.le_of_ble_eq_true rfl)⟩ ⟨(Nat.le_of_ble_eq_true rfl), (Nat.le_of_ble_eq_true rfl)⟩ (mm_Dg_holds X r hr _ _ (by omega) (gs _ (by omega))) (nw_ki ?_)
              refine nw_zne (tgt := 105) C dd_Re_mayAdvance_94 (by decide) (fun h94 => ?_) (fun h94 => ?_)
              · refine cw_iconst (v := nI 1) C dd_Re_mayAdvance_105 (by decide +kernel) ?_
                refine cw_goto (tgt := 110) C dd_Re_mayAdvance_106 (by decide) ?_
                exact cw_zreturn C dd_Re_mayAdvance_110 (nw_zn (by decide)) (Nat.le_of_ble_eq_true rfl) (Nat.le_of_ble_eq_true rfl) ⟨_, rfl, rfl, ⟨by first | exact congrArg (fun z => some (Value.int z)) (zb_t ⟨by omega, by omega, Or.inr ⟨h27, h55, by omega, Or.inl h79⟩⟩) | exact congrArg (fun z => some (Value.int z)) (zb_t ⟨by omega, by omega, Or.inr ⟨h27, h55, by omega, Or.inr (Or.inl h94)⟩⟩) | exact congrArg (fun z => some (Value.int z)) (zb_t ⟨by omega, by omega, Or.inr ⟨h27, h55, by omega, Or.inr (Or.inr (by omega))⟩⟩) | exact congrArg (fun z => some (Value.int z)) (zb_f (fun q => q.2.2.elim (fun z => h27 z.1) (fun z => z.2.2.2.elim h79 (fun y => y.elim h94 (fun x => absurd x (by omega)))))), rfl⟩⟩
              · refine cw_aload_n C dd_Re_mayAdvance_97 rfl ?_
                refine nw_geti C wc_16 kF_Re_74 (is_16 hr) (by decide) rfl dd_Re_mayAdvance_98 ?_
                refine cw_iconst (v := nI 3) C dd_Re_mayAdvance_101 (by decide +kernel) ?_
                refine nw_icmp_lt (tgt := 109) C dd_Re_mayAdvance_102 (by decide) (by first | omega | (simp [wx_u] <;> omega)) (by first | omega | (simp [wx_u] <;> omega)) (fun h102 => ?_) (fun h102 => ?_)
                · refine cw_iconst (v := nI 0) C dd_Re_mayAdvance_109 (by decide +kernel) ?_
                  exact cw_zreturn C dd_Re_mayAdvance_110 (nw_zn (by decide)) (Nat.le_of_ble_eq_true rfl) (Nat.le_of_ble_eq_true rfl) ⟨_, rfl, rfl, ⟨by first | exact congrArg (fun z => some (Value.int z)) (zb_t ⟨by omega, by omega, Or.inr ⟨h27, h55, by omega, Or.inl h79⟩⟩) | exact congrArg (fun z => some (Value.int z)) (zb_t ⟨by omega, by omega, Or.inr ⟨h27, h55, by omega, Or.inr (Or.inl h94)⟩⟩) | exact congrArg (fun z => some (Value.int z)) (zb_t ⟨by omega, by omega, Or.inr ⟨h27, h55, by omega, Or.inr (Or.inr (by omega))⟩⟩) | exact congrArg (fun z => some (Value.int z)) (zb_f (fun q => q.2.2.elim (fun z => h27 z.1) (fun z => z.2.2.2.elim h79 (fun y => y.elim h94 (fun x => absurd x (by omega)))))), rfl⟩⟩
                · refine cw_iconst (v := nI 1) C dd_Re_mayAdvance_105 (by decide +kernel) ?_
                  refine cw_goto (tgt := 110) C dd_Re_mayAdvance_106 (by decide) ?_
                  exact cw_zreturn C dd_Re_mayAdvance_110 (nw_zn (by decide)) (Nat.le_of_ble_eq_true rfl) (Nat.le_of_ble_eq_true rfl) ⟨_, rfl, rfl, ⟨by first | exact congrArg (fun z => some (Value.int z)) (zb_t ⟨by omega, by omega, Or.inr ⟨h27, h55, by omega, Or.inl h79⟩⟩) | exact congrArg (fun z => some (Value.int z)) (zb_t ⟨by omega, by omega, Or.inr ⟨h27, h55, by omega, Or.inr (Or.inl h94)⟩⟩) | exact congrArg (fun z => some (Value.int z)) (zb_t ⟨by omega, by omega, Or.inr ⟨h27, h55, by omega, Or.inr (Or.inr (by omega))⟩⟩) | exact congrArg (fun z => some (Value.int z)) (zb_f (fun q => q.2.2.elim (fun z => h27 z.1) (fun z => z.2.2.2.elim h79 (fun y => y.elim h94 (fun x => absurd x (by omega)))))), rfl⟩⟩
          · refine cw_iconst (v := nI 0) C dd_Re_mayAdvance_73 (by decide +kernel) ?_
            exact cw_zreturn C dd_Re_mayAdvance_74 (nw_zn (by decide)) (Nat.le_of_ble_eq_true rfl) (Nat.le_of_ble_eq_true rfl) ⟨_, rfl, rfl, ⟨by first | exact congrArg (fun z => some (Value.int z)) (zb_f (fun q => q.2.2.elim (fun z => h27 z.1) (fun z => h55 z.2.1))) | exact congrArg (fun z => some (Value.int z)) (zb_f (fun q => q.2.2.elim (fun z => h27 z.1) (fun z => absurd z.2.2.1 (by omega)))), rfl⟩⟩
      · refine cw_aload_n C dd_Re_mayAdvance_30 rfl ?_
        refine nw_geti C wc_16 kF_Re_74 (is_16 hr) (by decide) rfl dd_Re_mayAdvance_31 ?_
        refine nw_if_eq (tgt := 41) C dd_Re_mayAdvance_34 (by decide) (by first | omega | (simp [wx_u] <;> omega)) (fun h34 => ?_) (fun h34 => ?_)
        · refine cw_iconst (v := nI 0) C dd_Re_mayAdvance_41 (by decide +kernel) ?_
          exact cw_zreturn C dd_Re_mayAdvance_42 (nw_zn (by decide)) (Nat.le_of_ble_eq_true rfl) (Nat.le_of_ble_eq_true rfl) ⟨_, rfl, rfl, ⟨by first | exact congrArg (fun z => some (Value.int z)) (zb_t ⟨by omega, by omega, Or.inl ⟨h27, h34⟩⟩) | exact congrArg (fun z => some (Value.int z)) (zb_f (fun q => q.2.2.elim (fun z => z.2 h34) (fun z => z.1 h27))), rfl⟩⟩
        · refine cw_iconst (v := nI 1) C dd_Re_mayAdvance_37 (by decide +kernel) ?_
          refine cw_goto (tgt := 42) C dd_Re_mayAdvance_38 (by decide) ?_
          exact cw_zreturn C dd_Re_mayAdvance_42 (nw_zn (by decide)) (Nat.le_of_ble_eq_true rfl) (Nat.le_of_ble_eq_true rfl) ⟨_, rfl, rfl, ⟨by first | exact congrArg (fun z => some (Value.int z)) (zb_t ⟨by omega, by omega, Or.inl ⟨h27, h34⟩⟩) | exact congrArg (fun z => some (Value.int z)) (zb_f (fun q => q.2.2.elim (fun z => z.2 h34) (fun z => z.1 h27))), rfl⟩⟩
    · refine cw_iconst (v := nI 0) C dd_Re_mayAdvance_24 (by decide +kernel) ?_
      exact cw_zreturn C dd_Re_mayAdvance_25 (nw_zn (by decide)) (Nat.le_of_ble_eq_true rfl) (Nat.le_of_ble_eq_true rfl) ⟨_, rfl, rfl, ⟨by first | exact congrArg (fun z => some (Value.int z)) (zb_f (fun q => absurd q.1 (by omega))) | exact congrArg (fun z => some (Value.int z)) (zb_f (fun q => absurd q.2.1 (by omega))), rfl⟩⟩
def zc_q1 (X : wx_S) (r : Nat) : Nat := if X (68 + r) 1 ≤ X (68 + r) 2 then 4294967295 else X (72 + r) (X (68 + r) 2)
def zc_qX (X : wx_S) (r : Nat) : wx_S := if X (68 + r) 1 ≤ X (68 + r) 2 then X else wx_u X (68 + r) 2 (X (68 + r) 2 + 1)
theorem zc_qX_oth (X : wx_S) (r : Nat) {c k : Nat} (h : ¬ (c = 68 + r ∧ k = 2)) : zc_qX X r c k = X c k := by
  unfold zc_qX
  split
  · rfl
  · exact wx_u_ne h
def zc_vadd (X : wx_S) (a w q f u : Nat) : wx_S := wx_u (wx_u (wx_u (wx_u (wx_u (wx_u X 24 (X 20 5) a) 28 (X 20 5) w) 32 (X 20 5) q) 36 (X 20 5) f) 40 (X 20 5) u) 20 5 (X 20 5 + 1)
theorem zc_vadd_oth (X : wx_S) (a w q f u : Nat) {c k : Nat} (h1 : 44 ≤ c) : zc_vadd X a w q f u c k = X c k := by
  rw [zc_vadd, wx_u_nc (by omega), wx_u_nc (by omega), wx_u_nc (by omega), wx_u_nc (by omega), wx_u_nc (by omega), wx_u_nc (by omega)]
theorem mm_Di_nextOfQueue' (X : wx_S) (r : Nat) (hr : r < 4) (hc : X (68 + r) 1 ≤ 40) (hh : X (68 + r) 2 ≤ 40) : nw_M wd_all yy_Di_nextOfQueue cc_Di_nextOfQueue 1 (some .int) 1 0 0 [.ref (68 + r)] X (fun v X' => v = some (.int (nI (zc_q1 X r))) ∧ X' = zc_qX X r) := mm_Di_nextOfQueue X r hr hc hh
theorem mm_Ve_add' (X : wx_S) (a w q f u : Nat) (hc : X 20 5 < 90) : nw_M wd_all yy_Ve_add cc_Ve_add 6 (some .int) 1 0 0 [.ref 20, .int (nI a), .int (nI w), .int (nI q), .int (nI f), .int (nI u)] X (fun v X' => v = some (.int (nI (X 20 5))) ∧ X' = zc_vadd X a w q f u) := mm_Ve_add X a w q f u hc
/-- the vertex is made and sent, behind the record: Y is the world then -/
def zc_made (Y : wx_S) (r : Nat) : wx_S :=
  let Y2 := zc_qX (zc_qX Y r) r
  let Y3 := wx_u Y2 (68 + r) 5 (Y (68 + r) 5 + 1)
  wx_u (zc_post (zc_vadd Y3 r (Y (68 + r) 5 + 1) (Y (108 + r) (Y (68 + r) 5)) (zc_q1 Y r) (zc_q1 (zc_qX Y r) r)) 0 r (Y 20 5)) (64 + r) 10 0
def zc_advance (X : wx_S) (r : Nat) : wx_S := if zc_cut X r then zc_goDown X r else zc_made (zc_wrote X r) r
set_option maxRecDepth 100000 in
set_option maxHeartbeats 4000000 in
theorem mm_Re_advance (X : wx_S) (r : Nat) (hr : r < 4) (hok : zc_ok X r) (hid : X (64 + r) 0 = r) (hrd : X (68 + r) 5 ≤ 14) (htm : X (64 + r) 10 < 2147483648) (hc1 : X (64 + r) 11 < 4294967296) (hc2 : X (64 + r) 12 < 4294967296) (ho : X (68 + r) 1 ≤ 40 ∧ X (68 + r) 2 ≤ X (68 + r) 1) (hm : zc_may X r → ¬ zc_cut X r → X 44 3 < 802) : nw_M wd_all yy_Re_advance cc_Re_advance 4 (some .boolean) 5 0 0 [.ref (64 + r)] X (fun v X' => v = some (.int (nI (zb_n (zc_may X r)))) ∧ X' = if zc_may X r then zc_advance X r else X) := by
  refine nw_of [some (.ref (64 + r)), none, none, none] (by decide +kernel) rfl (Nat.le_of_ble_eq_true rfl) rfl ?_
  intro p l e s m args below meth c A g C
  have e0 : ∀ c k, c ≠ 64 + r → c ≠ 68 + r → zc_wrote X r c k = X c k := fun c k h1 h2 => zc_wrote_oth X r k h1 h2
  have e1 : ∀ k, k ≠ 6 → zc_wrote X r (68 + r) k = X (68 + r) k := fun k hk => by
    rw [zc_wrote, wx_u_nk hk]
    split
    · rfl
    · rw [wx_u_nc (by omega)]
  have e2 : ∀ k, k ≠ 12 → zc_wrote X r (64 + r) k = X (64 + r) k := fun k hk => by
    rw [zc_wrote, wx_u_nc (by omega)]
    split
    · rfl
    · rw [wx_u_nk hk]
  refine cw_aload_n C dd_Re_advance_0 rfl ?_
  refine cw_callV (As := []) C kV_Re_196 wc_16 (is_16 hr) dd_Re_advance_1 rfl rfl (Nat.le_of_ble_eq_true rfl) ⟨(Nat.le_of_ble_eq_true rfl), (Nat.le_of_ble_eq_true rfl)⟩ ⟨(Nat.le_of_ble_eq_true rfl), (Nat.le_of_ble_eq_true rfl)⟩ (mm_Re_mayAdvance X r hr hok hid hrd htm) (nw_ki ?_)
  refine nw_zne (tgt := 9) C dd_Re_advance_4 (by decide) (fun h4 => ?_) (fun h4 => ?_)
  · refine cw_aload_n C dd_Re_advance_9 rfl ?_
    by_cases hcut : zc_cut X r
    · refine cw_callV (As := []) C kV_Re_145 wc_16 (is_16 hr) dd_Re_advance_10 rfl rfl (Nat.le_of_ble_eq_true rfl) ⟨(Nat.le_of_ble_eq_true rfl), (Nat.le_of_ble_eq_true rfl)⟩ ⟨(Nat.le_of_ble_eq_true rfl), (Nat.le_of_ble_eq_true rfl)⟩ (mm_Re_writeRecord_dn X r hr hc1 hc2 hcut) (nw_ki ?_)
      refine nw_if_eq (tgt := 99) C dd_Re_advance_13 (by decide) (by decide) (fun h13 => ?_) (fun h13 => ?_)
      · refine cw_iconst (v := nI 1) C dd_Re_advance_99 (by decide +kernel) ?_
        exact cw_zreturn C dd_Re_advance_100 (nw_zn (by decide)) (Nat.le_of_ble_eq_true rfl) (Nat.le_of_ble_eq_true rfl) ⟨_, rfl, rfl, ⟨congrArg (fun z => some (Value.int z)) (zb_t h4), by rw [if_pos h4, zc_advance]; first | (rw [if_pos hcut]; done) | (rw [if_neg hcut, zc_made, e1 5 (by decide), e0 (108 + r) _ (by omega) (by omega), e0 20 _ (by omega) (by omega)])⟩⟩
      · exact absurd rfl h13
    · refine cw_callV (As := []) C kV_Re_145 wc_16 (is_16 hr) dd_Re_advance_10 rfl rfl (Nat.le_of_ble_eq_true rfl) ⟨(Nat.le_of_ble_eq_true rfl), (Nat.le_of_ble_eq_true rfl)⟩ ⟨(Nat.le_of_ble_eq_true rfl), (Nat.le_of_ble_eq_true rfl)⟩ (mm_Re_writeRecord_ok X r hr hc1 hc2 hcut) (nw_ki ?_)
      refine nw_if_eq (tgt := 99) C dd_Re_advance_13 (by decide) (by decide) (fun h13 => ?_) (fun h13 => ?_)
      · exact absurd h13 (by decide)
      · refine cw_aload_n C dd_Re_advance_16 rfl ?_
        refine cw_gets (b := 64) (b' := 100) C hr rfl wc_16 kF_Re_45 (is_16 hr) (by decide) rfl dd_Re_advance_17 rfl ?_
        refine cw_aload_n C dd_Re_advance_20 rfl ?_
        refine cw_gets (b := 64) (b' := 68) C hr rfl wc_16 kF_Re_12 (is_16 hr) (by decide) rfl dd_Re_advance_21 rfl ?_
        refine nw_getiv C (X (68 + r) 5) wc_17 kF_Re_199 (is_17 hr) (by decide) rfl dd_Re_advance_24 (e1 _ (by decide)) ?_
        refine cw_callV (As := [_]) C kV_Re_202 wc_25 (is_25 hr) dd_Re_advance_27 rfl rfl (Nat.le_of_ble_eq_true rfl) ⟨(Nat.le_of_ble_eq_true rfl), (Nat.le_of_ble_eq_true rfl)⟩ ⟨(Nat.le_of_ble_eq_true rfl), (Nat.le_of_ble_eq_true rfl)⟩ (mm_Dg_authorsOf (zc_wrote X r) r hr (X (68 + r) 5) (by omega)) (nw_ki ?_)
        rw [e0 (108 + r) _ (by omega) (by omega)]
        refine cw_istore_n C dd_Re_advance_30 (Nat.le_of_ble_eq_true rfl) ?_
        refine cw_aload_n C dd_Re_advance_31 rfl ?_
        refine cw_gets (b := 64) (b' := 68) C hr rfl wc_16 kF_Re_12 (is_16 hr) (by decide) rfl dd_Re_advance_32 rfl ?_
        refine cw_callV (As := []) C kV_Re_206 wc_17 (is_17 hr) dd_Re_advance_35 rfl rfl (Nat.le_of_ble_eq_true rfl) ⟨(Nat.le_of_ble_eq_true rfl), (Nat.le_of_ble_eq_true rfl)⟩ ⟨(Nat.le_of_ble_eq_true rfl), (Nat.le_of_ble_eq_true rfl)⟩ (mm_Di_nextOfQueue' (zc_wrote X r) r hr (by rw [e1 _ (by decide)]; omega) (by rw [e1 _ (by decide)]; omega)) (nw_ki ?_)
        refine cw_istore_n C dd_Re_advance_38 (Nat.le_of_ble_eq_true rfl) ?_
        refine cw_aload_n C dd_Re_advance_39 rfl ?_
        refine cw_gets (b := 64) (b' := 68) C hr rfl wc_16 kF_Re_12 (is_16 hr) (by decide) rfl dd_Re_advance_40 rfl ?_
        refine cw_callV (As := []) C kV_Re_206 wc_17 (is_17 hr) dd_Re_advance_43 rfl rfl (Nat.le_of_ble_eq_true rfl) ⟨(Nat.le_of_ble_eq_true rfl), (Nat.le_of_ble_eq_true rfl)⟩ ⟨(Nat.le_of_ble_eq_true rfl), (Nat.le_of_ble_eq_true rfl)⟩ (mm_Di_nextOfQueue' (zc_qX (zc_wrote X r) r) r hr (by rw [zc_qX_oth _ _ (by omega), e1 _ (by decide)]; omega) (by rw [zc_qX]; split; rw [e1 _ (by decide)]; omega; rw [wx_u_eq, e1 _ (by decide)]; rename_i hq; rw [e1 _ (by decide), e1 _ (by decide)] at hq; omega)) (nw_ki ?_)
        refine cw_istore_n C dd_Re_advance_46 (Nat.le_of_ble_eq_true rfl) ?_
        refine cw_aload_n C dd_Re_advance_47 rfl ?_
        refine cw_gets (b := 64) (b' := 68) C hr rfl wc_16 kF_Re_12 (is_16 hr) (by decide) rfl dd_Re_advance_48 rfl ?_
        refine cw_dup C dd_Re_advance_51 rfl ?_
        refine nw_getiv C (X (68 + r) 5) wc_17 kF_Re_199 (is_17 hr) (by decide) rfl dd_Re_advance_52 (by rw [zc_qX_oth _ _ (by omega), zc_qX_oth _ _ (by omega)]; exact e1 _ (by decide)) ?_
        refine cw_iconst (v := nI 1) C dd_Re_advance_55 (by decide +kernel) ?_
        refine nw_iadd C dd_Re_advance_56 ?_
        refine nw_puti C wc_17 kF_Re_199 (is_17 hr) (by decide) rfl rfl rfl rfl dd_Re_advance_57 ?_
        refine cw_aload_n C dd_Re_advance_60 rfl ?_
        refine cw_getr (q' := 44) C wc_16 kF_Re_32 (is_16 hr) (by decide) rfl dd_Re_advance_61 rfl ?_
        refine cw_iconst (v := nI 0) C dd_Re_advance_64 (by decide +kernel) ?_
        refine cw_aload_n C dd_Re_advance_65 rfl ?_
        refine nw_getiv C r wc_16 kF_Re_29 (is_16 hr) (by decide) rfl dd_Re_advance_66 (by rw [wx_u_nc (by omega), zc_qX_oth _ _ (by omega), zc_qX_oth _ _ (by omega), e2 _ (by decide)]; exact hid) ?_
        refine cw_aload_n C dd_Re_advance_69 rfl ?_
        refine cw_getr (q' := 20) C wc_16 kF_Re_36 (is_16 hr) (by decide) rfl dd_Re_advance_70 rfl ?_
        refine cw_aload_n C dd_Re_advance_73 rfl ?_
        refine nw_getiv C r wc_16 kF_Re_29 (is_16 hr) (by decide) rfl dd_Re_advance_74 (by rw [wx_u_nc (by omega), zc_qX_oth _ _ (by omega), zc_qX_oth _ _ (by omega), e2 _ (by decide)]; exact hid) ?_
        refine cw_aload_n C dd_Re_advance_77 rfl ?_
        refine cw_gets (b := 64) (b' := 68) C hr rfl wc_16 kF_Re_12 (is_16 hr) (by decide) rfl dd_Re_advance_78 rfl ?_
        refine nw_getiv C (X (68 + r) 5 + 1) wc_17 kF_Re_199 (is_17 hr) (by decide) rfl dd_Re_advance_81 (wx_u_eq _ _ _ _) ?_
        refine cw_iload_n C dd_Re_advance_84 rfl ?_
        refine cw_iload_n C dd_Re_advance_85 rfl ?_
        refine cw_iload_n C dd_Re_advance_86 rfl ?_
        refine cw_callV (As := [_, _, _, _, _]) C kV_Re_210 wc_5 is_5 dd_Re_advance_87 rfl rfl (Nat.le_of_ble_eq_true rfl) ⟨(Nat.le_of_ble_eq_true rfl), (Nat.le_of_ble_eq_true rfl)⟩ ⟨(Nat.le_of_ble_eq_true rfl), (Nat.le_of_ble_eq_true rfl)⟩ (mm_Ve_add' _ _ _ _ _ _ (by rw [wx_u_nc (by omega), zc_qX_oth _ _ (by omega), zc_qX_oth _ _ (by omega), e0 _ _ (by omega) (by omega)]; exact h4.1)) (nw_ki ?_)
        rw [wx_u_nc (by omega), zc_qX_oth _ _ (by omega), zc_qX_oth _ _ (by omega), e0 20 _ (by omega) (by omega)]
        refine cw_callV (As := [_, _, _]) C kV_Re_149 wc_11 is_11 dd_Re_advance_90 rfl rfl (Nat.le_of_ble_eq_true rfl) ⟨(Nat.le_of_ble_eq_true rfl), (Nat.le_of_ble_eq_true rfl)⟩ ⟨(Nat.le_of_ble_eq_true rfl), (Nat.le_of_ble_eq_true rfl)⟩ (mm_Bo_post' _ _ _ _ (by rw [zc_vadd_oth _ _ _ _ _ _ (by omega), wx_u_nc (by omega), zc_qX_oth _ _ (by omega), zc_qX_oth _ _ (by omega), e0 _ _ (by omega) (by omega)]; exact hm h4 hcut)) (nw_ki ?_)
        refine cw_pop C dd_Re_advance_93 rfl ?_
        refine cw_aload_n C dd_Re_advance_94 rfl ?_
        refine cw_iconst (v := nI 0) C dd_Re_advance_95 (by decide +kernel) ?_
        refine nw_puti C wc_16 kF_Re_74 (is_16 hr) (by decide) rfl rfl rfl rfl dd_Re_advance_96 ?_
        refine cw_iconst (v := nI 1) C dd_Re_advance_99 (by decide +kernel) ?_
        exact cw_zreturn C dd_Re_advance_100 (nw_zn (by decide)) (Nat.le_of_ble_eq_true rfl) (Nat.le_of_ble_eq_true rfl) ⟨_, rfl, rfl, ⟨congrArg (fun z => some (Value.int z)) (zb_t h4), by rw [if_pos h4, zc_advance]; first | (rw [if_pos hcut]; done) | (rw [if_neg hcut, zc_made, e1 5 (by decide), e0 (108 + r) _ (by omega) (by omega), e0 20 _ (by omega) (by omega)])⟩⟩
  · refine cw_iconst (v := nI 0) C dd_Re_advance_7 (by decide +kernel) ?_
    exact cw_zreturn C dd_Re_advance_8 (nw_zn (by decide)) (Nat.le_of_ble_eq_true rfl) (Nat.le_of_ble_eq_true rfl) ⟨_, rfl, rfl, ⟨congrArg (fun z => some (Value.int z)) (zb_f h4), (if_neg h4).symm⟩⟩
