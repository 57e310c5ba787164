/-- the rounds whose leaders go with that of w, and the authors reached, after i rounds -/
def zc_lu (X : wx_S) (r w : Nat) : Nat → Nat × Nat
  | 0 => (2 ^ w, 2 ^ (w / 2 % 4))
  | i + 1 => if (w - 1 - i) % 2 = 0 ∧ zc_par X r (zc_lu X r w i).2 (w - i) 4 / 2 ^ ((w - 1 - i) / 2 % 4) % 2 = 1 then ((zc_lu X r w i).1 ||| 2 ^ (w - 1 - i), 2 ^ ((w - 1 - i) / 2 % 4)) else ((zc_lu X r w i).1, zc_par X r (zc_lu X r w i).2 (w - i) 4)
theorem zc_lu2_lt {X : wx_S} {r w : Nat} (h : zc_ok X r) (hw : w ≤ 14) : ∀ i, (zc_lu X r w i).2 < 16
  | 0 => zn_pow4 (by omega)
  | i + 1 => by
    simp only [zc_lu]
    split
    · exact zn_pow4 (by omega)
    · exact zc_ok_par h (by omega) _
theorem zn_p15 {t : Nat} (h : t < 15) : 2 ^ t < 2 ^ 15 := Nat.pow_lt_pow_right (by decide) h
theorem zc_lu1_lt {X : wx_S} {r w : Nat} (hw : w ≤ 14) : ∀ i, (zc_lu X r w i).1 < 2 ^ 15
  | 0 => zn_p15 (by omega)
  | i + 1 => by
    have ih := zc_lu1_lt (X := X) (r := r) hw i
    simp only [zc_lu]
    split
    · exact Nat.or_lt_two_pow ih (zn_p15 (by omega))
    · exact ih
set_option maxRecDepth 100000 in
set_option maxHeartbeats 4000000 in
theorem lp_Co_leadersUnder {p : Program} {l : Launch} {e : Env} {s : State} {m : MethodId} {args : Array Value} {below : List Frame} {meth : Method} {c : Code} {A : Nat → Prop} {g : wd_G} {G : State → Prop} (X : wx_S) (r : Nat) (hr : r < 4) (w : Nat) (hw1 : 1 ≤ w) (hw : w ≤ 14) (hlast : X (124 + r) 5 < w) (hok : zc_ok X r) (C : cw_C p s m args meth c A wd_all g cc_Co_leadersUnder 5 "DagLedger$Commits" (some .int))  (hend : cw_W p l e (cw_rm 3 0 0) s m args below meth c A wd_all g 0 0 G 5 78 [some (.ref (124 + r)), some (.int (nI w)), some (.int (nI (zc_lu X r w ((w - 1 - X (124 + r) 5))).1)), some (.int (nI (zc_lu X r w ((w - 1 - X (124 + r) 5))).2)), some (.int (nI (w - 1 - ((w - 1 - X (124 + r) 5)))))] [] (wx_e X) (wx_l X)) : ∀ (j i : Nat), i + j = (w - 1 - X (124 + r) 5) → cw_W p l e (cw_rm 3 0 0) s m args below meth c A wd_all g 0 0 G 5 16 [some (.ref (124 + r)), some (.int (nI w)), some (.int (nI (zc_lu X r w (i)).1)), some (.int (nI (zc_lu X r w (i)).2)), some (.int (nI (w - 1 - (i))))] [] (wx_e X) (wx_l X) := by
  intro j
  induction j with
  | zero =>
    intro i hij
    refine cw_iload C dd_Co_leadersUnder_16 rfl ?_
    refine cw_aload_n C dd_Co_leadersUnder_18 rfl ?_
    refine nw_geti C wc_31 kF_Co_38 (is_31 hr) (by decide) rfl dd_Co_leadersUnder_19 ?_
    refine nw_icmp_le (tgt := 78) C dd_Co_leadersUnder_22 (by decide) (by first | omega | (simp [wx_u] <;> omega)) (by first | omega | (simp [wx_u] <;> omega)) (fun h22 => ?_) (fun h22 => ?_)
    · have hi : i = (w - 1 - X (124 + r) 5) := by omega
      rw [hi]
      exact hend
    · exact absurd h22 (by omega)
  | succ j ih =>
    intro i hij
    have g1 := zc_lu2_lt (w := w) hok hw i
    have g2 := zc_ok_par hok (w := w - i) (by omega) (zc_lu X r w i).2
    have e1 : w - 1 - i + 1 = w - i := by omega
    refine cw_iload C dd_Co_leadersUnder_16 rfl ?_
    refine cw_aload_n C dd_Co_leadersUnder_18 rfl ?_
    refine nw_geti C wc_31 kF_Co_38 (is_31 hr) (by decide) rfl dd_Co_leadersUnder_19 ?_
    refine nw_icmp_le (tgt := 78) C dd_Co_leadersUnder_22 (by decide) (by first | omega | (simp [wx_u] <;> omega)) (by first | omega | (simp [wx_u] <;> omega)) (fun h22 => ?_) (fun h22 => ?_)
    · exact absurd h22 (by omega)
    · refine cw_aload_n C dd_Co_leadersUnder_25 rfl ?_
      refine cw_gets (b := 124) (b' := 100) C hr rfl wc_31 kF_Co_22 (is_31 hr) (by decide) rfl dd_Co_leadersUnder_26 rfl ?_
      refine cw_iload_n C dd_Co_leadersUnder_29 rfl ?_
      refine cw_iload C dd_Co_leadersUnder_30 rfl ?_
      refine cw_iconst (v := nI 1) C dd_Co_leadersUnder_32 (by decide +kernel) ?_
      refine nw_iadd C dd_Co_leadersUnder_33 ?_
      rw [e1]
      refine cw_callV (As := [_, _]) C kV_Co_62 wc_25 (is_25 hr) dd_Co_leadersUnder_34 rfl rfl (Nat.le_of_ble_eq_true rfl) ⟨(Nat.le_of_ble_eq_true rfl), (Nat.le_of_ble_eq_true rfl)⟩ ⟨(Nat.le_of_ble_eq_true rfl), (Nat.le_of_ble_eq_true rfl)⟩ (mm_Dg_parentsOf X r hr _ (w - i) (by omega) (by omega) (zc_ok_sl hok (by omega))) (nw_ki ?_)
      refine cw_istore_n C dd_Co_leadersUnder_37 (Nat.le_of_ble_eq_true rfl) ?_
      refine cw_iload C dd_Co_leadersUnder_38 rfl ?_
      refine cw_iconst (v := nI 2) C dd_Co_leadersUnder_40 (by decide +kernel) ?_
      refine nw_irem C dd_Co_leadersUnder_41 (by first | omega | (simp [wx_u] <;> omega)) (by decide) (by decide) ?_
      refine nw_if_ne (tgt := 72) C dd_Co_leadersUnder_42 (by decide) (by first | omega | (simp [wx_u] <;> omega)) (fun h42 => ?_) (fun h42 => ?_)
      · refine nw_iincm (b := 1) C dd_Co_leadersUnder_72 (by decide +kernel) rfl (by omega) (Nat.le_of_ble_eq_true rfl) ?_
        refine cw_goto (tgt := 16) C dd_Co_leadersUnder_75 (by decide) ?_
        have k9 := ih (i + 1) (by omega)
        have e9 : zc_lu X r w (i + 1) = ((zc_lu X r w i).1, zc_par X r (zc_lu X r w i).2 (w - i) 4) := by
          rw [zc_lu]
          exact if_neg (fun q => h42 q.1)
        rw [e9] at k9
        exact k9
      · refine cw_iload_n C dd_Co_leadersUnder_45 rfl ?_
        refine cw_iload C dd_Co_leadersUnder_46 rfl ?_
        refine cw_callSN (As := [_]) C kS_Co_46 dd_Co_leadersUnder_48 rfl rfl (Nat.le_of_ble_eq_true rfl) ⟨(Nat.le_of_ble_eq_true rfl), (Nat.le_of_ble_eq_true rfl)⟩ ⟨(Nat.le_of_ble_eq_true rfl), (Nat.le_of_ble_eq_true rfl)⟩ (mm_Le_leaderOf X _ (by omega)) (nw_ki ?_)
        refine cw_callSN (As := [_, _]) C kS_Co_42 dd_Co_leadersUnder_51 rfl rfl (Nat.le_of_ble_eq_true rfl) ⟨(Nat.le_of_ble_eq_true rfl), (Nat.le_of_ble_eq_true rfl)⟩ ⟨(Nat.le_of_ble_eq_true rfl), (Nat.le_of_ble_eq_true rfl)⟩ (mm_Le_contains X _ _ (by omega) (by omega)) (nw_ki ?_)
        refine nw_zeq (tgt := 72) C dd_Co_leadersUnder_54 (by decide) (fun h54 => ?_) (fun h54 => ?_)
        · refine nw_iincm (b := 1) C dd_Co_leadersUnder_72 (by decide +kernel) rfl (by omega) (Nat.le_of_ble_eq_true rfl) ?_
          refine cw_goto (tgt := 16) C dd_Co_leadersUnder_75 (by decide) ?_
          have k9 := ih (i + 1) (by omega)
          have e9 : zc_lu X r w (i + 1) = ((zc_lu X r w i).1, zc_par X r (zc_lu X r w i).2 (w - i) 4) := by
            rw [zc_lu]
            exact if_neg (fun q => h54 q.2)
          rw [e9] at k9
          exact k9
        · refine cw_iload_n C dd_Co_leadersUnder_57 rfl ?_
          refine cw_iconst (v := nI 1) C dd_Co_leadersUnder_58 (by decide +kernel) ?_
          refine cw_iload C dd_Co_leadersUnder_59 rfl ?_
          refine nw_ishl C dd_Co_leadersUnder_61 (by first | omega | (simp [wx_u] <;> omega)) ?_
          refine nw_ior C dd_Co_leadersUnder_62 ?_
          refine cw_istore_n C dd_Co_leadersUnder_63 (Nat.le_of_ble_eq_true rfl) ?_
          refine cw_iconst (v := nI 1) C dd_Co_leadersUnder_64 (by decide +kernel) ?_
          refine cw_iload C dd_Co_leadersUnder_65 rfl ?_
          refine cw_callSN (As := [_]) C kS_Co_46 dd_Co_leadersUnder_67 rfl rfl (Nat.le_of_ble_eq_true rfl) ⟨(Nat.le_of_ble_eq_true rfl), (Nat.le_of_ble_eq_true rfl)⟩ ⟨(Nat.le_of_ble_eq_true rfl), (Nat.le_of_ble_eq_true rfl)⟩ (mm_Le_leaderOf X _ (by omega)) (nw_ki ?_)
          refine nw_ishl C dd_Co_leadersUnder_70 (by first | omega | (simp [wx_u] <;> omega)) ?_
          refine cw_istore_n C dd_Co_leadersUnder_71 (Nat.le_of_ble_eq_true rfl) ?_
          refine nw_iincm (b := 1) C dd_Co_leadersUnder_72 (by decide +kernel) rfl (by omega) (Nat.le_of_ble_eq_true rfl) ?_
          refine cw_goto (tgt := 16) C dd_Co_leadersUnder_75 (by decide) ?_
          have k9 := ih (i + 1) (by omega)
          have e9 : zc_lu X r w (i + 1) = ((zc_lu X r w i).1 ||| 2 ^ (w - 1 - i), 2 ^ ((w - 1 - i) / 2 % 4)) := by
            rw [zc_lu]
            exact if_pos ⟨h42, h54⟩
          rw [e9] at k9
          rw [Nat.one_mul, Nat.one_mul]
          exact k9
set_option maxRecDepth 100000 in
set_option maxHeartbeats 4000000 in
theorem mm_Co_leadersUnder (X : wx_S) (r : Nat) (hr : r < 4) (w : Nat) (hw1 : 1 ≤ w) (hw : w ≤ 14) (hlast : X (124 + r) 5 < w) (hok : zc_ok X r) : nw_M wd_all yy_Co_leadersUnder cc_Co_leadersUnder 5 (some .int) 3 0 0 [.ref (124 + r), .int (nI w)] X (fun v X' => v = some (.int (nI (zc_lu X r w (w - 1 - X (124 + r) 5)).1)) ∧ X' = X) := by
  refine nw_of [some (.ref (124 + r)), some (.int (nI w)), none, none, none] (by decide +kernel) rfl (Nat.le_of_ble_eq_true rfl) rfl ?_
  intro p l e s m args below meth c A g C
  refine cw_iconst (v := nI 1) C dd_Co_leadersUnder_0 (by decide +kernel) ?_
  refine cw_iload_n C dd_Co_leadersUnder_1 rfl ?_
  refine nw_ishl C dd_Co_leadersUnder_2 (by first | omega | (simp [wx_u] <;> omega)) ?_
  refine cw_istore_n C dd_Co_leadersUnder_3 (Nat.le_of_ble_eq_true rfl) ?_
  refine cw_iconst (v := nI 1) C dd_Co_leadersUnder_4 (by decide +kernel) ?_
  refine cw_iload_n C dd_Co_leadersUnder_5 rfl ?_
  refine cw_callSN (As := [_]) C kS_Co_46 dd_Co_leadersUnder_6 rfl rfl (Nat.le_of_ble_eq_true rfl) ⟨(Nat.le_of_ble_eq_true rfl), (Nat.le_of_ble_eq_true rfl)⟩ ⟨(Nat.le_of_ble_eq_true rfl), (Nat.le_of_ble_eq_true rfl)⟩ (mm_Le_leaderOf X w (by omega)) (nw_ki ?_)
  refine nw_ishl C dd_Co_leadersUnder_9 (by first | omega | (simp [wx_u] <;> omega)) ?_
  refine cw_istore_n C dd_Co_leadersUnder_10 (Nat.le_of_ble_eq_true rfl) ?_
  refine cw_iload_n C dd_Co_leadersUnder_11 rfl ?_
  refine cw_iconst (v := nI 1) C dd_Co_leadersUnder_12 (by decide +kernel) ?_
  refine nw_isub C dd_Co_leadersUnder_13 (by first | omega | (simp [wx_u] <;> omega)) ?_
  refine cw_istore C dd_Co_leadersUnder_14 (Nat.le_of_ble_eq_true rfl) ?_
  rw [Nat.one_mul, Nat.one_mul]
  refine lp_Co_leadersUnder X r hr w hw1 hw hlast hok C ?_ (w - 1 - X (124 + r) 5) 0 (by omega)
  refine cw_iload_n C dd_Co_leadersUnder_78 rfl ?_
  exact cw_ireturn C dd_Co_leadersUnder_79 (Nat.le_of_ble_eq_true rfl) (Nat.le_of_ble_eq_true rfl) ⟨_, rfl, rfl, ⟨by first | rfl | simp [wx_u], by first | rfl | simp [wx_u]⟩⟩
abbrev zc_nrC (X : wx_S) (r w : Nat) : Prop := X (104 + r) (w * 4 + w / 2 % 4) ≠ 4294967295 ∧ 2 ≤ zc_std X r (w / 2 % 4) w 4
def zc_nrF (X : wx_S) (r : Nat) : Nat → Nat → Nat
  | _, 0 => 4294967295
  | w, n + 1 => if 14 < w then 4294967295 else if zc_nrC X r w then w else zc_nrF X r (w + 2) n
def zc_nr (X : wx_S) (r : Nat) : Nat := zc_nrF X r (X (124 + r) 5 + 2) 8
theorem zc_std_le (X : wx_S) (r a w : Nat) : ∀ i, zc_std X r a w i ≤ i
  | 0 => Nat.le_refl _
  | i + 1 => by
    have := zc_std_le X r a w i
    simp only [zc_std]
    split <;> omega
set_option maxRecDepth 100000 in
set_option maxHeartbeats 4000000 in
theorem lp_Co_nextRound {p : Program} {l : Launch} {e : Env} {s : State} {m : MethodId} {args : Array Value} {below : List Frame} {meth : Method} {c : Code} {A : Nat → Prop} {g : wd_G} {G : State → Prop} (X : wx_S) (r : Nat) (hr : r < 4) (hok : zc_ok X r) (hp : ∀ i, i < 90 → X 32 i < 2147483648) (RES : Nat) (C : cw_C p s m args meth c A wd_all g cc_Co_nextRound 3 "DagLedger$Commits" (some .int)) (hA : ∀ (w : Nat) (z : Option Value), w = RES → cw_W p l e (cw_rm 3 0 0) s m args below meth c A wd_all g 0 0 G 3 43 [some (.ref (124 + r)), some (.int (nI w)), z] [] (wx_e X) (wx_l X)) (hB : ∀ (w : Nat) (z : Option Value), 4294967295 = RES → cw_W p l e (cw_rm 3 0 0) s m args below meth c A wd_all g 0 0 G 3 51 [some (.ref (124 + r)), some (.int (nI w)), z] [] (wx_e X) (wx_l X)) : ∀ (n w : Nat) (z : Option Value), 14 < w + 2 * n ∧ w ≤ 16 → zc_nrF X r w n = RES → cw_W p l e (cw_rm 3 0 0) s m args below meth c A wd_all g 0 0 G 3 7 [some (.ref (124 + r)), some (.int (nI w)), z] [] (wx_e X) (wx_l X) := by
  intro n
  induction n with
  | zero =>
    intro w z hw hres
    refine cw_iload_n C dd_Co_nextRound_7 rfl ?_
    refine cw_bipush (v := nI 14) C dd_Co_nextRound_8 (by decide +kernel) ?_
    refine nw_icmp_gt (tgt := 51) C dd_Co_nextRound_10 (by decide) (by first | omega | (simp [wx_u] <;> omega)) (by first | omega | (simp [wx_u] <;> omega)) (fun h10 => ?_) (fun h10 => ?_)
    · exact hB w _ (by rw [← hres, zc_nrF])
    · exact absurd h10 (by omega)
  | succ n ih =>
    intro w z hw hres
    refine cw_iload_n C dd_Co_nextRound_7 rfl ?_
    refine cw_bipush (v := nI 14) C dd_Co_nextRound_8 (by decide +kernel) ?_
    refine nw_icmp_gt (tgt := 51) C dd_Co_nextRound_10 (by decide) (by first | omega | (simp [wx_u] <;> omega)) (by first | omega | (simp [wx_u] <;> omega)) (fun h10 => ?_) (fun h10 => ?_)
    · exact hB w _ (by rw [← hres, zc_nrF, if_pos (by omega)])
    · refine cw_iload_n C dd_Co_nextRound_13 rfl ?_
      refine cw_callSN (As := [_]) C kS_Co_46 dd_Co_nextRound_14 rfl rfl (Nat.le_of_ble_eq_true rfl) ⟨(Nat.le_of_ble_eq_true rfl), (Nat.le_of_ble_eq_true rfl)⟩ ⟨(Nat.le_of_ble_eq_true rfl), (Nat.le_of_ble_eq_true rfl)⟩ (mm_Le_leaderOf X w (by omega)) (nw_ki ?_)
      refine cw_istore_n C dd_Co_nextRound_17 (Nat.le_of_ble_eq_true rfl) ?_
      refine cw_aload_n C dd_Co_nextRound_18 rfl ?_
      refine cw_gets (b := 124) (b' := 100) C hr rfl wc_31 kF_Co_22 (is_31 hr) (by decide) rfl dd_Co_nextRound_19 rfl ?_
      refine cw_iload_n C dd_Co_nextRound_22 rfl ?_
      refine cw_iload_n C dd_Co_nextRound_23 rfl ?_
      refine cw_callV (As := [_, _]) C kV_Co_53 wc_25 (is_25 hr) dd_Co_nextRound_24 rfl rfl (Nat.le_of_ble_eq_true rfl) ⟨(Nat.le_of_ble_eq_true rfl), (Nat.le_of_ble_eq_true rfl)⟩ ⟨(Nat.le_of_ble_eq_true rfl), (Nat.le_of_ble_eq_true rfl)⟩ (mm_Dg_holds X r hr (w / 2 % 4) w (by omega) (by have := hok.2.1.1 (w * 4 + w / 2 % 4) (by omega); have := hok.1.1; omega)) (nw_ki ?_)
      refine nw_zeq (tgt := 45) C dd_Co_nextRound_27 (by decide) (fun h27 => ?_) (fun h27 => ?_)
      · refine nw_iinc (b := 2) C dd_Co_nextRound_45 (by decide +kernel) rfl (Nat.le_of_ble_eq_true rfl) ?_
        refine cw_goto (tgt := 7) C dd_Co_nextRound_48 (by decide) ?_
        refine ih (w + 2) _ (by omega) ?_
        rw [← hres]
        conv => rhs; rw [zc_nrF]
        rw [if_neg (by omega), if_neg (fun q => absurd q.1 h27)]
      · refine cw_aload_n C dd_Co_nextRound_30 rfl ?_
        refine cw_gets (b := 124) (b' := 100) C hr rfl wc_31 kF_Co_22 (is_31 hr) (by decide) rfl dd_Co_nextRound_31 rfl ?_
        refine cw_iload_n C dd_Co_nextRound_34 rfl ?_
        refine cw_iload_n C dd_Co_nextRound_35 rfl ?_
        refine cw_callV (As := [_, _]) C kV_Co_58 wc_25 (is_25 hr) dd_Co_nextRound_36 rfl rfl (Nat.le_of_ble_eq_true rfl) ⟨(Nat.le_of_ble_eq_true rfl), (Nat.le_of_ble_eq_true rfl)⟩ ⟨(Nat.le_of_ble_eq_true rfl), (Nat.le_of_ble_eq_true rfl)⟩ (mm_Dg_countStandingOn X r hr (w / 2 % 4) w (by omega) (by omega) (zc_ok_sl hok (w := w + 1) (by omega)) hp) (nw_ki ?_)
        refine cw_iconst (v := nI 2) C dd_Co_nextRound_39 (by decide +kernel) ?_
        have g1 := zc_std_le X r (w / 2 % 4) w 4
        refine nw_icmp_lt (tgt := 45) C dd_Co_nextRound_40 (by decide) (by first | omega | (simp [wx_u] <;> omega)) (by first | omega | (simp [wx_u] <;> omega)) (fun h40 => ?_) (fun h40 => ?_)
        · refine nw_iinc (b := 2) C dd_Co_nextRound_45 (by decide +kernel) rfl (Nat.le_of_ble_eq_true rfl) ?_
          refine cw_goto (tgt := 7) C dd_Co_nextRound_48 (by decide) ?_
          refine ih (w + 2) _ (by omega) ?_
          rw [← hres]
          conv => rhs; rw [zc_nrF]
          rw [if_neg (by omega), if_neg (fun q => absurd q.2 (by omega))]
        · exact hA w _ (by rw [← hres, zc_nrF, if_neg (by omega), if_pos ⟨h27, h40⟩])
set_option maxRecDepth 100000 in
set_option maxHeartbeats 4000000 in
theorem mm_Co_nextRound (X : wx_S) (r : Nat) (hr : r < 4) (hok : zc_ok X r) (hp : ∀ i, i < 90 → X 32 i < 2147483648) (hl : X (124 + r) 5 ≤ 14) : nw_M wd_all yy_Co_nextRound cc_Co_nextRound 3 (some .int) 3 0 0 [.ref (124 + r)] X (fun v X' => v = some (.int (nI (zc_nr X r))) ∧ X' = X) := by
  refine nw_of [some (.ref (124 + r)), none, none] (by decide +kernel) rfl (Nat.le_of_ble_eq_true rfl) rfl ?_
  intro p l e s m args below meth c A g C
  refine cw_aload_n C dd_Co_nextRound_0 rfl ?_
  refine nw_geti C wc_31 kF_Co_38 (is_31 hr) (by decide) rfl dd_Co_nextRound_1 ?_
  refine cw_iconst (v := nI 2) C dd_Co_nextRound_4 (by decide +kernel) ?_
  refine nw_iadd C dd_Co_nextRound_5 ?_
  refine cw_istore_n C dd_Co_nextRound_6 (Nat.le_of_ble_eq_true rfl) ?_
  refine lp_Co_nextRound X r hr hok hp (zc_nr X r) C (fun w z hw => ?_) (fun w z hw => ?_) 8 _ _ (by omega) rfl
  · refine cw_iload_n C dd_Co_nextRound_43 rfl ?_
    exact cw_ireturn C dd_Co_nextRound_44 (Nat.le_of_ble_eq_true rfl) (Nat.le_of_ble_eq_true rfl) ⟨_, rfl, rfl, ⟨by rw [hw], rfl⟩⟩
  · refine cw_iconst (v := nI 4294967295) C dd_Co_nextRound_51 (by decide +kernel) ?_
    exact cw_ireturn C dd_Co_nextRound_52 (Nat.le_of_ble_eq_true rfl) (Nat.le_of_ble_eq_true rfl) ⟨_, rfl, rfl, ⟨by rw [hw], rfl⟩⟩
set_option maxRecDepth 100000 in
set_option maxHeartbeats 4000000 in
theorem mm_Co_clear (X : wx_S) (r : Nat) (hr : r < 4) : nw_M wd_all yy_Co_clear cc_Co_clear 1 none 2 0 0 [.ref (124 + r)] X (fun v X' => v = none ∧ X' = wx_u (zz_fill X (128 + r) 15 0) (124 + r) 5 0) := by
  refine nw_of [some (.ref (124 + r))] (by decide +kernel) rfl (Nat.le_of_ble_eq_true rfl) rfl ?_
  intro p l e s m args below meth c A g C
  refine cw_aload_n C dd_Co_clear_0 rfl ?_
  refine cw_gets (b := 124) (b' := 128) C hr rfl wc_31 kF_Co_9 (is_31 hr) (by decide) rfl dd_Co_clear_1 rfl ?_
  refine cw_iconst (v := nI 0) C dd_Co_clear_4 (by decide +kernel) ?_
  refine cw_callS (As := [_, _]) C kS_Co_85 dd_Co_clear_5 rfl rfl (Nat.le_of_ble_eq_true rfl) ⟨(Nat.le_of_ble_eq_true rfl), (Nat.le_of_ble_eq_true rfl)⟩ ⟨(Nat.le_of_ble_eq_true rfl), (Nat.le_of_ble_eq_true rfl)⟩ (mm_Ar_fill _ (128 + r) 15 0 _ (is_32 hr) (by decide)) (nw_kv ?_)
  refine cw_aload_n C dd_Co_clear_8 rfl ?_
  refine cw_iconst (v := nI 0) C dd_Co_clear_9 (by decide +kernel) ?_
  refine nw_puti C wc_31 kF_Co_38 (is_31 hr) (by decide) rfl rfl rfl rfl dd_Co_clear_10 ?_
  exact cw_vreturn C dd_Co_clear_13 (Nat.le_of_ble_eq_true rfl) (Nat.le_of_ble_eq_true rfl) ⟨_, rfl, rfl, ⟨by first | rfl | simp [wx_u], by first | rfl | simp [wx_u]⟩⟩
