theorem zc_par_lt {X : wx_S} {r au w : Nat} (hp : ∀ k, k < 4 → X (104 + r) (w * 4 + k) = 4294967295 ∨ X 32 (X (104 + r) (w * 4 + k)) < 16) : ∀ i, i ≤ 4 → zc_par X r au w i < 16
  | 0, _ => by simp [zc_par]
  | i + 1, hi => by
    have ih := zc_par_lt (au := au) hp i (by omega)
    simp only [zc_par]
    split
    · rename_i h
      rcases hp i (by omega) with h1 | h1
      · exact absurd h1 h.1
      · exact zn_or16 ih h1
    · exact ih
theorem zc_ok_sl {X : wx_S} {r : Nat} (h : zc_ok X r) {w : Nat} (hw : w ≤ 15) : ∀ i, i < 4 → X (104 + r) (w * 4 + i) < 90 ∨ X (104 + r) (w * 4 + i) = 4294967295 := fun i hi => by
  have := h.2.1.1 (w * 4 + i) (by omega)
  have := h.1.1
  omega
theorem zc_ok_par {X : wx_S} {r : Nat} (h : zc_ok X r) {w : Nat} (hw : w ≤ 15) (au : Nat) : zc_par X r au w 4 < 16 := zc_par_lt (fun k hk => by
  rcases h.2.1.1 (w * 4 + k) (by omega) with h1 | h1
  · exact Or.inr (h.1.2.2.1 _ h1).2.2.2.1
  · exact Or.inl h1) 4 (Nat.le_refl _)
/-- a vertex of the DAG is put in order -/
def zc_emA (Z : wx_S) (r w au a : Nat) : wx_S :=
  if Z (104 + r) (w * 4 + a) ≠ 4294967295 ∧ au / 2 ^ a % 2 = 1 then zc_place (zc_place Z r (Z 36 (Z (104 + r) (w * 4 + a)))) r (Z 40 (Z (104 + r) (w * 4 + a))) else Z
def zc_emF (X : wx_S) (r w au : Nat) : Nat → wx_S
  | 0 => X
  | i + 1 => zc_emA (zc_emF X r w au i) r w au i
theorem zc_place_ok {X : wx_S} {r t : Nat} (h : zc_ok X r) (ht : t < X 4 3 ∨ t = 4294967295) : zc_ok (zc_place X r t) r := ⟨zc_place_V h.1, zc_place_S h.2.1, zc_place_B h.1 ht h.2.2⟩
theorem zc_emA_ok {Z : wx_S} {r w au a : Nat} (h : zc_ok Z r) (ha : w * 4 + a < 64) : zc_ok (zc_emA Z r w au a) r := by
  unfold zc_emA
  split
  · rename_i hc
    rcases h.2.1.1 _ ha with h1 | h1
    · have h2 := h.1.2.2.1 _ h1
      refine zc_place_ok (zc_place_ok h h2.2.2.2.2.1) ?_
      rw [zc_place_oth _ _ _ _ (by omega) (by omega) (by omega)]
      exact h2.2.2.2.2.2
    · exact absurd h1 hc.1
  · exact h
theorem zc_emF_ok {X : wx_S} {r w au : Nat} (h : zc_ok X r) (hw : w ≤ 15) : ∀ i, i ≤ 4 → zc_ok (zc_emF X r w au i) r
  | 0, _ => h
  | i + 1, hi => zc_emA_ok (zc_emF_ok h hw i (by omega)) (by omega)
theorem zc_emA_oth (Z : wx_S) (r w au a : Nat) {c : Nat} (k : Nat) (h1 : c ≠ 112 + r) (h2 : c ≠ 116 + r) (h3 : c ≠ 120 + r) : zc_emA Z r w au a c k = Z c k := by
  unfold zc_emA
  split
  · rw [zc_place_oth _ _ _ _ h1 h2 h3, zc_place_oth _ _ _ _ h1 h2 h3]
  · rfl
theorem zc_emF_oth (X : wx_S) (r w au : Nat) {c : Nat} (k : Nat) (h1 : c ≠ 112 + r) (h2 : c ≠ 116 + r) (h3 : c ≠ 120 + r) : ∀ i, zc_emF X r w au i c k = X c k
  | 0 => rfl
  | i + 1 => by rw [zc_emF, zc_emA_oth _ _ _ _ _ _ h1 h2 h3, zc_emF_oth X r w au k h1 h2 h3 i]
set_option maxRecDepth 100000 in
set_option maxHeartbeats 4000000 in
theorem lp_Co_emitRound {p : Program} {l : Launch} {e : Env} {s : State} {m : MethodId} {args : Array Value} {below : List Frame} {meth : Method} {c : Code} {A : Nat → Prop} {g : wd_G} {G : State → Prop} (X : wx_S) (r : Nat) (hr : r < 4) (w au : Nat) (hw : w ≤ 15) (hau : au < 2147483648) (hok : zc_ok X r) (C : cw_C p s m args meth c A wd_all g cc_Co_emitRound 5 "DagLedger$Commits" none)  (hend : ∀ z : Option Value, cw_W p l e (cw_rm 3 0 0) s m args below meth c A wd_all g 0 0 G 5 72 [some (.ref (124 + r)), some (.int (nI w)), some (.int (nI au)), some (.int (nI (4))), z] [] (wx_e (zc_emF X r w au (4))) (wx_l (zc_emF X r w au (4)))) : ∀ (j i : Nat) (z : Option Value), i + j = 4 → cw_W p l e (cw_rm 3 0 0) s m args below meth c A wd_all g 0 0 G 5 2 [some (.ref (124 + r)), some (.int (nI w)), some (.int (nI au)), some (.int (nI (i))), z] [] (wx_e (zc_emF X r w au (i))) (wx_l (zc_emF X r w au (i))) := by
  intro j
  induction j with
  | zero =>
    intro i z hij
    refine cw_iload_n C dd_Co_emitRound_2 rfl ?_
    refine cw_iconst (v := nI 4) C dd_Co_emitRound_3 (by decide +kernel) ?_
    refine nw_icmp_ge (tgt := 72) C dd_Co_emitRound_4 (by decide) (by first | omega | (simp [wx_u] <;> omega)) (by first | omega | (simp [wx_u] <;> omega)) (fun h4 => ?_) (fun h4 => ?_)
    · have hi : i = 4 := by omega
      rw [hi]
      exact hend z
    · exact absurd h4 (by omega)
  | succ j ih =>
    intro i z hij
    have hk := zc_emF_ok (w := w) (au := au) hok hw i (by omega)
    generalize hZ : (zc_emF X r w au i) = Z at hk
    have g1 := hk.2.1.1 (w * 4 + i) (by omega)
    have g2 := hk.1.1
    refine cw_iload_n C dd_Co_emitRound_2 rfl ?_
    refine cw_iconst (v := nI 4) C dd_Co_emitRound_3 (by decide +kernel) ?_
    refine nw_icmp_ge (tgt := 72) C dd_Co_emitRound_4 (by decide) (by first | omega | (simp [wx_u] <;> omega)) (by first | omega | (simp [wx_u] <;> omega)) (fun h4 => ?_) (fun h4 => ?_)
    · exact absurd h4 (by omega)
    · refine cw_aload_n C dd_Co_emitRound_7 rfl ?_
      refine cw_gets (b := 124) (b' := 100) C hr rfl wc_31 kF_Co_22 (is_31 hr) (by decide) rfl dd_Co_emitRound_8 rfl ?_
      refine cw_iload_n C dd_Co_emitRound_11 rfl ?_
      refine cw_iload_n C dd_Co_emitRound_12 rfl ?_
      refine cw_callV (As := [_, _]) C kV_Co_68 wc_25 (is_25 hr) dd_Co_emitRound_13 rfl rfl (Nat.le_of_ble_eq_true rfl) ⟨(Nat.le_of_ble_eq_true rfl), (Nat.le_of_ble_eq_true rfl)⟩ ⟨(Nat.le_of_ble_eq_true rfl), (Nat.le_of_ble_eq_true rfl)⟩ (mm_Dg_find Z r hr i w (by omega)) (nw_ki ?_)
      refine cw_istore C dd_Co_emitRound_16 (Nat.le_of_ble_eq_true rfl) ?_
      refine cw_iload C dd_Co_emitRound_18 rfl ?_
      refine cw_iconst (v := nI 4294967295) C dd_Co_emitRound_20 (by decide +kernel) ?_
      refine nw_icmp_eq (tgt := 66) C dd_Co_emitRound_21 (by decide) (by first | omega | (simp [wx_u] <;> omega)) (by first | omega | (simp [wx_u] <;> omega)) (fun h21 => ?_) (fun h21 => ?_)
      · refine nw_iinc (b := 1) C dd_Co_emitRound_66 (by decide +kernel) rfl (Nat.le_of_ble_eq_true rfl) ?_
        refine cw_goto (tgt := 2) C dd_Co_emitRound_69 (by decide) ?_
        have e9 : zc_emF X r w au (i + 1) = Z := by
          rw [zc_emF, hZ, zc_emA]
          exact if_neg (fun q => q.1 h21)
        exact nw_eqX e9.symm (ih (i + 1) _ (by omega))
      · have g3 : Z (104 + r) (w * 4 + i) < Z 20 5 := by omega
        have g4 := hk.1.2.2.1 _ g3
        refine cw_iload_n C dd_Co_emitRound_24 rfl ?_
        refine cw_iload_n C dd_Co_emitRound_25 rfl ?_
        refine cw_callSN (As := [_, _]) C kS_Co_42 dd_Co_emitRound_26 rfl rfl (Nat.le_of_ble_eq_true rfl) ⟨(Nat.le_of_ble_eq_true rfl), (Nat.le_of_ble_eq_true rfl)⟩ ⟨(Nat.le_of_ble_eq_true rfl), (Nat.le_of_ble_eq_true rfl)⟩ (mm_Le_contains Z au i hau (by omega)) (nw_ki ?_)
        refine nw_zeq (tgt := 66) C dd_Co_emitRound_29 (by decide) (fun h29 => ?_) (fun h29 => ?_)
        · refine nw_iinc (b := 1) C dd_Co_emitRound_66 (by decide +kernel) rfl (Nat.le_of_ble_eq_true rfl) ?_
          refine cw_goto (tgt := 2) C dd_Co_emitRound_69 (by decide) ?_
          have e9 : zc_emF X r w au (i + 1) = Z := by
            rw [zc_emF, hZ, zc_emA]
            exact if_neg (fun q => h29 q.2)
          exact nw_eqX e9.symm (ih (i + 1) _ (by omega))
        · refine cw_aload_n C dd_Co_emitRound_32 rfl ?_
          refine cw_gets (b := 124) (b' := 112) C hr rfl wc_31 kF_Co_26 (is_31 hr) (by decide) rfl dd_Co_emitRound_33 rfl ?_
          refine cw_aload_n C dd_Co_emitRound_36 rfl ?_
          refine cw_getr (q' := 20) C wc_31 kF_Co_18 (is_31 hr) (by decide) rfl dd_Co_emitRound_37 rfl ?_
          refine cw_getr (q' := 36) C wc_5 kF_Co_71 is_5 (by decide) rfl dd_Co_emitRound_40 rfl ?_
          refine cw_iload C dd_Co_emitRound_43 rfl ?_
          refine nw_iald C is_9 (by first | omega | (simp [wx_u] <;> omega)) (by decide) dd_Co_emitRound_45 ?_
          refine cw_callV (As := [_]) C kV_Co_76 wc_28 (is_28 hr) dd_Co_emitRound_46 rfl rfl (Nat.le_of_ble_eq_true rfl) ⟨(Nat.le_of_ble_eq_true rfl), (Nat.le_of_ble_eq_true rfl)⟩ ⟨(Nat.le_of_ble_eq_true rfl), (Nat.le_of_ble_eq_true rfl)⟩ (mm_Bk_place_ok Z r hr _ hk g4.2.2.2.2.1) (nw_kv ?_)
          refine cw_aload_n C dd_Co_emitRound_49 rfl ?_
          refine cw_gets (b := 124) (b' := 112) C hr rfl wc_31 kF_Co_26 (is_31 hr) (by decide) rfl dd_Co_emitRound_50 rfl ?_
          refine cw_aload_n C dd_Co_emitRound_53 rfl ?_
          refine cw_getr (q' := 20) C wc_31 kF_Co_18 (is_31 hr) (by decide) rfl dd_Co_emitRound_54 rfl ?_
          refine cw_getr (q' := 40) C wc_5 kF_Co_82 is_5 (by decide) rfl dd_Co_emitRound_57 rfl ?_
          refine cw_iload C dd_Co_emitRound_60 rfl ?_
          refine nw_ialdv C (Z 40 (Z (104 + r) (w * 4 + i))) is_10 (by omega) (by decide) dd_Co_emitRound_62 (zc_place_oth _ _ _ _ (by omega) (by omega) (by omega)) ?_
          refine cw_callV (As := [_]) C kV_Co_76 wc_28 (is_28 hr) dd_Co_emitRound_63 rfl rfl (Nat.le_of_ble_eq_true rfl) ⟨(Nat.le_of_ble_eq_true rfl), (Nat.le_of_ble_eq_true rfl)⟩ ⟨(Nat.le_of_ble_eq_true rfl), (Nat.le_of_ble_eq_true rfl)⟩ (mm_Bk_place_ok _ r hr _ (zc_place_ok hk g4.2.2.2.2.1) (by rw [zc_place_oth _ _ _ _ (by omega) (by omega) (by omega)]; exact g4.2.2.2.2.2)) (nw_kv ?_)
          refine nw_iinc (b := 1) C dd_Co_emitRound_66 (by decide +kernel) rfl (Nat.le_of_ble_eq_true rfl) ?_
          refine cw_goto (tgt := 2) C dd_Co_emitRound_69 (by decide) ?_
          have e9 : zc_emF X r w au (i + 1) = zc_place (zc_place Z r (Z 36 (Z (104 + r) (w * 4 + i)))) r (Z 40 (Z (104 + r) (w * 4 + i))) := by
            rw [zc_emF, hZ, zc_emA]
            exact if_pos ⟨h21, h29⟩
          exact nw_eqX e9.symm (ih (i + 1) _ (by omega))
set_option maxRecDepth 100000 in
set_option maxHeartbeats 4000000 in
theorem mm_Co_emitRound (X : wx_S) (r : Nat) (hr : r < 4) (w au : Nat) (hw : w ≤ 15) (hau : au < 2147483648) (hok : zc_ok X r) : nw_M wd_all yy_Co_emitRound cc_Co_emitRound 5 none 3 0 0 [.ref (124 + r), .int (nI w), .int (nI au)] X (fun v X' => v = none ∧ X' = zc_emF X r w au 4) := by
  refine nw_of [some (.ref (124 + r)), some (.int (nI w)), some (.int (nI au)), none, none] (by decide +kernel) rfl (Nat.le_of_ble_eq_true rfl) rfl ?_
  intro p l e s m args below meth c A g C
  refine cw_iconst (v := nI 0) C dd_Co_emitRound_0 (by decide +kernel) ?_
  refine cw_istore_n C dd_Co_emitRound_1 (Nat.le_of_ble_eq_true rfl) ?_
  refine lp_Co_emitRound X r hr w au hw hau hok C ?_ 4 0 _ (by omega)
  intro z
  exact cw_vreturn C dd_Co_emitRound_72 (Nat.le_of_ble_eq_true rfl) (Nat.le_of_ble_eq_true rfl) ⟨_, rfl, rfl, ⟨rfl, rfl⟩⟩
/-- cells that the emission's scratch does not touch -/
def zc_dn (X : wx_S) (r w a : Nat) : Nat → wx_S
  | 0 => wx_u X (132 + r) w (2 ^ a)
  | j + 1 => wx_u (zc_dn X r w a j) (132 + r) (w - 1 - j) (zc_par (zc_dn X r w a j) r (zc_dn X r w a j (132 + r) (w - j)) (w - j) 4)
theorem zc_dn_oth (X : wx_S) (r w a : Nat) {c : Nat} (k : Nat) (h : c ≠ 132 + r) : ∀ j, zc_dn X r w a j c k = X c k
  | 0 => wx_u_nc h
  | j + 1 => by rw [zc_dn, wx_u_nc h, zc_dn_oth X r w a k h j]
theorem zc_ok_same {X Y : wx_S} {r : Nat} (h : zc_ok X r) (e : ∀ c k, c ≠ 132 + r → c ≠ 128 + r → Y c k = X c k) (hr : r < 4) : zc_ok Y r := by
  have e1 : ∀ c k, c < 128 → Y c k = X c k := fun c k hc => e c k (by omega) (by omega)
  obtain ⟨hV, hS, hB⟩ := h
  refine ⟨?_, ?_, ?_⟩
  · unfold zc_V at *
    simp only [e1 20 _ (by omega), e1 4 _ (by omega), e1 24 _ (by omega), e1 28 _ (by omega), e1 32 _ (by omega), e1 36 _ (by omega), e1 40 _ (by omega), e1 8 _ (by omega), e1 12 _ (by omega), e1 16 _ (by omega)]
    exact hV
  · refine ⟨fun k hk => ?_, fun w hw => ?_⟩
    · rw [e1 _ _ (by omega), e1 _ _ (by omega)]; exact hS.1 k hk
    · rw [e1 _ _ (by omega)]; exact hS.2 w hw
  · unfold zc_B at *
    simp only [e1 (112 + r) _ (by omega), e1 (120 + r) _ (by omega)]
    exact hB
theorem zc_dn_ok {X : wx_S} {r w a : Nat} (hr : r < 4) (h : zc_ok X r) (j : Nat) : zc_ok (zc_dn X r w a j) r := zc_ok_same h (fun c k h1 _ => zc_dn_oth X r w a k h1 j) hr
theorem zc_dn_lt {X : wx_S} {r w a : Nat} (hr : r < 4) (h : zc_ok X r) (ha : a < 4) (hw : w ≤ 14) : ∀ j, j < w → zc_dn X r w a j (132 + r) (w - j) < 16
  | 0, _ => by rw [zc_dn, Nat.sub_zero, wx_u_eq]; exact zn_pow4 ha
  | j + 1, hj => by
    rw [zc_dn, show w - (j + 1) = w - 1 - j by omega, wx_u_eq]
    exact zc_ok_par (zc_dn_ok hr h j) (by omega) _
set_option maxRecDepth 100000 in
set_option maxHeartbeats 4000000 in
theorem lp_Co_emit1 {p : Program} {l : Launch} {e : Env} {s : State} {m : MethodId} {args : Array Value} {below : List Frame} {meth : Method} {c : Code} {A : Nat → Prop} {g : wd_G} {G : State → Prop} (X : wx_S) (r : Nat) (hr : r < 4) (a w : Nat) (ha : a < 4) (hw1 : 1 ≤ w) (hw : w ≤ 14) (hok : zc_ok X r) (C : cw_C p s m args meth c A wd_all g cc_Co_emit 4 "DagLedger$Commits" none)  (hend : cw_W p l e (cw_rm 4 0 0) s m args below meth c A wd_all g 0 0 G 4 48 [some (.ref (124 + r)), some (.int (nI a)), some (.int (nI w)), some (.int (nI (w - 1 - ((w - 1)))))] [] (wx_e (zc_dn X r w a ((w - 1)))) (wx_l (zc_dn X r w a ((w - 1))))) : ∀ (j i : Nat), i + j = (w - 1) → cw_W p l e (cw_rm 4 0 0) s m args below meth c A wd_all g 0 0 G 4 13 [some (.ref (124 + r)), some (.int (nI a)), some (.int (nI w)), some (.int (nI (w - 1 - (i))))] [] (wx_e (zc_dn X r w a (i))) (wx_l (zc_dn X r w a (i))) := by
  intro j
  induction j with
  | zero =>
    intro i hij
    refine cw_iload_n C dd_Co_emit_13 rfl ?_
    refine cw_iconst (v := nI 1) C dd_Co_emit_14 (by decide +kernel) ?_
    refine nw_icmp_lt (tgt := 48) C dd_Co_emit_15 (by decide) (by first | omega | (simp [wx_u] <;> omega)) (by first | omega | (simp [wx_u] <;> omega)) (fun h15 => ?_) (fun h15 => ?_)
    · have hi : i = (w - 1) := by omega
      rw [hi]
      exact hend
    · exact absurd h15 (by omega)
  | succ j ih =>
    intro i hij
    have hk := zc_dn_ok (w := w) (a := a) hr hok i
    have hl := zc_dn_lt hr hok ha hw i (by omega)
    have e1 : w - 1 - i + 1 = w - i := by omega
    refine cw_iload_n C dd_Co_emit_13 rfl ?_
    refine cw_iconst (v := nI 1) C dd_Co_emit_14 (by decide +kernel) ?_
    refine nw_icmp_lt (tgt := 48) C dd_Co_emit_15 (by decide) (by first | omega | (simp [wx_u] <;> omega)) (by first | omega | (simp [wx_u] <;> omega)) (fun h15 => ?_) (fun h15 => ?_)
    · exact absurd h15 (by omega)
    · refine cw_aload_n C dd_Co_emit_18 rfl ?_
      refine cw_gets (b := 124) (b' := 132) C hr rfl wc_31 kF_Co_15 (is_31 hr) (by decide) rfl dd_Co_emit_19 rfl ?_
      refine cw_iload_n C dd_Co_emit_22 rfl ?_
      refine cw_aload_n C dd_Co_emit_23 rfl ?_
      refine cw_gets (b := 124) (b' := 100) C hr rfl wc_31 kF_Co_22 (is_31 hr) (by decide) rfl dd_Co_emit_24 rfl ?_
      refine cw_aload_n C dd_Co_emit_27 rfl ?_
      refine cw_gets (b := 124) (b' := 132) C hr rfl wc_31 kF_Co_15 (is_31 hr) (by decide) rfl dd_Co_emit_28 rfl ?_
      refine cw_iload_n C dd_Co_emit_31 rfl ?_
      refine cw_iconst (v := nI 1) C dd_Co_emit_32 (by decide +kernel) ?_
      refine nw_iadd C dd_Co_emit_33 ?_
      rw [e1]
      refine nw_iald C (is_33 hr) (by omega) (by decide) dd_Co_emit_34 ?_
      refine cw_iload_n C dd_Co_emit_35 rfl ?_
      refine cw_iconst (v := nI 1) C dd_Co_emit_36 (by decide +kernel) ?_
      refine nw_iadd C dd_Co_emit_37 ?_
      rw [e1]
      refine cw_callV (As := [_, _]) C kV_Co_62 wc_25 (is_25 hr) dd_Co_emit_38 rfl rfl (Nat.le_of_ble_eq_true rfl) ⟨(Nat.le_of_ble_eq_true rfl), (Nat.le_of_ble_eq_true rfl)⟩ ⟨(Nat.le_of_ble_eq_true rfl), (Nat.le_of_ble_eq_true rfl)⟩ (mm_Dg_parentsOf (zc_dn X r w a i) r hr (zc_dn X r w a i (132 + r) (w - i)) (w - i) (by omega) (by omega) (zc_ok_sl hk (by omega))) (nw_ki ?_)
      refine nw_iast C (is_33 hr) (by first | omega | (simp [wx_u] <;> omega)) (by decide) dd_Co_emit_41 ?_
      refine nw_iincm (b := 1) C dd_Co_emit_42 (by decide +kernel) rfl (by omega) (Nat.le_of_ble_eq_true rfl) ?_
      refine cw_goto (tgt := 13) C dd_Co_emit_45 (by decide) ?_
      have e2 : w - 1 - i - 1 = w - 1 - (i + 1) := by omega
      rw [e2]
      exact ih (i + 1) (by omega)
theorem zc_dn_all {X : wx_S} {r w a : Nat} (hr : r < 4) (h : zc_ok X r) (ha : a < 4) (hw : w ≤ 14) : ∀ j, j < w → ∀ k, w - j ≤ k → k ≤ w → zc_dn X r w a j (132 + r) k < 16
  | 0, _, k, h1, h2 => by
    obtain rfl : k = w := by omega
    rw [zc_dn, wx_u_eq]; exact zn_pow4 ha
  | j + 1, hj, k, h1, h2 => by
    by_cases hk : k = w - 1 - j
    · rw [zc_dn, hk, wx_u_eq]
      exact zc_ok_par (zc_dn_ok hr h j) (by omega) _
    · rw [zc_dn, wx_u_nk hk]
      exact zc_dn_all hr h ha hw j (by omega) k (by omega) h2
def zc_e2 (Y : wx_S) (r : Nat) : Nat → wx_S
  | 0 => Y
  | i + 1 => wx_u (zc_emF (zc_e2 Y r i) r (i + 1) (zc_e2 Y r i (132 + r) (i + 1) &&& (zc_e2 Y r i (128 + r) (i + 1) ^^^ 4294967295)) 4) (128 + r) (i + 1) (zc_e2 Y r i (128 + r) (i + 1) ||| zc_e2 Y r i (132 + r) (i + 1))
theorem zc_e2_rch (Y : wx_S) (r k : Nat) : ∀ i, zc_e2 Y r i (132 + r) k = Y (132 + r) k
  | 0 => rfl
  | i + 1 => by rw [zc_e2, wx_u_nc (by omega), zc_emF_oth _ _ _ _ _ (by omega) (by omega) (by omega), zc_e2_rch Y r k i]
theorem zc_e2_ok {Y : wx_S} {r : Nat} (hr : r < 4) (h : zc_ok Y r) : ∀ i, i ≤ 15 → zc_ok (zc_e2 Y r i) r
  | 0, _ => h
  | i + 1, hi => zc_ok_same (zc_emF_ok (w := i + 1) (zc_e2_ok hr h i (by omega)) (by omega) 4 (Nat.le_refl _)) (fun c k _ h2 => wx_u_nc h2) hr
def zc_emit (X : wx_S) (r a w : Nat) : wx_S := zc_e2 (zc_dn X r w a (w - 1)) r w
set_option maxRecDepth 100000 in
set_option maxHeartbeats 4000000 in
theorem lp_Co_emit2 {p : Program} {l : Launch} {e : Env} {s : State} {m : MethodId} {args : Array Value} {below : List Frame} {meth : Method} {c : Code} {A : Nat → Prop} {g : wd_G} {G : State → Prop} (Y : wx_S) (r : Nat) (hr : r < 4) (a w : Nat) (hw : w ≤ 14) (hY : zc_ok Y r) (hy : ∀ k, 1 ≤ k → k ≤ w → Y (132 + r) k < 16) (C : cw_C p s m args meth c A wd_all g cc_Co_emit 4 "DagLedger$Commits" none)  (hend : cw_W p l e (cw_rm 4 0 0) s m args below meth c A wd_all g 0 0 G 4 96 [some (.ref (124 + r)), some (.int (nI a)), some (.int (nI w)), some (.int (nI (w + 1)))] [] (wx_e (zc_e2 Y r (w))) (wx_l (zc_e2 Y r (w)))) : ∀ (j i : Nat), i + j = w → cw_W p l e (cw_rm 4 0 0) s m args below meth c A wd_all g 0 0 G 4 50 [some (.ref (124 + r)), some (.int (nI a)), some (.int (nI w)), some (.int (nI (i + 1)))] [] (wx_e (zc_e2 Y r (i))) (wx_l (zc_e2 Y r (i))) := by
  intro j
  induction j with
  | zero =>
    intro i hij
    refine cw_iload_n C dd_Co_emit_50 rfl ?_
    refine cw_iload_n C dd_Co_emit_51 rfl ?_
    refine nw_icmp_gt (tgt := 96) C dd_Co_emit_52 (by decide) (by first | omega | (simp [wx_u] <;> omega)) (by first | omega | (simp [wx_u] <;> omega)) (fun h52 => ?_) (fun h52 => ?_)
    · have hi : i = w := by omega
      rw [hi]
      exact hend
    · exact absurd h52 (by omega)
  | succ j ih =>
    intro i hij
    have hk := zc_e2_ok hr hY i (by omega)
    have g1 : zc_e2 Y r i (132 + r) (i + 1) < 16 := by rw [zc_e2_rch]; exact hy _ (by omega) (by omega)
    refine cw_iload_n C dd_Co_emit_50 rfl ?_
    refine cw_iload_n C dd_Co_emit_51 rfl ?_
    refine nw_icmp_gt (tgt := 96) C dd_Co_emit_52 (by decide) (by first | omega | (simp [wx_u] <;> omega)) (by first | omega | (simp [wx_u] <;> omega)) (fun h52 => ?_) (fun h52 => ?_)
    · exact absurd h52 (by omega)
    · refine cw_aload_n C dd_Co_emit_55 rfl ?_
      refine cw_iload_n C dd_Co_emit_56 rfl ?_
      refine cw_aload_n C dd_Co_emit_57 rfl ?_
      refine cw_gets (b := 124) (b' := 132) C hr rfl wc_31 kF_Co_15 (is_31 hr) (by decide) rfl dd_Co_emit_58 rfl ?_
      refine cw_iload_n C dd_Co_emit_61 rfl ?_
      refine nw_iald C (is_33 hr) (by first | omega | (simp [wx_u] <;> omega)) (by decide) dd_Co_emit_62 ?_
      refine cw_aload_n C dd_Co_emit_63 rfl ?_
      refine cw_gets (b := 124) (b' := 128) C hr rfl wc_31 kF_Co_9 (is_31 hr) (by decide) rfl dd_Co_emit_64 rfl ?_
      refine cw_iload_n C dd_Co_emit_67 rfl ?_
      refine nw_iald C (is_32 hr) (by first | omega | (simp [wx_u] <;> omega)) (by decide) dd_Co_emit_68 ?_
      refine cw_iconst (v := nI 4294967295) C dd_Co_emit_69 (by decide +kernel) ?_
      refine nw_ixor C dd_Co_emit_70 ?_
      refine nw_iand C dd_Co_emit_71 ?_
      refine cw_callV (As := [_, _]) C kV_Co_65 wc_31 (is_31 hr) dd_Co_emit_72 rfl rfl (Nat.le_of_ble_eq_true rfl) ⟨(Nat.le_of_ble_eq_true rfl), (Nat.le_of_ble_eq_true rfl)⟩ ⟨(Nat.le_of_ble_eq_true rfl), (Nat.le_of_ble_eq_true rfl)⟩ (mm_Co_emitRound (zc_e2 Y r i) r hr (i + 1) _ (by omega) (Nat.lt_trans (zn_and_lt g1) (by decide)) hk) (nw_kv ?_)
      refine cw_aload_n C dd_Co_emit_75 rfl ?_
      refine cw_gets (b := 124) (b' := 128) C hr rfl wc_31 kF_Co_9 (is_31 hr) (by decide) rfl dd_Co_emit_76 rfl ?_
      refine cw_iload_n C dd_Co_emit_79 rfl ?_
      refine cw_dup2 C dd_Co_emit_80 rfl rfl ?_
      refine nw_ialdv C (zc_e2 Y r i (128 + r) (i + 1)) (is_32 hr) (by omega) (by decide) dd_Co_emit_81 (zc_emF_oth _ _ _ _ _ (by omega) (by omega) (by omega) _) ?_
      refine cw_aload_n C dd_Co_emit_82 rfl ?_
      refine cw_gets (b := 124) (b' := 132) C hr rfl wc_31 kF_Co_15 (is_31 hr) (by decide) rfl dd_Co_emit_83 rfl ?_
      refine cw_iload_n C dd_Co_emit_86 rfl ?_
      refine nw_ialdv C (zc_e2 Y r i (132 + r) (i + 1)) (is_33 hr) (by omega) (by decide) dd_Co_emit_87 (zc_emF_oth _ _ _ _ _ (by omega) (by omega) (by omega) _) ?_
      refine nw_ior C dd_Co_emit_88 ?_
      refine nw_iast C (is_32 hr) (by first | omega | (simp [wx_u] <;> omega)) (by decide) dd_Co_emit_89 ?_
      refine nw_iinc (b := 1) C dd_Co_emit_90 (by decide +kernel) rfl (Nat.le_of_ble_eq_true rfl) ?_
      refine cw_goto (tgt := 50) C dd_Co_emit_93 (by decide) ?_
      exact ih (i + 1) (by omega)
set_option maxRecDepth 100000 in
set_option maxHeartbeats 4000000 in
theorem mm_Co_emit (X : wx_S) (r : Nat) (hr : r < 4) (a w : Nat) (ha : a < 4) (hw1 : 1 ≤ w) (hw : w ≤ 14) (hok : zc_ok X r) : nw_M wd_all yy_Co_emit cc_Co_emit 4 none 4 0 0 [.ref (124 + r), .int (nI a), .int (nI w)] X (fun v X' => v = none ∧ X' = zc_emit X r a w) := by
  refine nw_of [some (.ref (124 + r)), some (.int (nI a)), some (.int (nI w)), none] (by decide +kernel) rfl (Nat.le_of_ble_eq_true rfl) rfl ?_
  intro p l e s m args below meth c A g C
  refine cw_aload_n C dd_Co_emit_0 rfl ?_
  refine cw_gets (b := 124) (b' := 132) C hr rfl wc_31 kF_Co_15 (is_31 hr) (by decide) rfl dd_Co_emit_1 rfl ?_
  refine cw_iload_n C dd_Co_emit_4 rfl ?_
  refine cw_iconst (v := nI 1) C dd_Co_emit_5 (by decide +kernel) ?_
  refine cw_iload_n C dd_Co_emit_6 rfl ?_
  refine nw_ishl C dd_Co_emit_7 (by first | omega | (simp [wx_u] <;> omega)) ?_
  rw [Nat.one_mul]
  refine nw_iast C (is_33 hr) (by first | omega | (simp [wx_u] <;> omega)) (by decide) dd_Co_emit_8 ?_
  refine cw_iload_n C dd_Co_emit_9 rfl ?_
  refine cw_iconst (v := nI 1) C dd_Co_emit_10 (by decide +kernel) ?_
  refine nw_isub C dd_Co_emit_11 (by first | omega | (simp [wx_u] <;> omega)) ?_
  refine cw_istore_n C dd_Co_emit_12 (Nat.le_of_ble_eq_true rfl) ?_
  refine lp_Co_emit1 X r hr a w ha hw1 hw hok C ?_ (w - 1) 0 (by omega)
  refine cw_iconst (v := nI 1) C dd_Co_emit_48 (by decide +kernel) ?_
  refine cw_istore_n C dd_Co_emit_49 (Nat.le_of_ble_eq_true rfl) ?_
  refine lp_Co_emit2 (zc_dn X r w a (w - 1)) r hr a w hw (zc_dn_ok hr hok _) (fun k h1 h2 => zc_dn_all hr hok ha hw _ (by omega) k (by omega) h2) C ?_ w 0 (by omega)
  exact cw_vreturn C dd_Co_emit_96 (Nat.le_of_ble_eq_true rfl) (Nat.le_of_ble_eq_true rfl) ⟨_, rfl, rfl, ⟨rfl, rfl⟩⟩
