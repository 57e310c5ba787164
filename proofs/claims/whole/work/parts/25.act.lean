/-- what act's calls need -/
def zc_I0 (X : wx_S) (r : Nat) : Prop := zc_ok X r ∧ X (84 + r) 3 ≤ 90 ∧ (∀ i, i < X (84 + r) 3 → X (96 + r) i < X 20 5) ∧ (∀ i, i < 90 → X 32 i < 2147483648) ∧ X (124 + r) 5 ≤ 14 ∧ X (64 + r) 0 = r ∧ X (68 + r) 5 ≤ 14 ∧ X (64 + r) 10 < 2147483648 ∧ X (64 + r) 11 < 4294967296 ∧ X (64 + r) 12 < 4294967296 ∧ (X (68 + r) 1 ≤ 40 ∧ X (68 + r) 2 ≤ X (68 + r) 1) ∧ (zc_may X r → ¬ zc_cut X r → X 44 3 < 802) ∧ X (64 + r) 8 < 4294967296
def zc_step (X : wx_S) (r : Nat) : Option wx_S :=
  if (zc_nx X r (X (84 + r) 3)) ≠ 4294967295 then some (zc_ins X r (zc_nx X r (X (84 + r) 3)))
  else if (zc_nr X r) ≠ 4294967295 then some (zc_commit X r (zc_nr X r))
  else if zc_may X r then some (zc_advance X r) else none
def zc_actF (r : Nat) : Nat → wx_S → wx_S
  | 0, X => X
  | n + 1, X => if X (64 + r) 8 = 1 then (match zc_step X r with | some Y => zc_actF r n Y | none => X) else X
def zc_act (X : wx_S) (r : Nat) : wx_S := zc_actF r 1000 X
theorem mm_Re_insertNext_no (X : wx_S) (r : Nat) (hr : r < 4) (h : zc_I0 X r) (hx : (zc_nx X r (X (84 + r) 3)) = 4294967295) : nw_M wd_all yy_Re_insertNext cc_Re_insertNext 4 (some .boolean) 4 0 0 [.ref (64 + r)] X (fun v X' => v = some (.int (nI 0)) ∧ X' = X) := by
  have h9 := mm_Re_insertNext X r hr h.1 h.2.1 h.2.2.1
  rw [if_pos hx, show zb_n ((zc_nx X r (X (84 + r) 3)) ≠ 4294967295) = 0 from if_neg (fun q => q hx)] at h9
  exact h9
theorem mm_Re_insertNext_yes (X : wx_S) (r : Nat) (hr : r < 4) (h : zc_I0 X r) (hx : ¬ (zc_nx X r (X (84 + r) 3)) = 4294967295) : nw_M wd_all yy_Re_insertNext cc_Re_insertNext 4 (some .boolean) 4 0 0 [.ref (64 + r)] X (fun v X' => v = some (.int (nI 1)) ∧ X' = zc_ins X r (zc_nx X r (X (84 + r) 3))) := by
  have h9 := mm_Re_insertNext X r hr h.1 h.2.1 h.2.2.1
  rw [if_neg hx, show zb_n ((zc_nx X r (X (84 + r) 3)) ≠ 4294967295) = 1 from if_pos hx] at h9
  exact h9
theorem mm_Co_commitNext_no (X : wx_S) (r : Nat) (hr : r < 4) (h : zc_I0 X r) (hx : (zc_nr X r) = 4294967295) : nw_M wd_all yy_Co_commitNext cc_Co_commitNext 4 (some .boolean) 5 0 0 [.ref (124 + r)] X (fun v X' => v = some (.int (nI 0)) ∧ X' = X) := by
  have h9 := mm_Co_commitNext X r hr h.1 h.2.2.2.1 h.2.2.2.2.1
  rw [if_pos hx, show zb_n ((zc_nr X r) ≠ 4294967295) = 0 from if_neg (fun q => q hx)] at h9
  exact h9
theorem mm_Co_commitNext_yes (X : wx_S) (r : Nat) (hr : r < 4) (h : zc_I0 X r) (hx : ¬ (zc_nr X r) = 4294967295) : nw_M wd_all yy_Co_commitNext cc_Co_commitNext 4 (some .boolean) 5 0 0 [.ref (124 + r)] X (fun v X' => v = some (.int (nI 1)) ∧ X' = zc_commit X r (zc_nr X r)) := by
  have h9 := mm_Co_commitNext X r hr h.1 h.2.2.2.1 h.2.2.2.2.1
  rw [if_neg hx, show zb_n ((zc_nr X r) ≠ 4294967295) = 1 from if_pos hx] at h9
  exact h9
theorem mm_Re_advance_no (X : wx_S) (r : Nat) (hr : r < 4) (h : zc_I0 X r) (hx : ¬ zc_may X r) : nw_M wd_all yy_Re_advance cc_Re_advance 4 (some .boolean) 5 0 0 [.ref (64 + r)] X (fun v X' => v = some (.int (nI 0)) ∧ X' = X) := by
  obtain ⟨a1, a2, a3, a4, a5, a6, a7, a8, a9, a10, a11, a12, a13⟩ := h
  have h9 := mm_Re_advance X r hr a1 a6 a7 a8 a9 a10 a11 a12
  rw [if_neg hx, show zb_n (zc_may X r) = 0 from if_neg hx] at h9
  exact h9
theorem mm_Re_advance_yes (X : wx_S) (r : Nat) (hr : r < 4) (h : zc_I0 X r) (hx : zc_may X r) : nw_M wd_all yy_Re_advance cc_Re_advance 4 (some .boolean) 5 0 0 [.ref (64 + r)] X (fun v X' => v = some (.int (nI 1)) ∧ X' = zc_advance X r) := by
  obtain ⟨a1, a2, a3, a4, a5, a6, a7, a8, a9, a10, a11, a12, a13⟩ := h
  have h9 := mm_Re_advance X r hr a1 a6 a7 a8 a9 a10 a11 a12
  rw [if_pos hx, show zb_n (zc_may X r) = 1 from if_pos hx] at h9
  exact h9
set_option maxRecDepth 100000 in
set_option maxHeartbeats 4000000 in
theorem lp_Re_act {p : Program} {l : Launch} {e : Env} {s : State} {m : MethodId} {args : Array Value} {below : List Frame} {meth : Method} {c : Code} {A : Nat → Prop} {g : wd_G} {G : State → Prop} (r : Nat) (hr : r < 4) (I : wx_S → Prop) (hI : ∀ X, I X → zc_I0 X r) (hstep : ∀ X Y, I X → X (64 + r) 8 = 1 → zc_step X r = some Y → I Y) (RES : wx_S) (C : cw_C p s m args meth c A wd_all g cc_Re_act 2 "DagLedger$Replica" none) (hA : ∀ (i : Nat), cw_W p l e (cw_rm 6 0 0) s m args below meth c A wd_all g 0 0 G 2 47 [some (.ref (64 + r)), some (.int (nI i))] [] (wx_e RES) (wx_l RES)) (hB : ∀ (i : Nat), cw_W p l e (cw_rm 6 0 0) s m args below meth c A wd_all g 0 0 G 2 40 [some (.ref (64 + r)), some (.int (nI i))] [] (wx_e RES) (wx_l RES)) : ∀ (n i : Nat) (X : wx_S), i + n = 1000 → I X → zc_actF r n X = RES → cw_W p l e (cw_rm 6 0 0) s m args below meth c A wd_all g 0 0 G 2 2 [some (.ref (64 + r)), some (.int (nI i))] [] (wx_e X) (wx_l X) := by
  intro n
  induction n with
  | zero =>
    intro i X hi hX hres
    refine cw_iload_n C dd_Re_act_2 rfl ?_
    refine cw_sipush (v := nI 1000) C dd_Re_act_3 (by decide +kernel) ?_
    refine nw_icmp_ge (tgt := 47) C dd_Re_act_6 (by decide) (by first | omega | (simp [wx_u] <;> omega)) (by first | omega | (simp [wx_u] <;> omega)) (fun h6 => ?_) (fun h6 => ?_)
    · exact nw_eqX hres (hA i)
    · exact absurd h6 (by omega)
  | succ n ih =>
    intro i X hi hX hres
    have h0 := hI X hX
    refine cw_iload_n C dd_Re_act_2 rfl ?_
    refine cw_sipush (v := nI 1000) C dd_Re_act_3 (by decide +kernel) ?_
    refine nw_icmp_ge (tgt := 47) C dd_Re_act_6 (by decide) (by first | omega | (simp [wx_u] <;> omega)) (by first | omega | (simp [wx_u] <;> omega)) (fun h6 => ?_) (fun h6 => ?_)
    · exact absurd h6 (by omega)
    · refine cw_aload_n C dd_Re_act_9 rfl ?_
      refine cw_callV (As := []) C kV_Re_166 wc_16 (is_16 hr) dd_Re_act_10 rfl rfl (Nat.le_of_ble_eq_true rfl) ⟨(Nat.le_of_ble_eq_true rfl), (Nat.le_of_ble_eq_true rfl)⟩ ⟨(Nat.le_of_ble_eq_true rfl), (Nat.le_of_ble_eq_true rfl)⟩ (mm_Re_isUp X r hr h0.2.2.2.2.2.2.2.2.2.2.2.2) (nw_ki ?_)
      refine nw_zeq (tgt := 47) C dd_Re_act_13 (by decide) (fun h13 => ?_) (fun h13 => ?_)
      · exact nw_eqX (by rw [← hres, zc_actF, if_neg h13]) (hA i)
      · refine cw_aload_n C dd_Re_act_16 rfl ?_
        by_cases hx : (zc_nx X r (X (84 + r) 3)) = 4294967295
        · refine cw_callV (As := []) C kV_Re_169 wc_16 (is_16 hr) dd_Re_act_17 rfl rfl (Nat.le_of_ble_eq_true rfl) ⟨(Nat.le_of_ble_eq_true rfl), (Nat.le_of_ble_eq_true rfl)⟩ ⟨(Nat.le_of_ble_eq_true rfl), (Nat.le_of_ble_eq_true rfl)⟩ (mm_Re_insertNext_no X r hr h0 hx) (nw_ki ?_)
          refine nw_if_ne (tgt := 41) C dd_Re_act_20 (by decide) (by decide) (fun h20 => ?_) (fun h20 => ?_)
          · exact absurd rfl h20
          · refine cw_aload_n C dd_Re_act_23 rfl ?_
            refine cw_gets (b := 64) (b' := 124) C hr rfl wc_16 kF_Re_63 (is_16 hr) (by decide) rfl dd_Re_act_24 rfl ?_
            by_cases hy : (zc_nr X r) = 4294967295
            · refine cw_callV (As := []) C kV_Re_172 wc_31 (is_31 hr) dd_Re_act_27 rfl rfl (Nat.le_of_ble_eq_true rfl) ⟨(Nat.le_of_ble_eq_true rfl), (Nat.le_of_ble_eq_true rfl)⟩ ⟨(Nat.le_of_ble_eq_true rfl), (Nat.le_of_ble_eq_true rfl)⟩ (mm_Co_commitNext_no X r hr h0 hy) (nw_ki ?_)
              refine nw_if_ne (tgt := 41) C dd_Re_act_30 (by decide) (by decide) (fun h30 => ?_) (fun h30 => ?_)
              · exact absurd rfl h30
              · refine cw_aload_n C dd_Re_act_33 rfl ?_
                by_cases hz : zc_may X r
                · refine cw_callV (As := []) C kV_Re_175 wc_16 (is_16 hr) dd_Re_act_34 rfl rfl (Nat.le_of_ble_eq_true rfl) ⟨(Nat.le_of_ble_eq_true rfl), (Nat.le_of_ble_eq_true rfl)⟩ ⟨(Nat.le_of_ble_eq_true rfl), (Nat.le_of_ble_eq_true rfl)⟩ (mm_Re_advance_yes X r hr h0 hz) (nw_ki ?_)
                  have hs : zc_step X r = some (zc_advance X r) := by
                    rw [zc_step, if_neg (fun q => q hx), if_neg (fun q => q hy), if_pos hz]
                  refine nw_if_ne (tgt := 41) C dd_Re_act_37 (by decide) (by decide) (fun h37 => ?_) (fun h37 => ?_)
                  · refine nw_iinc (b := 1) C dd_Re_act_41 (by decide +kernel) rfl (Nat.le_of_ble_eq_true rfl) ?_
                    refine cw_goto (tgt := 2) C dd_Re_act_44 (by decide) ?_
                    exact ih (i + 1) _ (by omega) (hstep X _ hX h13 hs) (by rw [← hres, zc_actF, if_pos h13, hs])
                  · exact absurd h37 (by decide)
                · refine cw_callV (As := []) C kV_Re_175 wc_16 (is_16 hr) dd_Re_act_34 rfl rfl (Nat.le_of_ble_eq_true rfl) ⟨(Nat.le_of_ble_eq_true rfl), (Nat.le_of_ble_eq_true rfl)⟩ ⟨(Nat.le_of_ble_eq_true rfl), (Nat.le_of_ble_eq_true rfl)⟩ (mm_Re_advance_no X r hr h0 hz) (nw_ki ?_)
                  refine nw_if_ne (tgt := 41) C dd_Re_act_37 (by decide) (by decide) (fun h37 => ?_) (fun h37 => ?_)
                  · exact absurd rfl h37
                  · exact nw_eqX (by rw [← hres, zc_actF, if_pos h13, zc_step, if_neg (fun q => q hx), if_neg (fun q => q hy), if_neg hz]) (hB i)
            · refine cw_callV (As := []) C kV_Re_172 wc_31 (is_31 hr) dd_Re_act_27 rfl rfl (Nat.le_of_ble_eq_true rfl) ⟨(Nat.le_of_ble_eq_true rfl), (Nat.le_of_ble_eq_true rfl)⟩ ⟨(Nat.le_of_ble_eq_true rfl), (Nat.le_of_ble_eq_true rfl)⟩ (mm_Co_commitNext_yes X r hr h0 hy) (nw_ki ?_)
              have hs : zc_step X r = some (zc_commit X r (zc_nr X r)) := by
                rw [zc_step, if_neg (fun q => q hx), if_pos hy]
              refine nw_if_ne (tgt := 41) C dd_Re_act_30 (by decide) (by decide) (fun h30 => ?_) (fun h30 => ?_)
              · refine nw_iinc (b := 1) C dd_Re_act_41 (by decide +kernel) rfl (Nat.le_of_ble_eq_true rfl) ?_
                refine cw_goto (tgt := 2) C dd_Re_act_44 (by decide) ?_
                exact ih (i + 1) _ (by omega) (hstep X _ hX h13 hs) (by rw [← hres, zc_actF, if_pos h13, hs])
              · exact absurd h30 (by decide)
        · refine cw_callV (As := []) C kV_Re_169 wc_16 (is_16 hr) dd_Re_act_17 rfl rfl (Nat.le_of_ble_eq_true rfl) ⟨(Nat.le_of_ble_eq_true rfl), (Nat.le_of_ble_eq_true rfl)⟩ ⟨(Nat.le_of_ble_eq_true rfl), (Nat.le_of_ble_eq_true rfl)⟩ (mm_Re_insertNext_yes X r hr h0 hx) (nw_ki ?_)
          have hs : zc_step X r = some (zc_ins X r (zc_nx X r (X (84 + r) 3))) := if_pos hx
          refine nw_if_ne (tgt := 41) C dd_Re_act_20 (by decide) (by decide) (fun h20 => ?_) (fun h20 => ?_)
          · refine nw_iinc (b := 1) C dd_Re_act_41 (by decide +kernel) rfl (Nat.le_of_ble_eq_true rfl) ?_
            refine cw_goto (tgt := 2) C dd_Re_act_44 (by decide) ?_
            exact ih (i + 1) _ (by omega) (hstep X _ hX h13 hs) (by rw [← hres, zc_actF, if_pos h13, hs])
          · exact absurd h20 (by decide)
set_option maxRecDepth 100000 in
set_option maxHeartbeats 4000000 in
theorem mm_Re_act (X : wx_S) (r : Nat) (hr : r < 4) (I : wx_S → Prop) (hI : ∀ X, I X → zc_I0 X r) (hstep : ∀ X Y, I X → X (64 + r) 8 = 1 → zc_step X r = some Y → I Y) (hX : I X) : nw_M wd_all yy_Re_act cc_Re_act 2 none 6 0 0 [.ref (64 + r)] X (fun v X' => v = none ∧ X' = zc_act X r) := by
  refine nw_of [some (.ref (64 + r)), none] (by decide +kernel) rfl (Nat.le_of_ble_eq_true rfl) rfl ?_
  intro p l e s m args below meth c A g C
  refine cw_iconst (v := nI 0) C dd_Re_act_0 (by decide +kernel) ?_
  refine cw_istore_n C dd_Re_act_1 (Nat.le_of_ble_eq_true rfl) ?_
  refine lp_Re_act r hr I hI hstep (zc_act X r) C (fun i => ?_) (fun i => ?_) 1000 0 X (by omega) hX rfl
  · exact cw_vreturn C dd_Re_act_47 (Nat.le_of_ble_eq_true rfl) (Nat.le_of_ble_eq_true rfl) ⟨_, rfl, rfl, ⟨rfl, rfl⟩⟩
  · exact cw_vreturn C dd_Re_act_40 (Nat.le_of_ble_eq_true rfl) (Nat.le_of_ble_eq_true rfl) ⟨_, rfl, rfl, ⟨rfl, rfl⟩⟩
set_option maxRecDepth 100000 in
set_option maxHeartbeats 4000000 in
theorem mm_Re_passTime (X : wx_S) (r : Nat) (hr : r < 4) (ht : X (64 + r) 10 ≤ 3) (I : wx_S → Prop) (hI : ∀ X, I X → zc_I0 X r) (hstep : ∀ X Y, I X → X (64 + r) 8 = 1 → zc_step X r = some Y → I Y) (hX : I (wx_u X (64 + r) 10 (if X (64 + r) 10 < 3 then X (64 + r) 10 + 1 else 3))) : nw_M wd_all yy_Re_passTime cc_Re_passTime 1 none 7 0 0 [.ref (64 + r)] X (fun v X' => v = none ∧ X' = zc_act (wx_u X (64 + r) 10 (if X (64 + r) 10 < 3 then X (64 + r) 10 + 1 else 3)) r) := by
  refine nw_of [some (.ref (64 + r))] (by decide +kernel) rfl (Nat.le_of_ble_eq_true rfl) rfl ?_
  intro p l e s m args below meth c A g C
  have hmin : (if nI 3 < nI (X (64 + r) 10 + 1) then nI 3 else nI (X (64 + r) 10 + 1)) = nI (if X (64 + r) 10 < 3 then X (64 + r) 10 + 1 else 3) := by
    by_cases h : X (64 + r) 10 < 3
    · rw [if_neg (fun q => absurd ((wx_lt (by decide) (by omega)).mp q) (by omega)), if_pos h]
    · rw [if_pos ((wx_lt (by decide) (by omega)).mpr (by omega)), if_neg h]
  refine cw_aload_n C dd_Re_passTime_0 rfl ?_
  refine cw_aload_n C dd_Re_passTime_1 rfl ?_
  refine nw_geti C wc_16 kF_Re_74 (is_16 hr) (by decide) rfl dd_Re_passTime_2 ?_
  refine cw_iconst (v := nI 1) C dd_Re_passTime_5 (by decide +kernel) ?_
  refine nw_iadd C dd_Re_passTime_6 ?_
  refine cw_iconst (v := nI 3) C dd_Re_passTime_7 (by decide +kernel) ?_
  refine cw_mmin C (wd_in (wd_c2 (List.mem_of_getElem? (i := 186) rfl)) rfl) (wd_in (wd_c2 (List.mem_of_getElem? (i := 187) rfl)) rfl) (wd_in (wd_c0 (List.mem_of_getElem? (i := 19) rfl)) rfl) (wd_in (wd_c2 (List.mem_of_getElem? (i := 188) rfl)) rfl) ⟨(Nat.le_of_ble_eq_true rfl), (Nat.le_of_ble_eq_true rfl), (Nat.le_of_ble_eq_true rfl), (Nat.le_of_ble_eq_true rfl)⟩ dd_Re_passTime_8 ?_
  rw [hmin]
  refine nw_puti C wc_16 kF_Re_74 (is_16 hr) (by decide) rfl rfl rfl rfl dd_Re_passTime_11 ?_
  refine cw_aload_n C dd_Re_passTime_14 rfl ?_
  refine cw_callV (As := []) C kV_Re_101 wc_16 (is_16 hr) dd_Re_passTime_15 rfl rfl (Nat.le_of_ble_eq_true rfl) ⟨(Nat.le_of_ble_eq_true rfl), (Nat.le_of_ble_eq_true rfl)⟩ ⟨(Nat.le_of_ble_eq_true rfl), (Nat.le_of_ble_eq_true rfl)⟩ (mm_Re_act _ r hr I hI hstep hX) (nw_kv ?_)
  exact cw_vreturn C dd_Re_passTime_18 (Nat.le_of_ble_eq_true rfl) (Nat.le_of_ble_eq_true rfl) ⟨_, rfl, rfl, ⟨by first | rfl | simp [wx_u], by first | rfl | simp [wx_u]⟩⟩
def zc_tk (X : wx_S) (r m : Nat) : wx_S := if X 48 m = 0 then zc_tkS X r (X 56 m) (X 52 m) else if X 48 m = 1 then zc_tkE X r (X 56 m) (X 52 m) else zc_tkR X r (X 56 m) (X 52 m)
def zc_take (X : wx_S) (r m : Nat) : wx_S := zc_act (zc_tk X r m) r
set_option maxRecDepth 100000 in
set_option maxHeartbeats 4000000 in
theorem mm_Re_take (X : wx_S) (r : Nat) (hr : r < 4) (k : Nat) (hk8 : k < 802) (hV : zc_V X) (hN : zc_N X r) (hu : X 56 k < X 20 5) (hq : X 52 k < 4) (hkd : X 48 k < 3) (hm : X 44 3 < 802) (hw : X (84 + r) 3 < 90) (I : wx_S → Prop) (hI : ∀ X, I X → zc_I0 X r) (hstep : ∀ X Y, I X → X (64 + r) 8 = 1 → zc_step X r = some Y → I Y) (hX : I (zc_tk X r k)) : nw_M wd_all yy_Re_take cc_Re_take 4 none 7 0 0 [.ref (64 + r), .int (nI k)] X (fun v X' => v = none ∧ X' = zc_take X r k) := by
  refine nw_of [some (.ref (64 + r)), some (.int (nI k)), none, none] (by decide +kernel) rfl (Nat.le_of_ble_eq_true rfl) rfl ?_
  intro p l e s m args below meth c A g C
  refine cw_aload_n C dd_Re_take_0 rfl ?_
  refine cw_getr (q' := 44) C wc_16 kF_Re_32 (is_16 hr) (by decide) rfl dd_Re_take_1 rfl ?_
  refine cw_getr (q' := 56) C wc_11 kF_Re_104 is_11 (by decide) rfl dd_Re_take_4 rfl ?_
  refine cw_iload_n C dd_Re_take_7 rfl ?_
  refine nw_iald C is_14 (by first | omega | (simp [wx_u] <;> omega)) (by decide) dd_Re_take_8 ?_
  refine cw_istore_n C dd_Re_take_9 (Nat.le_of_ble_eq_true rfl) ?_
  refine cw_aload_n C dd_Re_take_10 rfl ?_
  refine cw_getr (q' := 44) C wc_16 kF_Re_32 (is_16 hr) (by decide) rfl dd_Re_take_11 rfl ?_
  refine cw_getr (q' := 52) C wc_11 kF_Re_110 is_11 (by decide) rfl dd_Re_take_14 rfl ?_
  refine cw_iload_n C dd_Re_take_17 rfl ?_
  refine nw_iald C is_13 (by first | omega | (simp [wx_u] <;> omega)) (by decide) dd_Re_take_18 ?_
  refine cw_istore_n C dd_Re_take_19 (Nat.le_of_ble_eq_true rfl) ?_
  refine cw_aload_n C dd_Re_take_20 rfl ?_
  refine cw_getr (q' := 44) C wc_16 kF_Re_32 (is_16 hr) (by decide) rfl dd_Re_take_21 rfl ?_
  refine cw_getr (q' := 48) C wc_11 kF_Re_113 is_11 (by decide) rfl dd_Re_take_24 rfl ?_
  refine cw_iload_n C dd_Re_take_27 rfl ?_
  refine nw_iald C is_12 (by first | omega | (simp [wx_u] <;> omega)) (by decide) dd_Re_take_28 ?_
  rcases (show X 48 k = 0 ∨ X 48 k = 1 ∨ X 48 k = 2 by omega) with hk | hk | hk
  · have e9 : zc_tk X r k = zc_tkS X r (X 56 k) (X 52 k) := if_pos hk
    refine cw_lookup (off := 27) (tgt := 56) C dd_Re_take_29 (by decide) (by rw [hk]; decide +kernel) (by decide) ?_
    refine cw_aload_n C dd_Re_take_56 rfl ?_
    refine cw_iload_n C dd_Re_take_57 rfl ?_
    refine cw_iload_n C dd_Re_take_58 rfl ?_
    refine cw_callV (As := [_, _]) C kV_Re_116 wc_16 (is_16 hr) dd_Re_take_59 rfl rfl (Nat.le_of_ble_eq_true rfl) ⟨(Nat.le_of_ble_eq_true rfl), (Nat.le_of_ble_eq_true rfl)⟩ ⟨(Nat.le_of_ble_eq_true rfl), (Nat.le_of_ble_eq_true rfl)⟩ (mm_Re_takeSend X r hr (X 56 k) (X 52 k) hV hN hu hm (by omega)) (nw_kv ?_)
    refine cw_goto (tgt := 80) C dd_Re_take_62 (by decide) ?_
    refine cw_aload_n C dd_Re_take_80 rfl ?_
    refine cw_callV (As := []) C kV_Re_101 wc_16 (is_16 hr) dd_Re_take_81 rfl rfl (Nat.le_of_ble_eq_true rfl) ⟨(Nat.le_of_ble_eq_true rfl), (Nat.le_of_ble_eq_true rfl)⟩ ⟨(Nat.le_of_ble_eq_true rfl), (Nat.le_of_ble_eq_true rfl)⟩ (mm_Re_act _ r hr I hI hstep (by rw [e9] at hX; exact hX)) (nw_kv ?_)
    exact cw_vreturn C dd_Re_take_84 (Nat.le_of_ble_eq_true rfl) (Nat.le_of_ble_eq_true rfl) ⟨_, rfl, rfl, ⟨rfl, by rw [zc_take, e9]⟩⟩
  · have e9 : zc_tk X r k = zc_tkE X r (X 56 k) (X 52 k) := by rw [zc_tk, if_neg (by omega), if_pos hk]
    refine cw_lookup (off := 36) (tgt := 65) C dd_Re_take_29 (by decide) (by rw [hk]; decide +kernel) (by decide) ?_
    refine cw_aload_n C dd_Re_take_65 rfl ?_
    refine cw_iload_n C dd_Re_take_66 rfl ?_
    refine cw_iload_n C dd_Re_take_67 rfl ?_
    refine cw_callV (As := [_, _]) C kV_Re_120 wc_16 (is_16 hr) dd_Re_take_68 rfl rfl (Nat.le_of_ble_eq_true rfl) ⟨(Nat.le_of_ble_eq_true rfl), (Nat.le_of_ble_eq_true rfl)⟩ ⟨(Nat.le_of_ble_eq_true rfl), (Nat.le_of_ble_eq_true rfl)⟩ (mm_Re_takeEcho X r hr (X 56 k) (X 52 k) hV hN hu hq hm) (nw_kv ?_)
    refine cw_goto (tgt := 80) C dd_Re_take_71 (by decide) ?_
    refine cw_aload_n C dd_Re_take_80 rfl ?_
    refine cw_callV (As := []) C kV_Re_101 wc_16 (is_16 hr) dd_Re_take_81 rfl rfl (Nat.le_of_ble_eq_true rfl) ⟨(Nat.le_of_ble_eq_true rfl), (Nat.le_of_ble_eq_true rfl)⟩ ⟨(Nat.le_of_ble_eq_true rfl), (Nat.le_of_ble_eq_true rfl)⟩ (mm_Re_act _ r hr I hI hstep (by rw [e9] at hX; exact hX)) (nw_kv ?_)
    exact cw_vreturn C dd_Re_take_84 (Nat.le_of_ble_eq_true rfl) (Nat.le_of_ble_eq_true rfl) ⟨_, rfl, rfl, ⟨rfl, by rw [zc_take, e9]⟩⟩
  · have e9 : zc_tk X r k = zc_tkR X r (X 56 k) (X 52 k) := by rw [zc_tk, if_neg (by omega), if_neg (by omega)]
    refine cw_lookup (off := 45) (tgt := 74) C dd_Re_take_29 (by decide) (by rw [hk]; decide +kernel) (by decide) ?_
    refine cw_aload_n C dd_Re_take_74 rfl ?_
    refine cw_iload_n C dd_Re_take_75 rfl ?_
    refine cw_iload_n C dd_Re_take_76 rfl ?_
    refine cw_callV (As := [_, _]) C kV_Re_123 wc_16 (is_16 hr) dd_Re_take_77 rfl rfl (Nat.le_of_ble_eq_true rfl) ⟨(Nat.le_of_ble_eq_true rfl), (Nat.le_of_ble_eq_true rfl)⟩ ⟨(Nat.le_of_ble_eq_true rfl), (Nat.le_of_ble_eq_true rfl)⟩ (mm_Re_takeReady X r hr (X 56 k) (X 52 k) hV hN hu hq hm hw) (nw_kv ?_)
    refine cw_aload_n C dd_Re_take_80 rfl ?_
    refine cw_callV (As := []) C kV_Re_101 wc_16 (is_16 hr) dd_Re_take_81 rfl rfl (Nat.le_of_ble_eq_true rfl) ⟨(Nat.le_of_ble_eq_true rfl), (Nat.le_of_ble_eq_true rfl)⟩ ⟨(Nat.le_of_ble_eq_true rfl), (Nat.le_of_ble_eq_true rfl)⟩ (mm_Re_act _ r hr I hI hstep (by rw [e9] at hX; exact hX)) (nw_kv ?_)
    exact cw_vreturn C dd_Re_take_84 (Nat.le_of_ble_eq_true rfl) (Nat.le_of_ble_eq_true rfl) ⟨_, rfl, rfl, ⟨rfl, by rw [zc_take, e9]⟩⟩
