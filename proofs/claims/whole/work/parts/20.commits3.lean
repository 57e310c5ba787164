theorem zc_e2_oth (Y : wx_S) (r : Nat) {c : Nat} (k : Nat) (h1 : c ≠ 112 + r) (h2 : c ≠ 116 + r) (h3 : c ≠ 120 + r) (h4 : c ≠ 128 + r) : ∀ i, zc_e2 Y r i c k = Y c k
  | 0 => rfl
  | i + 1 => by rw [zc_e2, wx_u_nc h4, zc_emF_oth _ _ _ _ _ h1 h2 h3, zc_e2_oth Y r k h1 h2 h3 h4 i]
theorem zc_emit_oth (X : wx_S) (r a w : Nat) {c : Nat} (k : Nat) (h1 : c ≠ 112 + r) (h2 : c ≠ 116 + r) (h3 : c ≠ 120 + r) (h4 : c ≠ 128 + r) (h5 : c ≠ 132 + r) : zc_emit X r a w c k = X c k := by
  rw [zc_emit, zc_e2_oth _ _ _ h1 h2 h3 h4, zc_dn_oth _ _ _ _ _ h5]
theorem zc_emit_ok {X : wx_S} {r a w : Nat} (hr : r < 4) (h : zc_ok X r) (hw : w ≤ 14) : zc_ok (zc_emit X r a w) r := zc_e2_ok hr (zc_dn_ok hr h _) w (by omega)
theorem zc_nrF_spec (X : wx_S) (r : Nat) : ∀ n w, zc_nrF X r w n = 4294967295 ∨ ∃ k, zc_nrF X r w n = w + 2 * k ∧ w + 2 * k ≤ 14 ∧ zc_nrC X r (w + 2 * k)
  | 0, w => Or.inl rfl
  | n + 1, w => by
    rw [zc_nrF]
    by_cases h1 : 14 < w
    · rw [if_pos h1]; exact Or.inl rfl
    · rw [if_neg h1]
      by_cases h2 : zc_nrC X r w
      · rw [if_pos h2]; exact Or.inr ⟨0, rfl, by omega, h2⟩
      · rw [if_neg h2]
        rcases zc_nrF_spec X r n (w + 2) with h | ⟨k, h3, h4, h5⟩
        · exact Or.inl h
        · exact Or.inr ⟨k + 1, by rw [h3]; omega, by omega, by rw [show w + 2 * (k + 1) = w + 2 + 2 * k by omega]; exact h5⟩
/-- the emissions of a commit: i of the rounds l + 2, l + 4 .. -/
def zc_cm (X : wx_S) (r ch l : Nat) : Nat → wx_S
  | 0 => X
  | i + 1 => if ch / 2 ^ (l + 2 + 2 * i) % 2 = 1 then zc_emit (zc_cm X r ch l i) r ((l + 2 + 2 * i) / 2 % 4) (l + 2 + 2 * i) else zc_cm X r ch l i
theorem zc_cm_ok {X : wx_S} {r ch l : Nat} (hr : r < 4) (h : zc_ok X r) : ∀ i, l + 2 * i ≤ 14 → zc_ok (zc_cm X r ch l i) r
  | 0, _ => h
  | i + 1, hi => by
    simp only [zc_cm]
    split
    · exact zc_emit_ok hr (zc_cm_ok hr h i (by omega)) (by omega)
    · exact zc_cm_ok hr h i (by omega)
theorem zc_cm_oth (X : wx_S) (r ch l : Nat) {c : Nat} (k : Nat) (h1 : c ≠ 112 + r) (h2 : c ≠ 116 + r) (h3 : c ≠ 120 + r) (h4 : c ≠ 128 + r) (h5 : c ≠ 132 + r) : ∀ i, zc_cm X r ch l i c k = X c k
  | 0 => rfl
  | i + 1 => by
    simp only [zc_cm]
    split
    · rw [zc_emit_oth _ _ _ _ _ h1 h2 h3 h4 h5, zc_cm_oth X r ch l k h1 h2 h3 h4 h5 i]
    · exact zc_cm_oth X r ch l k h1 h2 h3 h4 h5 i
def zc_ch (X : wx_S) (r w : Nat) : Nat := (zc_lu X r w (w - 1 - X (124 + r) 5)).1
def zc_commit (X : wx_S) (r w : Nat) : wx_S := wx_u (zc_cm X r (zc_ch X r w) (X (124 + r) 5) ((w - X (124 + r) 5) / 2)) (124 + r) 5 w
set_option maxRecDepth 100000 in
set_option maxHeartbeats 4000000 in
theorem lp_Co_commitNext {p : Program} {l : Launch} {e : Env} {s : State} {m : MethodId} {args : Array Value} {below : List Frame} {meth : Method} {c : Code} {A : Nat → Prop} {g : wd_G} {G : State → Prop} (X : wx_S) (r : Nat) (hr : r < 4) (ch L w : Nat) (hL : L + 2 ≤ w) (he : (w - L) % 2 = 0) (hw : w ≤ 14) (hch : ch < 2 ^ 15) (hok : zc_ok X r) (C : cw_C p s m args meth c A wd_all g cc_Co_commitNext 4 "DagLedger$Commits" (some .boolean))  (hend : cw_W p l e (cw_rm 5 0 0) s m args below meth c A wd_all g 0 0 G 4 53 [some (.ref (124 + r)), some (.int (nI w)), some (.int (nI ch)), some (.int (nI (L + 2 + 2 * (((w - L) / 2)))))] [] (wx_e (zc_cm X r ch L (((w - L) / 2)))) (wx_l (zc_cm X r ch L (((w - L) / 2))))) : ∀ (j i : Nat), i + j = ((w - L) / 2) → cw_W p l e (cw_rm 5 0 0) s m args below meth c A wd_all g 0 0 G 4 25 [some (.ref (124 + r)), some (.int (nI w)), some (.int (nI ch)), some (.int (nI (L + 2 + 2 * (i))))] [] (wx_e (zc_cm X r ch L (i))) (wx_l (zc_cm X r ch L (i))) := by
  intro j
  induction j with
  | zero =>
    intro i hij
    refine cw_iload_n C dd_Co_commitNext_25 rfl ?_
    refine cw_iload_n C dd_Co_commitNext_26 rfl ?_
    refine nw_icmp_gt (tgt := 53) C dd_Co_commitNext_27 (by decide) (by first | omega | (simp [wx_u] <;> omega)) (by first | omega | (simp [wx_u] <;> omega)) (fun h27 => ?_) (fun h27 => ?_)
    · have hi : i = ((w - L) / 2) := by omega
      rw [hi]
      exact hend
    · exact absurd h27 (by omega)
  | succ j ih =>
    intro i hij
    have hk := zc_cm_ok (ch := ch) (l := L) hr hok i (by omega)
    refine cw_iload_n C dd_Co_commitNext_25 rfl ?_
    refine cw_iload_n C dd_Co_commitNext_26 rfl ?_
    refine nw_icmp_gt (tgt := 53) C dd_Co_commitNext_27 (by decide) (by first | omega | (simp [wx_u] <;> omega)) (by first | omega | (simp [wx_u] <;> omega)) (fun h27 => ?_) (fun h27 => ?_)
    · exact absurd h27 (by omega)
    · refine cw_iload_n C dd_Co_commitNext_30 rfl ?_
      refine cw_iload_n C dd_Co_commitNext_31 rfl ?_
      refine cw_callSN (As := [_, _]) C kS_Co_42 dd_Co_commitNext_32 rfl rfl (Nat.le_of_ble_eq_true rfl) ⟨(Nat.le_of_ble_eq_true rfl), (Nat.le_of_ble_eq_true rfl)⟩ ⟨(Nat.le_of_ble_eq_true rfl), (Nat.le_of_ble_eq_true rfl)⟩ (mm_Le_contains _ ch _ (by omega) (by omega)) (nw_ki ?_)
      refine nw_zeq (tgt := 47) C dd_Co_commitNext_35 (by decide) (fun h35 => ?_) (fun h35 => ?_)
      · refine nw_iinc (b := 2) C dd_Co_commitNext_47 (by decide +kernel) rfl (Nat.le_of_ble_eq_true rfl) ?_
        refine cw_goto (tgt := 25) C dd_Co_commitNext_50 (by decide) ?_
        have e2 : L + 2 + 2 * i + 2 = L + 2 + 2 * (i + 1) := by omega
        rw [e2]
        exact nw_eqX (if_neg h35 : zc_cm X r ch L (i + 1) = _).symm (ih (i + 1) (by omega))
      · refine cw_aload_n C dd_Co_commitNext_38 rfl ?_
        refine cw_iload_n C dd_Co_commitNext_39 rfl ?_
        refine cw_callSN (As := [_]) C kS_Co_46 dd_Co_commitNext_40 rfl rfl (Nat.le_of_ble_eq_true rfl) ⟨(Nat.le_of_ble_eq_true rfl), (Nat.le_of_ble_eq_true rfl)⟩ ⟨(Nat.le_of_ble_eq_true rfl), (Nat.le_of_ble_eq_true rfl)⟩ (mm_Le_leaderOf _ _ (by omega)) (nw_ki ?_)
        refine cw_iload_n C dd_Co_commitNext_43 rfl ?_
        refine cw_callV (As := [_, _]) C kV_Co_49 wc_31 (is_31 hr) dd_Co_commitNext_44 rfl rfl (Nat.le_of_ble_eq_true rfl) ⟨(Nat.le_of_ble_eq_true rfl), (Nat.le_of_ble_eq_true rfl)⟩ ⟨(Nat.le_of_ble_eq_true rfl), (Nat.le_of_ble_eq_true rfl)⟩ (mm_Co_emit _ r hr _ _ (by omega) (by omega) (by omega) hk) (nw_kv ?_)
        refine nw_iinc (b := 2) C dd_Co_commitNext_47 (by decide +kernel) rfl (Nat.le_of_ble_eq_true rfl) ?_
        refine cw_goto (tgt := 25) C dd_Co_commitNext_50 (by decide) ?_
        have e2 : L + 2 + 2 * i + 2 = L + 2 + 2 * (i + 1) := by omega
        rw [e2]
        exact nw_eqX (if_pos h35 : zc_cm X r ch L (i + 1) = _).symm (ih (i + 1) (by omega))
set_option maxRecDepth 100000 in
set_option maxHeartbeats 4000000 in
theorem mm_Co_commitNext (X : wx_S) (r : Nat) (hr : r < 4) (hok : zc_ok X r) (hp : ∀ i, i < 90 → X 32 i < 2147483648) (hl : X (124 + r) 5 ≤ 14) : nw_M wd_all yy_Co_commitNext cc_Co_commitNext 4 (some .boolean) 5 0 0 [.ref (124 + r)] X (fun v X' => v = some (.int (nI (zb_n (zc_nr X r ≠ 4294967295)))) ∧ X' = if zc_nr X r = 4294967295 then X else zc_commit X r (zc_nr X r)) := by
  refine nw_of [some (.ref (124 + r)), none, none, none] (by decide +kernel) rfl (Nat.le_of_ble_eq_true rfl) rfl ?_
  intro p l e s m args below meth c A g C
  have hs := zc_nrF_spec X r 8 (X (124 + r) 5 + 2)
  change zc_nr X r = 4294967295 ∨ ∃ k, zc_nr X r = X (124 + r) 5 + 2 + 2 * k ∧ X (124 + r) 5 + 2 + 2 * k ≤ 14 ∧ _ at hs
  refine cw_aload_n C dd_Co_commitNext_0 rfl ?_
  refine cw_callV (As := []) C kV_Co_30 wc_31 (is_31 hr) dd_Co_commitNext_1 rfl rfl (Nat.le_of_ble_eq_true rfl) ⟨(Nat.le_of_ble_eq_true rfl), (Nat.le_of_ble_eq_true rfl)⟩ ⟨(Nat.le_of_ble_eq_true rfl), (Nat.le_of_ble_eq_true rfl)⟩ (mm_Co_nextRound X r hr hok hp hl) (nw_ki ?_)
  refine cw_istore_n C dd_Co_commitNext_4 (Nat.le_of_ble_eq_true rfl) ?_
  refine cw_iload_n C dd_Co_commitNext_5 rfl ?_
  refine cw_iconst (v := nI 4294967295) C dd_Co_commitNext_6 (by decide +kernel) ?_
  refine nw_icmp_ne (tgt := 12) C dd_Co_commitNext_7 (by decide) (by rcases hs with h | ⟨k, h1, h2, _⟩ <;> omega) (by first | omega | (simp [wx_u] <;> omega)) (fun h7 => ?_) (fun h7 => ?_)
  · obtain ⟨k0, q1, q2, -⟩ := hs.resolve_left h7
    refine cw_aload_n C dd_Co_commitNext_12 rfl ?_
    refine cw_iload_n C dd_Co_commitNext_13 rfl ?_
    refine cw_callV (As := [_]) C kV_Co_34 wc_31 (is_31 hr) dd_Co_commitNext_14 rfl rfl (Nat.le_of_ble_eq_true rfl) ⟨(Nat.le_of_ble_eq_true rfl), (Nat.le_of_ble_eq_true rfl)⟩ ⟨(Nat.le_of_ble_eq_true rfl), (Nat.le_of_ble_eq_true rfl)⟩ (mm_Co_leadersUnder X r hr (zc_nr X r) (by omega) (by omega) (by omega) hok) (nw_ki ?_)
    refine cw_istore_n C dd_Co_commitNext_17 (Nat.le_of_ble_eq_true rfl) ?_
    refine cw_aload_n C dd_Co_commitNext_18 rfl ?_
    refine nw_geti C wc_31 kF_Co_38 (is_31 hr) (by decide) rfl dd_Co_commitNext_19 ?_
    refine cw_iconst (v := nI 2) C dd_Co_commitNext_22 (by decide +kernel) ?_
    refine nw_iadd C dd_Co_commitNext_23 ?_
    refine cw_istore_n C dd_Co_commitNext_24 (Nat.le_of_ble_eq_true rfl) ?_
    refine lp_Co_commitNext X r hr (zc_ch X r (zc_nr X r)) (X (124 + r) 5) (zc_nr X r) (by omega) (by omega) (by omega) (zc_lu1_lt (by omega) _) hok C ?_ ((zc_nr X r - X (124 + r) 5) / 2) 0 (by omega)
    refine cw_aload_n C dd_Co_commitNext_53 rfl ?_
    refine cw_iload_n C dd_Co_commitNext_54 rfl ?_
    refine nw_puti C wc_31 kF_Co_38 (is_31 hr) (by decide) rfl rfl rfl rfl dd_Co_commitNext_55 ?_
    refine cw_iconst (v := nI 1) C dd_Co_commitNext_58 (by decide +kernel) ?_
    exact cw_zreturn C dd_Co_commitNext_59 (nw_zn (by decide)) (Nat.le_of_ble_eq_true rfl) (Nat.le_of_ble_eq_true rfl) ⟨_, rfl, rfl, ⟨congrArg (fun z => some (Value.int z)) (zb_t h7), (if_neg h7).symm⟩⟩
  · refine cw_iconst (v := nI 0) C dd_Co_commitNext_10 (by decide +kernel) ?_
    exact cw_zreturn C dd_Co_commitNext_11 (nw_zn (by decide)) (Nat.le_of_ble_eq_true rfl) (Nat.le_of_ble_eq_true rfl) ⟨_, rfl, rfl, ⟨congrArg (fun z => some (Value.int z)) (zb_f (fun q => q h7)), (if_pos h7).symm⟩⟩
