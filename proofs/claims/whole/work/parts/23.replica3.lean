theorem zc_V_ext {X Y : wx_S} (e : ∀ c k, c < 44 → Y c k = X c k) (h : zc_V X) : zc_V Y := by
  unfold zc_V at *
  simp only [e 20 _ (by omega), e 4 _ (by omega), e 24 _ (by omega), e 28 _ (by omega), e 32 _ (by omega), e 36 _ (by omega), e 40 _ (by omega), e 8 _ (by omega), e 12 _ (by omega), e 16 _ (by omega)]
  exact h
def zc_nE (X : wx_S) (r u q : Nat) : wx_S := wx_u X (88 + r) u (X (88 + r) u ||| 2 ^ q)
def zc_nR (X : wx_S) (r u q : Nat) : wx_S := if zn_ones (X (92 + r) u) < 3 ∧ 3 ≤ zn_ones (X (92 + r) u ||| 2 ^ q) then wx_u (wx_u (wx_u X (92 + r) u (X (92 + r) u ||| 2 ^ q)) (96 + r) (X (84 + r) 3) u) (84 + r) 3 (X (84 + r) 3 + 1) else wx_u X (92 + r) u (X (92 + r) u ||| 2 ^ q)
theorem zc_nE_oth (X : wx_S) (r u q : Nat) {c : Nat} (k : Nat) (h : c ≠ 88 + r) : zc_nE X r u q c k = X c k := wx_u_nc h
theorem zc_nR_oth (X : wx_S) (r u q : Nat) {c : Nat} (k : Nat) (h1 : c ≠ 92 + r) (h2 : c ≠ 96 + r) (h3 : c ≠ 84 + r) : zc_nR X r u q c k = X c k := by
  unfold zc_nR
  split
  · rw [wx_u_nc h3, wx_u_nc h2, wx_u_nc h1]
  · rw [wx_u_nc h1]
theorem zc_nE_N {X : wx_S} {r u q : Nat} (hr : r < 4) (hu : u < 90) (hq : q < 4) (h : zc_N X r) : zc_N (zc_nE X r u q) r := by
  obtain ⟨h1, h2, h3, h4, h5⟩ := h
  refine ⟨?_, ?_, ?_, fun a ha => ?_, fun v hv => ?_⟩
  · rw [zc_nE_oth _ _ _ _ _ (by omega)]; exact h1
  · rw [zc_nE_oth _ _ _ _ _ (by omega)]; exact h2
  · rw [zc_nE_oth _ _ _ _ _ (by omega)]; exact h3
  · rw [zc_nE_oth _ _ _ _ _ (by omega), zc_nE_oth _ _ _ _ _ (by omega)]; exact h4 a ha
  · rw [zc_nE_oth (c := 92 + r) _ _ _ _ _ (by omega)]
    refine ⟨?_, (h5 v hv).2⟩
    by_cases e : v = u
    · subst e; rw [zc_nE, wx_u_eq]; exact zn_or16 (h5 v hv).1 (zn_pow4 hq)
    · rw [zc_nE, wx_u_nk e]; exact (h5 v hv).1
theorem zc_nR_rd (X : wx_S) (r u q v : Nat) (hr : r < 4) : zc_nR X r u q (92 + r) v = if v = u then X (92 + r) u ||| 2 ^ q else X (92 + r) v := by
  have e : ∀ Z : wx_S, (∀ k, Z (92 + r) k = wx_u X (92 + r) u (X (92 + r) u ||| 2 ^ q) (92 + r) k) → Z (92 + r) v = if v = u then X (92 + r) u ||| 2 ^ q else X (92 + r) v := by
    intro Z hZ
    rw [hZ]
    by_cases h : v = u
    · subst h; rw [wx_u_eq, if_pos rfl]
    · rw [wx_u_nk h, if_neg h]
  unfold zc_nR
  split
  · exact e _ (fun k => by rw [wx_u_nc (by omega), wx_u_nc (by omega)])
  · exact e _ (fun k => rfl)
theorem zc_nR_N {X : wx_S} {r u q : Nat} (hr : r < 4) (hu : u < 90) (hq : q < 4) (h : zc_N X r) : zc_N (zc_nR X r u q) r := by
  obtain ⟨h1, h2, h3, h4, h5⟩ := h
  refine ⟨?_, ?_, ?_, fun a ha => ?_, fun v hv => ?_⟩
  · rw [zc_nR_oth _ _ _ _ _ (by omega) (by omega) (by omega)]; exact h1
  · rw [zc_nR_oth _ _ _ _ _ (by omega) (by omega) (by omega)]; exact h2
  · rw [zc_nR_oth _ _ _ _ _ (by omega) (by omega) (by omega)]; exact h3
  · rw [zc_nR_oth _ _ _ _ _ (by omega) (by omega) (by omega), zc_nR_oth _ _ _ _ _ (by omega) (by omega) (by omega)]; exact h4 a ha
  · rw [zc_nR_oth (c := 88 + r) _ _ _ _ _ (by omega) (by omega) (by omega), zc_nR_rd _ _ _ _ _ hr]
    refine ⟨(h5 v hv).1, ?_⟩
    split
    · rename_i e; subst e; exact zn_or16 (h5 v hv).2 (zn_pow4 hq)
    · exact (h5 v hv).2
def zc_tkE (X : wx_S) (r u q : Nat) : wx_S := if zn_ones (X (88 + r) u ||| 2 ^ q) < 3 then zc_nE X r u q else zc_bec (zc_nE X r u q) r u
def zc_tkR (X : wx_S) (r u q : Nat) : wx_S := if zn_ones (X (92 + r) u ||| 2 ^ q) < 2 then zc_nR X r u q else zc_bec (zc_nR X r u q) r u
set_option maxRecDepth 100000 in
set_option maxHeartbeats 4000000 in
theorem mm_Re_takeEcho (X : wx_S) (r : Nat) (hr : r < 4) (u q : Nat) (hV : zc_V X) (hN : zc_N X r) (hu : u < X 20 5) (hq : q < 4) (hm : X 44 3 < 802) : nw_M wd_all yy_Re_takeEcho cc_Re_takeEcho 3 none 6 0 0 [.ref (64 + r), .int (nI u), .int (nI q)] X (fun v X' => v = none ∧ X' = zc_tkE X r u q) := by
  refine nw_of [some (.ref (64 + r)), some (.int (nI u)), some (.int (nI q))] (by decide +kernel) rfl (Nat.le_of_ble_eq_true rfl) rfl ?_
  intro p l e s m args below meth c A g C
  have g2 := hV.1
  have g3 := hN.2.2.2.2 u (by omega)
  refine cw_aload_n C dd_Re_takeEcho_0 rfl ?_
  refine cw_gets (b := 64) (b' := 84) C hr rfl wc_16 kF_Re_21 (is_16 hr) (by decide) rfl dd_Re_takeEcho_1 rfl ?_
  refine cw_iload_n C dd_Re_takeEcho_4 rfl ?_
  refine cw_iload_n C dd_Re_takeEcho_5 rfl ?_
  refine cw_callV (As := [_, _]) C kV_Re_153 wc_21 (is_21 hr) dd_Re_takeEcho_6 rfl rfl (Nat.le_of_ble_eq_true rfl) ⟨(Nat.le_of_ble_eq_true rfl), (Nat.le_of_ble_eq_true rfl)⟩ ⟨(Nat.le_of_ble_eq_true rfl), (Nat.le_of_ble_eq_true rfl)⟩ (mm_No_noteEcho X r hr u q (by omega) hq g3.1) (nw_ki ?_)
  refine cw_iconst (v := nI 3) C dd_Re_takeEcho_9 (by decide +kernel) ?_
  refine nw_icmp_lt (tgt := 18) C dd_Re_takeEcho_10 (by decide) (by have := zn_ones_le (X (88 + r) u ||| 2 ^ q); omega) (by first | omega | (simp [wx_u] <;> omega)) (fun h10 => ?_) (fun h10 => ?_)
  · exact cw_vreturn C dd_Re_takeEcho_18 (Nat.le_of_ble_eq_true rfl) (Nat.le_of_ble_eq_true rfl) ⟨_, rfl, rfl, ⟨rfl, by first | exact (if_pos h10).symm | exact (if_neg (by omega)).symm⟩⟩
  · refine cw_aload_n C dd_Re_takeEcho_13 rfl ?_
    refine cw_iload_n C dd_Re_takeEcho_14 rfl ?_
    refine cw_callV (As := [_]) C kV_Re_156 wc_16 (is_16 hr) dd_Re_takeEcho_15 rfl rfl (Nat.le_of_ble_eq_true rfl) ⟨(Nat.le_of_ble_eq_true rfl), (Nat.le_of_ble_eq_true rfl)⟩ ⟨(Nat.le_of_ble_eq_true rfl), (Nat.le_of_ble_eq_true rfl)⟩ (mm_Re_becomeReady (zc_nE X r u q) r hr u (zc_V_ext (fun c k hc => zc_nE_oth _ _ _ _ _ (by omega)) hV) (zc_nE_N hr (by omega) hq hN) (by rw [zc_nE_oth _ _ _ _ _ (by omega)]; exact hu) (by rw [zc_nE_oth _ _ _ _ _ (by omega)]; exact hm)) (nw_kv ?_)
    exact cw_vreturn C dd_Re_takeEcho_18 (Nat.le_of_ble_eq_true rfl) (Nat.le_of_ble_eq_true rfl) ⟨_, rfl, rfl, ⟨rfl, by first | exact (if_pos h10).symm | exact (if_neg (by omega)).symm⟩⟩
set_option maxRecDepth 100000 in
set_option maxHeartbeats 4000000 in
theorem mm_Re_takeReady (X : wx_S) (r : Nat) (hr : r < 4) (u q : Nat) (hV : zc_V X) (hN : zc_N X r) (hu : u < X 20 5) (hq : q < 4) (hm : X 44 3 < 802) (hw : X (84 + r) 3 < 90) : nw_M wd_all yy_Re_takeReady cc_Re_takeReady 3 none 6 0 0 [.ref (64 + r), .int (nI u), .int (nI q)] X (fun v X' => v = none ∧ X' = zc_tkR X r u q) := by
  refine nw_of [some (.ref (64 + r)), some (.int (nI u)), some (.int (nI q))] (by decide +kernel) rfl (Nat.le_of_ble_eq_true rfl) rfl ?_
  intro p l e s m args below meth c A g C
  have g2 := hV.1
  have g3 := hN.2.2.2.2 u (by omega)
  refine cw_aload_n C dd_Re_takeReady_0 rfl ?_
  refine cw_gets (b := 64) (b' := 84) C hr rfl wc_16 kF_Re_21 (is_16 hr) (by decide) rfl dd_Re_takeReady_1 rfl ?_
  refine cw_iload_n C dd_Re_takeReady_4 rfl ?_
  refine cw_iload_n C dd_Re_takeReady_5 rfl ?_
  refine cw_callV (As := [_, _]) C kV_Re_160 wc_21 (is_21 hr) dd_Re_takeReady_6 rfl rfl (Nat.le_of_ble_eq_true rfl) ⟨(Nat.le_of_ble_eq_true rfl), (Nat.le_of_ble_eq_true rfl)⟩ ⟨(Nat.le_of_ble_eq_true rfl), (Nat.le_of_ble_eq_true rfl)⟩ (mm_No_noteReady X r hr u q (by omega) hq g3.2 hw) (nw_ki ?_)
  refine cw_iconst (v := nI 2) C dd_Re_takeReady_9 (by decide +kernel) ?_
  refine nw_icmp_lt (tgt := 18) C dd_Re_takeReady_10 (by decide) (by have := zn_ones_le (X (92 + r) u ||| 2 ^ q); omega) (by first | omega | (simp [wx_u] <;> omega)) (fun h10 => ?_) (fun h10 => ?_)
  · exact cw_vreturn C dd_Re_takeReady_18 (Nat.le_of_ble_eq_true rfl) (Nat.le_of_ble_eq_true rfl) ⟨_, rfl, rfl, ⟨rfl, by first | exact (if_pos h10).symm | exact (if_neg (by omega)).symm⟩⟩
  · refine cw_aload_n C dd_Re_takeReady_13 rfl ?_
    refine cw_iload_n C dd_Re_takeReady_14 rfl ?_
    refine cw_callV (As := [_]) C kV_Re_156 wc_16 (is_16 hr) dd_Re_takeReady_15 rfl rfl (Nat.le_of_ble_eq_true rfl) ⟨(Nat.le_of_ble_eq_true rfl), (Nat.le_of_ble_eq_true rfl)⟩ ⟨(Nat.le_of_ble_eq_true rfl), (Nat.le_of_ble_eq_true rfl)⟩ (mm_Re_becomeReady (zc_nR X r u q) r hr u (zc_V_ext (fun c k hc => zc_nR_oth _ _ _ _ _ (by omega) (by omega) (by omega)) hV) (zc_nR_N hr (by omega) hq hN) (by rw [zc_nR_oth _ _ _ _ _ (by omega) (by omega) (by omega)]; exact hu) (by rw [zc_nR_oth _ _ _ _ _ (by omega) (by omega) (by omega)]; exact hm)) (nw_kv ?_)
    exact cw_vreturn C dd_Re_takeReady_18 (Nat.le_of_ble_eq_true rfl) (Nat.le_of_ble_eq_true rfl) ⟨_, rfl, rfl, ⟨rfl, by first | exact (if_pos h10).symm | exact (if_neg (by omega)).symm⟩⟩
abbrev zc_key (X : wx_S) (u : Nat) : Nat := 4 * X 28 u + X 24 u
def zc_nx (X : wx_S) (r : Nat) : Nat → Nat
  | 0 => 4294967295
  | i + 1 => if zc_can X r (X (96 + r) i) ∧ (zc_nx X r i = 4294967295 ∨ zc_key X (X (96 + r) i) < zc_key X (X (96 + r) (zc_nx X r i))) then i else zc_nx X r i
theorem zc_nx_lt (X : wx_S) (r : Nat) : ∀ i, zc_nx X r i < i ∨ zc_nx X r i = 4294967295
  | 0 => Or.inr rfl
  | i + 1 => by
    have := zc_nx_lt X r i
    simp only [zc_nx]
    split <;> omega
def zc_insert (X : wx_S) (r u : Nat) : wx_S := wx_u (wx_u (wx_u X (104 + r) (X 28 u * 4 + X 24 u) u) (108 + r) (X 28 u) (X (108 + r) (X 28 u) ||| 2 ^ X 24 u)) (100 + r) 3 (X (100 + r) 3 + 1)
theorem zc_insert_oth (X : wx_S) (r u : Nat) {c : Nat} (k : Nat) (h1 : c ≠ 104 + r) (h2 : c ≠ 108 + r) (h3 : c ≠ 100 + r) : zc_insert X r u c k = X c k := by
  rw [zc_insert, wx_u_nc h3, wx_u_nc h2, wx_u_nc h1]
def zc_ins (X : wx_S) (r i : Nat) : wx_S := wx_u (wx_u (zc_insert X r (X (96 + r) i)) (84 + r) 3 (X (84 + r) 3 - 1)) (96 + r) i (X (96 + r) (X (84 + r) 3 - 1))
set_option maxRecDepth 100000 in
set_option maxHeartbeats 4000000 in
theorem lp_Re_insertNext {p : Program} {l : Launch} {e : Env} {s : State} {m : MethodId} {args : Array Value} {below : List Frame} {meth : Method} {c : Code} {A : Nat → Prop} {g : wd_G} {G : State → Prop} (X : wx_S) (r : Nat) (hr : r < 4) (hok : zc_ok X r) (hw : X (84 + r) 3 ≤ 90) (hwt : ∀ i, i < X (84 + r) 3 → X (96 + r) i < X 20 5) (C : cw_C p s m args meth c A wd_all g cc_Re_insertNext 4 "DagLedger$Replica" (some .boolean))  (hend : ∀ z : Option Value, cw_W p l e (cw_rm 4 0 0) s m args below meth c A wd_all g 0 0 G 4 69 [some (.ref (64 + r)), some (.int (nI (zc_nx X r ((X (84 + r) 3))))), some (.int (nI ((X (84 + r) 3)))), z] [] (wx_e X) (wx_l X)) : ∀ (j i : Nat) (z : Option Value), i + j = (X (84 + r) 3) → cw_W p l e (cw_rm 4 0 0) s m args below meth c A wd_all g 0 0 G 4 4 [some (.ref (64 + r)), some (.int (nI (zc_nx X r (i)))), some (.int (nI (i))), z] [] (wx_e X) (wx_l X) := by
  intro j
  induction j with
  | zero =>
    intro i z hij
    refine cw_iload_n C dd_Re_insertNext_4 rfl ?_
    refine cw_aload_n C dd_Re_insertNext_5 rfl ?_
    refine cw_gets (b := 64) (b' := 84) C hr rfl wc_16 kF_Re_21 (is_16 hr) (by decide) rfl dd_Re_insertNext_6 rfl ?_
    refine nw_geti C wc_21 kF_Re_178 (is_21 hr) (by decide) rfl dd_Re_insertNext_9 ?_
    refine nw_icmp_ge (tgt := 69) C dd_Re_insertNext_12 (by decide) (by first | omega | (simp [wx_u] <;> omega)) (by first | omega | (simp [wx_u] <;> omega)) (fun h12 => ?_) (fun h12 => ?_)
    · have hi : i = (X (84 + r) 3) := by omega
      rw [hi]
      exact hend z
    · exact absurd h12 (by omega)
  | succ j ih =>
    intro i z hij
    have g0 := hok.1.1
    have g1 := hwt i (by omega)
    have g2 := hok.1.2.2.1 _ g1
    have g3 := zc_nx_lt X r i
    refine cw_iload_n C dd_Re_insertNext_4 rfl ?_
    refine cw_aload_n C dd_Re_insertNext_5 rfl ?_
    refine cw_gets (b := 64) (b' := 84) C hr rfl wc_16 kF_Re_21 (is_16 hr) (by decide) rfl dd_Re_insertNext_6 rfl ?_
    refine nw_geti C wc_21 kF_Re_178 (is_21 hr) (by decide) rfl dd_Re_insertNext_9 ?_
    refine nw_icmp_ge (tgt := 69) C dd_Re_insertNext_12 (by decide) (by first | omega | (simp [wx_u] <;> omega)) (by first | omega | (simp [wx_u] <;> omega)) (fun h12 => ?_) (fun h12 => ?_)
    · exact absurd h12 (by omega)
    · refine cw_aload_n C dd_Re_insertNext_15 rfl ?_
      refine cw_gets (b := 64) (b' := 84) C hr rfl wc_16 kF_Re_21 (is_16 hr) (by decide) rfl dd_Re_insertNext_16 rfl ?_
      refine cw_gets (b := 84) (b' := 96) C hr rfl wc_21 kF_Re_181 (is_21 hr) (by decide) rfl dd_Re_insertNext_19 rfl ?_
      refine cw_iload_n C dd_Re_insertNext_22 rfl ?_
      refine nw_iald C (is_24 hr) (by first | omega | (simp [wx_u] <;> omega)) (by decide) dd_Re_insertNext_23 ?_
      refine cw_istore_n C dd_Re_insertNext_24 (Nat.le_of_ble_eq_true rfl) ?_
      refine cw_aload_n C dd_Re_insertNext_25 rfl ?_
      refine cw_gets (b := 64) (b' := 100) C hr rfl wc_16 kF_Re_45 (is_16 hr) (by decide) rfl dd_Re_insertNext_26 rfl ?_
      refine cw_iload_n C dd_Re_insertNext_29 rfl ?_
      refine cw_callV (As := [_]) C kV_Re_184 wc_25 (is_25 hr) dd_Re_insertNext_30 rfl rfl (Nat.le_of_ble_eq_true rfl) ⟨(Nat.le_of_ble_eq_true rfl), (Nat.le_of_ble_eq_true rfl)⟩ ⟨(Nat.le_of_ble_eq_true rfl), (Nat.le_of_ble_eq_true rfl)⟩ (mm_Dg_canTake X r hr (X (96 + r) i) (by omega) ⟨g2.2.1, g2.2.2.1⟩ g2.1 g2.2.2.2.1 (by have := hok.2.1.1 (X 28 (X (96 + r) i) * 4 + X 24 (X (96 + r) i)) (by omega); omega)) (nw_ki ?_)
      refine nw_zeq (tgt := 63) C dd_Re_insertNext_33 (by decide) (fun h33 => ?_) (fun h33 => ?_)
      · refine nw_iinc (b := 1) C dd_Re_insertNext_63 (by decide +kernel) rfl (Nat.le_of_ble_eq_true rfl) ?_
        refine cw_goto (tgt := 4) C dd_Re_insertNext_66 (by decide) ?_
        have k9 := ih (i + 1)
        rw [show zc_nx X r (i + 1) = zc_nx X r i from if_neg (fun z => h33 z.1)] at k9
        exact k9 _ (by omega)
      · refine cw_iload_n C dd_Re_insertNext_36 rfl ?_
        refine cw_iconst (v := nI 4294967295) C dd_Re_insertNext_37 (by decide +kernel) ?_
        refine nw_icmp_eq (tgt := 61) C dd_Re_insertNext_38 (by decide) (by first | omega | (simp [wx_u] <;> omega)) (by first | omega | (simp [wx_u] <;> omega)) (fun h38 => ?_) (fun h38 => ?_)
        · refine cw_iload_n C dd_Re_insertNext_61 rfl ?_
          refine cw_istore_n C dd_Re_insertNext_62 (Nat.le_of_ble_eq_true rfl) ?_
          refine nw_iinc (b := 1) C dd_Re_insertNext_63 (by decide +kernel) rfl (Nat.le_of_ble_eq_true rfl) ?_
          refine cw_goto (tgt := 4) C dd_Re_insertNext_66 (by decide) ?_
          have k9 := ih (i + 1)
          rw [show zc_nx X r (i + 1) = i from if_pos ⟨h33, Or.inl h38⟩] at k9
          exact k9 _ (by omega)
        · have g4 : zc_nx X r i < i := by omega
          have g5 := hwt (zc_nx X r i) (by omega)
          have g6 := hok.1.2.2.1 _ g5
          refine cw_aload_n C dd_Re_insertNext_41 rfl ?_
          refine cw_getr (q' := 20) C wc_16 kF_Re_36 (is_16 hr) (by decide) rfl dd_Re_insertNext_42 rfl ?_
          refine cw_iload_n C dd_Re_insertNext_45 rfl ?_
          refine cw_aload_n C dd_Re_insertNext_46 rfl ?_
          refine cw_gets (b := 64) (b' := 84) C hr rfl wc_16 kF_Re_21 (is_16 hr) (by decide) rfl dd_Re_insertNext_47 rfl ?_
          refine cw_gets (b := 84) (b' := 96) C hr rfl wc_21 kF_Re_181 (is_21 hr) (by decide) rfl dd_Re_insertNext_50 rfl ?_
          refine cw_iload_n C dd_Re_insertNext_53 rfl ?_
          refine nw_iald C (is_24 hr) (by first | omega | (simp [wx_u] <;> omega)) (by decide) dd_Re_insertNext_54 ?_
          refine cw_callV (As := [_, _]) C kV_Re_187 wc_5 is_5 dd_Re_insertNext_55 rfl rfl (Nat.le_of_ble_eq_true rfl) ⟨(Nat.le_of_ble_eq_true rfl), (Nat.le_of_ble_eq_true rfl)⟩ ⟨(Nat.le_of_ble_eq_true rfl), (Nat.le_of_ble_eq_true rfl)⟩ (mm_Ve_comesBefore X _ _ (by omega) (by omega) (by omega) (by omega) g2.1 g6.1) (nw_ki ?_)
          refine nw_zeq (tgt := 63) C dd_Re_insertNext_58 (by decide) (fun h58 => ?_) (fun h58 => ?_)
          · refine nw_iinc (b := 1) C dd_Re_insertNext_63 (by decide +kernel) rfl (Nat.le_of_ble_eq_true rfl) ?_
            refine cw_goto (tgt := 4) C dd_Re_insertNext_66 (by decide) ?_
            have k9 := ih (i + 1)
            rw [show zc_nx X r (i + 1) = zc_nx X r i from if_neg (fun z => z.2.elim h38 h58)] at k9
            exact k9 _ (by omega)
          · refine cw_iload_n C dd_Re_insertNext_61 rfl ?_
            refine cw_istore_n C dd_Re_insertNext_62 (Nat.le_of_ble_eq_true rfl) ?_
            refine nw_iinc (b := 1) C dd_Re_insertNext_63 (by decide +kernel) rfl (Nat.le_of_ble_eq_true rfl) ?_
            refine cw_goto (tgt := 4) C dd_Re_insertNext_66 (by decide) ?_
            have k9 := ih (i + 1)
            rw [show zc_nx X r (i + 1) = i from if_pos ⟨h33, Or.inr h58⟩] at k9
            exact k9 _ (by omega)
set_option maxRecDepth 100000 in
set_option maxHeartbeats 4000000 in
theorem mm_Re_insertNext (X : wx_S) (r : Nat) (hr : r < 4) (hok : zc_ok X r) (hw : X (84 + r) 3 ≤ 90) (hwt : ∀ i, i < X (84 + r) 3 → X (96 + r) i < X 20 5) : nw_M wd_all yy_Re_insertNext cc_Re_insertNext 4 (some .boolean) 4 0 0 [.ref (64 + r)] X (fun v X' => v = some (.int (nI (zb_n (zc_nx X r (X (84 + r) 3) ≠ 4294967295)))) ∧ X' = if zc_nx X r (X (84 + r) 3) = 4294967295 then X else zc_ins X r (zc_nx X r (X (84 + r) 3))) := by
  refine nw_of [some (.ref (64 + r)), none, none, none] (by decide +kernel) rfl (Nat.le_of_ble_eq_true rfl) rfl ?_
  intro p l e s m args below meth c A g C
  have g0 := hok.1.1
  have g3 := zc_nx_lt X r (X (84 + r) 3)
  refine cw_iconst (v := nI 4294967295) C dd_Re_insertNext_0 (by decide +kernel) ?_
  refine cw_istore_n C dd_Re_insertNext_1 (Nat.le_of_ble_eq_true rfl) ?_
  refine cw_iconst (v := nI 0) C dd_Re_insertNext_2 (by decide +kernel) ?_
  refine cw_istore_n C dd_Re_insertNext_3 (Nat.le_of_ble_eq_true rfl) ?_
  refine lp_Re_insertNext X r hr hok hw hwt C ?_ (X (84 + r) 3) 0 _ (by omega)
  intro z
  refine cw_iload_n C dd_Re_insertNext_69 rfl ?_
  refine cw_iconst (v := nI 4294967295) C dd_Re_insertNext_70 (by decide +kernel) ?_
  refine nw_icmp_ne (tgt := 76) C dd_Re_insertNext_71 (by decide) (by first | omega | (simp [wx_u] <;> omega)) (by first | omega | (simp [wx_u] <;> omega)) (fun h71 => ?_) (fun h71 => ?_)
  · have g4 := hwt (zc_nx X r (X (84 + r) 3)) (by omega)
    have g5 := hok.1.2.2.1 _ g4
    refine cw_aload_n C dd_Re_insertNext_76 rfl ?_
    refine cw_gets (b := 64) (b' := 100) C hr rfl wc_16 kF_Re_45 (is_16 hr) (by decide) rfl dd_Re_insertNext_77 rfl ?_
    refine cw_aload_n C dd_Re_insertNext_80 rfl ?_
    refine cw_gets (b := 64) (b' := 84) C hr rfl wc_16 kF_Re_21 (is_16 hr) (by decide) rfl dd_Re_insertNext_81 rfl ?_
    refine cw_gets (b := 84) (b' := 96) C hr rfl wc_21 kF_Re_181 (is_21 hr) (by decide) rfl dd_Re_insertNext_84 rfl ?_
    refine cw_iload_n C dd_Re_insertNext_87 rfl ?_
    refine nw_iald C (is_24 hr) (by first | omega | (simp [wx_u] <;> omega)) (by decide) dd_Re_insertNext_88 ?_
    refine cw_callV (As := [_]) C kV_Re_190 wc_25 (is_25 hr) dd_Re_insertNext_89 rfl rfl (Nat.le_of_ble_eq_true rfl) ⟨(Nat.le_of_ble_eq_true rfl), (Nat.le_of_ble_eq_true rfl)⟩ ⟨(Nat.le_of_ble_eq_true rfl), (Nat.le_of_ble_eq_true rfl)⟩ (mm_Dg_insert X r hr _ (by omega) ⟨g5.2.1, g5.2.2.1⟩ g5.1) (nw_kv ?_)
    refine cw_aload_n C dd_Re_insertNext_92 rfl ?_
    refine cw_gets (b := 64) (b' := 84) C hr rfl wc_16 kF_Re_21 (is_16 hr) (by decide) rfl dd_Re_insertNext_93 rfl ?_
    refine cw_iload_n C dd_Re_insertNext_96 rfl ?_
    refine cw_callV (As := [_]) C kV_Re_193 wc_21 (is_21 hr) dd_Re_insertNext_97 rfl rfl (Nat.le_of_ble_eq_true rfl) ⟨(Nat.le_of_ble_eq_true rfl), (Nat.le_of_ble_eq_true rfl)⟩ ⟨(Nat.le_of_ble_eq_true rfl), (Nat.le_of_ble_eq_true rfl)⟩ (mm_No_stopWaiting (zc_insert X r (X (96 + r) (zc_nx X r (X (84 + r) 3)))) r hr _ (by rw [zc_insert_oth _ _ _ _ (by omega) (by omega) (by omega)]; omega) (by rw [zc_insert_oth _ _ _ _ (by omega) (by omega) (by omega)]; omega)) (nw_kv ?_)
    refine cw_iconst (v := nI 1) C dd_Re_insertNext_100 (by decide +kernel) ?_
    exact cw_zreturn C dd_Re_insertNext_101 (nw_zn (by decide)) (Nat.le_of_ble_eq_true rfl) (Nat.le_of_ble_eq_true rfl) ⟨_, rfl, rfl, ⟨congrArg (fun z => some (Value.int z)) (zb_t h71), by rw [if_neg h71, zc_ins, zc_insert_oth _ _ _ _ (by omega) (by omega) (by omega), zc_insert_oth _ _ _ _ (by omega) (by omega) (by omega)]⟩⟩
  · refine cw_iconst (v := nI 0) C dd_Re_insertNext_74 (by decide +kernel) ?_
    exact cw_zreturn C dd_Re_insertNext_75 (nw_zn (by decide)) (Nat.le_of_ble_eq_true rfl) (Nat.le_of_ble_eq_true rfl) ⟨_, rfl, rfl, ⟨congrArg (fun z => some (Value.int z)) (zb_f (fun q => q h71)), (if_pos h71).symm⟩⟩
