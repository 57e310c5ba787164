/-- the locals behind the fourth may be forgotten -/
theorem cw_wk4 {p : Program} {l : Launch} {e : Env} {R : Room} {s : State} {m : MethodId} {args : Array Value} {below : List Frame} {meth : Method} {c : Code} {A : Nat → Prop} {ids : List Nat} {g : wd_G} {cells slots : Nat} {G : State → Prop} {nL pc : Nat} {a0 a1 a2 a3 : Option Value} {tl : List (Option Value)} {st : List Value} {σ : wd_S} {τ : wd_L} (k : cw_W p l e R s m args below meth c A ids g cells slots G nL pc [a0, a1, a2, a3, none, none] st σ τ) : cw_W p l e R s m args below meth c A ids g cells slots G nL pc (a0 :: a1 :: a2 :: a3 :: tl) st σ τ := by
  intro H locs la hl hP hS
  refine k H locs la ⟨hl.1, hl.2.1, fun i v hi => hl.2.2 i v ?_⟩ hP hS
  match i, hi with
  | 0, hi => exact hi
  | 1, hi => exact hi
  | 2, hi => exact hi
  | 3, hi => exact hi
  | 4, hi => simp at hi
  | 5, hi => simp at hi
  | n + 6, hi => simp at hi
theorem zm_sw_st (Y : wx_S) (r w : Nat) (j : Nat) : ∀ n, zm_sw Y r w (j + n) 256 (w - j) = zm_sw Y r w j 256 (w - j) ∨ w ≤ j
  | 0 => Or.inl rfl
  | n + 1 => by
    by_cases h : w ≤ j
    · exact Or.inr h
    · rcases zm_sw_st Y r w j n with h1 | h1
      · left
        show zm_sw Y r w (j + n + 1) 256 (w - j) = _
        rw [zm_sw, wx_u_nk (by omega)]
        exact h1
      · exact Or.inr h1
theorem zm_spread_R {X : wx_S} {r w a : Nat} (hr : r < 4) (ha : a < 4) (hw1 : 1 ≤ w) (hw : w ≤ 14) (hV : zm_V X) (hD : zm_D X) (hC : zm_C X r) (hl : X 228 (60 * r + 4 * w + a) ≠ 0) {k : Nat} (h1 : 1 ≤ k) (hk : k ≤ w) : zm_R X r k (zm_spread X r w a 256 k) := by
  have e : ∀ c k, c ≠ 256 → wx_u (zz_fill X 256 16 0) 256 w (2 ^ a) c k = X c k := fun c k hc => by rw [wx_u_nc hc, zz_fill, if_neg (fun z => hc z.1)]
  have hI := zm_sI_all hr ha hw1 hw hV hD hC hl (w - k) (by omega)
  have hs := zm_sw_st (wx_u (zz_fill X 256 16 0) 256 w (2 ^ a)) r w (w - k) (k - 1)
  rw [show w - k + (k - 1) = w - 1 by omega, show w - (w - k) = k by omega] at hs
  have h2 := hI.1
  rw [show w - (w - k) = k by omega] at h2
  rw [zm_spread]
  rcases hs with h3 | h3
  · rw [h3]; exact zm_R_ext (fun i => (e _ _ (by decide)).symm) h2
  · omega
def zm_emA (Z : wx_S) (r k a : Nat) : wx_S :=
  if Z 256 k / 2 ^ a % 2 = 1 ∧ Z 240 (90 * r + (Z 228 (60 * r + 4 * k + a) - 1)) = 0 then
    zm_place (zm_place (wx_u Z 240 (90 * r + (Z 228 (60 * r + 4 * k + a) - 1)) 1) r (Z 172 (Z 228 (60 * r + 4 * k + a) - 1))) r (Z 176 (Z 228 (60 * r + 4 * k + a) - 1))
  else Z
def zm_emI (Z : wx_S) (r k : Nat) : Nat → wx_S
  | 0 => Z
  | i + 1 => zm_emA (zm_emI Z r k i) r k i
def zm_emO (S : wx_S) (r : Nat) : Nat → wx_S
  | 0 => S
  | i + 1 => zm_emI (zm_emO S r i) r (i + 1) 4
def zm_emit (X : wx_S) (r w : Nat) : wx_S := zm_emO (zm_spread X r w (w / 2 % 4)) r w
theorem zm_emA_oth (Z : wx_S) (r k a : Nat) {c : Nat} (q : Nat) (h0 : c ≠ 240) (h1 : c ≠ 244) (h2 : c ≠ 248) (h3 : c ≠ 252) : zm_emA Z r k a c q = Z c q := by
  unfold zm_emA
  split
  · rw [zm_place_oth _ _ _ _ h1 h2 h3, zm_place_oth _ _ _ _ h1 h2 h3, wx_u_nc h0]
  · rfl
theorem zm_emI_oth (Z : wx_S) (r k : Nat) {c : Nat} (q : Nat) (h0 : c ≠ 240) (h1 : c ≠ 244) (h2 : c ≠ 248) (h3 : c ≠ 252) : ∀ i, zm_emI Z r k i c q = Z c q
  | 0 => rfl
  | i + 1 => by rw [zm_emI, zm_emA_oth _ _ _ _ _ h0 h1 h2 h3, zm_emI_oth Z r k q h0 h1 h2 h3 i]
theorem zm_emO_oth (S : wx_S) (r : Nat) {c : Nat} (q : Nat) (h0 : c ≠ 240) (h1 : c ≠ 244) (h2 : c ≠ 248) (h3 : c ≠ 252) : ∀ i, zm_emO S r i c q = S c q
  | 0 => rfl
  | i + 1 => by rw [zm_emO, zm_emI_oth _ _ _ _ h0 h1 h2 h3, zm_emO_oth S r q h0 h1 h2 h3 i]
theorem zm_ok_em {Z : wx_S} {r q : Nat} (h : zm_ok Z r) : zm_ok (wx_u Z 240 q 1) r :=
  ⟨zm_V_ext (fun c k hc => wx_u_nc (by omega)) h.1, zm_D_ext (fun c k hc => wx_u_nc (by omega)) h.2.1, zm_B_ext (wx_u_nc (by decide)) (fun k _ => wx_u_nc (by decide)) (fun a _ => wx_u_nc (by decide)) h.2.2.1, fun k hk => by
    by_cases e : k = q
    · subst e; rw [wx_u_eq]; decide
    · rw [wx_u_nk e]; exact h.2.2.2 k hk⟩
theorem zm_emA_ok {Z : wx_S} {r k a : Nat} (hr : r < 4) (hk : k ≤ 14) (ha : a < 4) (h : zm_ok Z r) (hR : zm_R Z r k (Z 256 k)) : zm_ok (zm_emA Z r k a) r := by
  unfold zm_emA
  split
  · rename_i hc
    have g3 := hR.2 a ha hc.1
    have g1 := h.2.1 (60 * r + 4 * k + a) (by omega)
    have g4 := h.1.2.2.1 (Z 228 (60 * r + 4 * k + a) - 1) (by omega)
    refine zm_place_ok (zm_place_ok (zm_ok_em h) ?_) ?_
    · rw [wx_u_nc (by decide)]; exact g4.2.2.2.2.1
    · rw [zm_place_oth _ _ _ _ (by decide) (by decide) (by decide), wx_u_nc (by decide)]; exact g4.2.2.2.2.2
  · exact h
theorem zm_emI_ok {Z : wx_S} {r k : Nat} (hr : r < 4) (hk : k ≤ 14) (h : zm_ok Z r) (hR : zm_R Z r k (Z 256 k)) : ∀ i, i ≤ 4 → zm_ok (zm_emI Z r k i) r ∧ zm_R (zm_emI Z r k i) r k (zm_emI Z r k i 256 k)
  | 0, _ => ⟨h, hR⟩
  | i + 1, hi => by
    have ih := zm_emI_ok hr hk h hR i (by omega)
    refine ⟨zm_emA_ok hr hk (by omega) ih.1 ih.2, ?_⟩
    rw [zm_emI_oth Z r k _ (by decide) (by decide) (by decide) (by decide)]
    exact zm_R_ext (fun j => zm_emI_oth Z r k _ (by decide) (by decide) (by decide) (by decide) _) hR
theorem zm_emO_ok {S : wx_S} {r w : Nat} (hr : r < 4) (hw : w ≤ 14) (h : zm_ok S r) (hR : ∀ k, 1 ≤ k → k ≤ w → zm_R S r k (S 256 k)) : ∀ i, i ≤ w → zm_ok (zm_emO S r i) r ∧ ∀ k, 1 ≤ k → k ≤ w → zm_R (zm_emO S r i) r k (zm_emO S r i 256 k)
  | 0, _ => ⟨h, hR⟩
  | i + 1, hi => by
    have ih := zm_emO_ok hr hw h hR i (by omega)
    refine ⟨(zm_emI_ok hr (by omega) ih.1 (ih.2 (i + 1) (by omega) (by omega)) 4 (Nat.le_refl _)).1, fun k h1 h2 => ?_⟩
    rw [zm_emO_oth S r _ (by decide) (by decide) (by decide) (by decide)]
    exact zm_R_ext (fun j => zm_emO_oth S r _ (by decide) (by decide) (by decide) (by decide) _) (hR k h1 h2)
set_option maxRecDepth 100000 in
set_option maxHeartbeats 4000000 in
theorem lp_Mo_emit2 {p : Program} {l : Launch} {e : Env} {s : State} {m : MethodId} {args : Array Value} {below : List Frame} {meth : Method} {c : Code} {A : Nat → Prop} {g : wd_G} {G : State → Prop} (Z0 : wx_S) (r : Nat) (hr : r < 4) (w k : Nat) (h1 : 1 ≤ k) (hk : k ≤ 14) (h0 : zm_ok Z0 r) (hR0 : zm_R Z0 r k (Z0 256 k)) (C : cw_C p s m args meth c A wd_all g cc_Mo_emit 6 "DagLedgerModel" none)  (hend : ∀ z : Option Value, cw_W p l e (cw_rm 2 0 0) s m args below meth c A wd_all g 0 0 G 6 119 [some (.ref 136), some (.int (nI r)), some (.int (nI w)), some (.int (nI k)), some (.int (nI (4))), z] [] (wx_e (zm_emI Z0 r k (4))) (wx_l (zm_emI Z0 r k (4)))) : ∀ (j i : Nat) (z : Option Value), i + j = 4 → cw_W p l e (cw_rm 2 0 0) s m args below meth c A wd_all g 0 0 G 6 20 [some (.ref 136), some (.int (nI r)), some (.int (nI w)), some (.int (nI k)), some (.int (nI (i))), z] [] (wx_e (zm_emI Z0 r k (i))) (wx_l (zm_emI Z0 r k (i))) := by
  intro j
  induction j with
  | zero =>
    intro i z hij
    refine cw_iload C dd_Mo_emit_20 rfl ?_
    refine cw_iconst (v := nI 4) C dd_Mo_emit_22 (by decide +kernel) ?_
    refine nw_icmp_ge (tgt := 119) C dd_Mo_emit_23 (by decide) (by first | omega | (simp [wx_u] <;> omega)) (by first | omega | (simp [wx_u] <;> omega)) (fun h23 => ?_) (fun h23 => ?_)
    · have hi : i = 4 := by omega
      rw [hi]
      exact hend z
    · exact absurd h23 (by omega)
  | succ j ih =>
    intro i z hij
    obtain ⟨h9, hR⟩ := zm_emI_ok hr hk h0 hR0 i (by omega)
    generalize hZ : zm_emI Z0 r k i = Z at h9 hR
    have g0 := hR.1
    have g1 := h9.2.1 (60 * r + 4 * k + i) (by omega)
    have g2 := h9.1.1
    refine cw_iload C dd_Mo_emit_20 rfl ?_
    refine cw_iconst (v := nI 4) C dd_Mo_emit_22 (by decide +kernel) ?_
    refine nw_icmp_ge (tgt := 119) C dd_Mo_emit_23 (by decide) (by first | omega | (simp [wx_u] <;> omega)) (by first | omega | (simp [wx_u] <;> omega)) (fun h23 => ?_) (fun h23 => ?_)
    · exact absurd h23 (by omega)
    · refine cw_aload_n C dd_Mo_emit_26 rfl ?_
      refine cw_getr (q' := 228) C wc_34 kF_Mo_77 is_34 (by decide) rfl dd_Mo_emit_27 rfl ?_
      refine cw_bipush (v := nI 60) C dd_Mo_emit_30 (by decide +kernel) ?_
      refine cw_iload_n C dd_Mo_emit_32 rfl ?_
      refine nw_imul C dd_Mo_emit_33 ?_
      refine cw_iconst (v := nI 4) C dd_Mo_emit_34 (by decide +kernel) ?_
      refine cw_iload_n C dd_Mo_emit_35 rfl ?_
      refine nw_imul C dd_Mo_emit_36 ?_
      refine nw_iadd C dd_Mo_emit_37 ?_
      refine cw_iload C dd_Mo_emit_38 rfl ?_
      refine nw_iadd C dd_Mo_emit_40 ?_
      refine nw_iald C is_57 (by omega) (by decide) dd_Mo_emit_41 ?_
      refine cw_iconst (v := nI 1) C dd_Mo_emit_42 (by decide +kernel) ?_
      refine nw_idec C dd_Mo_emit_43 ?_
      refine cw_istore C dd_Mo_emit_44 (Nat.le_of_ble_eq_true rfl) ?_
      refine cw_aload_n C dd_Mo_emit_46 rfl ?_
      refine cw_getr (q' := 256) C wc_34 kF_Mo_98 is_34 (by decide) rfl dd_Mo_emit_47 rfl ?_
      refine cw_iload_n C dd_Mo_emit_50 rfl ?_
      refine nw_iald C is_64 (by first | omega | (simp [wx_u] <;> omega)) (by decide) dd_Mo_emit_51 ?_
      refine cw_iload C dd_Mo_emit_52 rfl ?_
      refine nw_ishr C dd_Mo_emit_54 (by first | omega | (simp [wx_u] <;> omega)) (by first | omega | (simp [wx_u] <;> omega)) ?_
      refine cw_iconst (v := nI 1) C dd_Mo_emit_55 (by decide +kernel) ?_
      refine nw_iand1 C dd_Mo_emit_56 ?_
      refine cw_iconst (v := nI 1) C dd_Mo_emit_57 (by decide +kernel) ?_
      refine nw_icmp_ne (tgt := 113) C dd_Mo_emit_58 (by decide) (by first | omega | (simp [wx_u] <;> omega)) (by first | omega | (simp [wx_u] <;> omega)) (fun h58 => ?_) (fun h58 => ?_)
      · refine nw_iinc (b := 1) C dd_Mo_emit_113 (by decide +kernel) rfl (Nat.le_of_ble_eq_true rfl) ?_
        refine cw_goto (tgt := 20) C dd_Mo_emit_116 (by decide) ?_
        exact nw_eqX (by rw [zm_emI, hZ, zm_emA]; exact (if_neg (fun q => h58 q.1)).symm) (ih (i + 1) _ (by omega))
      · have g3 := hR.2 i (by omega) h58
        rw [if_neg g3]
        have g4 := h9.1.2.2.1 (Z 228 (60 * r + 4 * k + i) - 1) (by omega)
        have g5 := h9.2.2.2 (90 * r + (Z 228 (60 * r + 4 * k + i) - 1)) (by omega)
        refine cw_aload_n C dd_Mo_emit_61 rfl ?_
        refine cw_getr (q' := 240) C wc_34 kF_Mo_86 is_34 (by decide) rfl dd_Mo_emit_62 rfl ?_
        refine cw_bipush (v := nI 90) C dd_Mo_emit_65 (by decide +kernel) ?_
        refine cw_iload_n C dd_Mo_emit_67 rfl ?_
        refine nw_imul C dd_Mo_emit_68 ?_
        refine cw_iload C dd_Mo_emit_69 rfl ?_
        refine nw_iadd C dd_Mo_emit_71 ?_
        refine nw_zald C is_60 (by omega) (by decide) dd_Mo_emit_72 ?_
        refine nw_if_ne (tgt := 113) C dd_Mo_emit_73 (by decide) (by first | omega | (simp [wx_u] <;> omega)) (fun h73 => ?_) (fun h73 => ?_)
        · refine nw_iinc (b := 1) C dd_Mo_emit_113 (by decide +kernel) rfl (Nat.le_of_ble_eq_true rfl) ?_
          refine cw_goto (tgt := 20) C dd_Mo_emit_116 (by decide) ?_
          exact nw_eqX (by rw [zm_emI, hZ, zm_emA]; exact (if_neg (fun q => h73 q.2)).symm) (ih (i + 1) _ (by omega))
        · refine cw_aload_n C dd_Mo_emit_76 rfl ?_
          refine cw_getr (q' := 240) C wc_34 kF_Mo_86 is_34 (by decide) rfl dd_Mo_emit_77 rfl ?_
          refine cw_bipush (v := nI 90) C dd_Mo_emit_80 (by decide +kernel) ?_
          refine cw_iload_n C dd_Mo_emit_82 rfl ?_
          refine nw_imul C dd_Mo_emit_83 ?_
          refine cw_iload C dd_Mo_emit_84 rfl ?_
          refine nw_iadd C dd_Mo_emit_86 ?_
          refine cw_iconst (v := nI 1) C dd_Mo_emit_87 (by decide +kernel) ?_
          refine nw_zast C is_60 (by omega) (by decide) (by decide) dd_Mo_emit_88 ?_
          refine cw_aload_n C dd_Mo_emit_89 rfl ?_
          refine cw_iload_n C dd_Mo_emit_90 rfl ?_
          refine cw_aload_n C dd_Mo_emit_91 rfl ?_
          refine cw_getr (q' := 172) C wc_34 kF_Mo_35 is_34 (by decide) rfl dd_Mo_emit_92 rfl ?_
          refine cw_iload C dd_Mo_emit_95 rfl ?_
          refine nw_ialdv C (Z 172 (Z 228 (60 * r + 4 * k + i) - 1)) is_43 (by omega) (by decide) dd_Mo_emit_97 (wx_u_nc (by decide)) ?_
          refine cw_callV (As := [_, _]) C kV_Mo_173 wc_34 is_34 dd_Mo_emit_98 rfl rfl (Nat.le_of_ble_eq_true rfl) ⟨(Nat.le_of_ble_eq_true rfl), (Nat.le_of_ble_eq_true rfl)⟩ ⟨(Nat.le_of_ble_eq_true rfl), (Nat.le_of_ble_eq_true rfl)⟩ (mm_Mo_place_ok _ r hr _ (zm_ok_em h9) (by rw [wx_u_nc (by decide)]; exact g4.2.2.2.2.1)) (nw_kv ?_)
          refine cw_aload_n C dd_Mo_emit_101 rfl ?_
          refine cw_iload_n C dd_Mo_emit_102 rfl ?_
          refine cw_aload_n C dd_Mo_emit_103 rfl ?_
          refine cw_getr (q' := 176) C wc_34 kF_Mo_38 is_34 (by decide) rfl dd_Mo_emit_104 rfl ?_
          refine cw_iload C dd_Mo_emit_107 rfl ?_
          refine nw_ialdv C (Z 176 (Z 228 (60 * r + 4 * k + i) - 1)) is_44 (by omega) (by decide) dd_Mo_emit_109 (by rw [zm_place_oth _ _ _ _ (by decide) (by decide) (by decide), wx_u_nc (by decide)]) ?_
          refine cw_callV (As := [_, _]) C kV_Mo_173 wc_34 is_34 dd_Mo_emit_110 rfl rfl (Nat.le_of_ble_eq_true rfl) ⟨(Nat.le_of_ble_eq_true rfl), (Nat.le_of_ble_eq_true rfl)⟩ ⟨(Nat.le_of_ble_eq_true rfl), (Nat.le_of_ble_eq_true rfl)⟩ (mm_Mo_place_ok _ r hr _ (zm_place_ok (zm_ok_em h9) (by rw [wx_u_nc (by decide)]; exact g4.2.2.2.2.1)) (by rw [zm_place_oth _ _ _ _ (by decide) (by decide) (by decide), wx_u_nc (by decide)]; exact g4.2.2.2.2.2)) (nw_kv ?_)
          refine nw_iinc (b := 1) C dd_Mo_emit_113 (by decide +kernel) rfl (Nat.le_of_ble_eq_true rfl) ?_
          refine cw_goto (tgt := 20) C dd_Mo_emit_116 (by decide) ?_
          exact nw_eqX (by rw [zm_emI, hZ, zm_emA]; exact (if_pos ⟨h58, h73⟩).symm) (ih (i + 1) _ (by omega))
set_option maxRecDepth 100000 in
set_option maxHeartbeats 4000000 in
theorem lp_Mo_emit1 {p : Program} {l : Launch} {e : Env} {s : State} {m : MethodId} {args : Array Value} {below : List Frame} {meth : Method} {c : Code} {A : Nat → Prop} {g : wd_G} {G : State → Prop} (S : wx_S) (r : Nat) (hr : r < 4) (w : Nat) (hw : w ≤ 14) (h0 : zm_ok S r) (hR0 : ∀ k, 1 ≤ k → k ≤ w → zm_R S r k (S 256 k)) (C : cw_C p s m args meth c A wd_all g cc_Mo_emit 6 "DagLedgerModel" none)  (hend : cw_W p l e (cw_rm 2 0 0) s m args below meth c A wd_all g 0 0 G 6 125 [some (.ref 136), some (.int (nI r)), some (.int (nI w)), some (.int (nI (w + 1))), none, none] [] (wx_e (zm_emO S r (w))) (wx_l (zm_emO S r (w)))) : ∀ (j i : Nat), i + j = w → cw_W p l e (cw_rm 2 0 0) s m args below meth c A wd_all g 0 0 G 6 12 [some (.ref 136), some (.int (nI r)), some (.int (nI w)), some (.int (nI (i + 1))), none, none] [] (wx_e (zm_emO S r (i))) (wx_l (zm_emO S r (i))) := by
  intro j
  induction j with
  | zero =>
    intro i hij
    refine cw_iload_n C dd_Mo_emit_12 rfl ?_
    refine cw_iload_n C dd_Mo_emit_13 rfl ?_
    refine nw_icmp_gt (tgt := 125) C dd_Mo_emit_14 (by decide) (by first | omega | (simp [wx_u] <;> omega)) (by first | omega | (simp [wx_u] <;> omega)) (fun h14 => ?_) (fun h14 => ?_)
    · have hi : i = w := by omega
      rw [hi]
      exact hend
    · exact absurd h14 (by omega)
  | succ j ih =>
    intro i hij
    obtain ⟨h9, hR⟩ := zm_emO_ok hr hw h0 hR0 i (by omega)
    refine cw_iload_n C dd_Mo_emit_12 rfl ?_
    refine cw_iload_n C dd_Mo_emit_13 rfl ?_
    refine nw_icmp_gt (tgt := 125) C dd_Mo_emit_14 (by decide) (by first | omega | (simp [wx_u] <;> omega)) (by first | omega | (simp [wx_u] <;> omega)) (fun h14 => ?_) (fun h14 => ?_)
    · exact absurd h14 (by omega)
    · refine cw_iconst (v := nI 0) C dd_Mo_emit_17 (by decide +kernel) ?_
      refine cw_istore C dd_Mo_emit_18 (Nat.le_of_ble_eq_true rfl) ?_
      refine lp_Mo_emit2 (zm_emO S r i) r hr w (i + 1) (by omega) (by omega) h9 (hR (i + 1) (by omega) (by omega)) C ?_ 4 0 _ (by omega)
      intro z
      refine nw_iinc (b := 1) C dd_Mo_emit_119 (by decide +kernel) rfl (Nat.le_of_ble_eq_true rfl) ?_
      refine cw_goto (tgt := 12) C dd_Mo_emit_122 (by decide) ?_
      exact cw_wk4 (ih (i + 1) (by omega))
set_option maxRecDepth 100000 in
set_option maxHeartbeats 4000000 in
theorem mm_Mo_emit (X : wx_S) (r : Nat) (hr : r < 4) (w : Nat) (hw1 : 1 ≤ w) (hw : w ≤ 14) (h : zm_ok X r) (hC : zm_C X r) (hl : X 228 (60 * r + 4 * w + w / 2 % 4) ≠ 0) : nw_M wd_all yy_Mo_emit cc_Mo_emit 6 none 2 0 0 [.ref 136, .int (nI r), .int (nI w)] X (fun v X' => v = none ∧ X' = zm_emit X r w) := by
  refine nw_of [some (.ref 136), some (.int (nI r)), some (.int (nI w)), none, none, none] (by decide +kernel) rfl (Nat.le_of_ble_eq_true rfl) rfl ?_
  intro p l e s m args below meth c A g C
  have hS : zm_ok (zm_spread X r w (w / 2 % 4)) r := ⟨zm_V_ext (fun c k hc => zm_spread_oth _ _ _ _ _ (by omega)) h.1, zm_D_ext (fun c k hc => zm_spread_oth _ _ _ _ _ (by omega)) h.2.1, zm_B_ext (zm_spread_oth _ _ _ _ _ (by decide)) (fun k _ => zm_spread_oth _ _ _ _ _ (by decide)) (fun a _ => zm_spread_oth _ _ _ _ _ (by decide)) h.2.2.1, fun k hk => by rw [zm_spread_oth _ _ _ _ _ (by decide)]; exact h.2.2.2 k hk⟩
  refine cw_aload_n C dd_Mo_emit_0 rfl ?_
  refine cw_iload_n C dd_Mo_emit_1 rfl ?_
  refine cw_iload_n C dd_Mo_emit_2 rfl ?_
  refine cw_iload_n C dd_Mo_emit_3 rfl ?_
  refine cw_callS (As := [_]) C kS_Mo_159 dd_Mo_emit_4 rfl rfl (Nat.le_of_ble_eq_true rfl) ⟨(Nat.le_of_ble_eq_true rfl), (Nat.le_of_ble_eq_true rfl)⟩ ⟨(Nat.le_of_ble_eq_true rfl), (Nat.le_of_ble_eq_true rfl)⟩ (mm_Mo_leader X w (by omega)) (nw_ki ?_)
  refine cw_callV (As := [_, _, _]) C kV_Mo_166 wc_34 is_34 dd_Mo_emit_7 rfl rfl (Nat.le_of_ble_eq_true rfl) ⟨(Nat.le_of_ble_eq_true rfl), (Nat.le_of_ble_eq_true rfl)⟩ ⟨(Nat.le_of_ble_eq_true rfl), (Nat.le_of_ble_eq_true rfl)⟩ (mm_Mo_spread X r hr w _ (by omega) hw1 hw h.1 h.2.1 hC hl) (nw_kv ?_)
  refine cw_iconst (v := nI 1) C dd_Mo_emit_10 (by decide +kernel) ?_
  refine cw_istore_n C dd_Mo_emit_11 (Nat.le_of_ble_eq_true rfl) ?_
  refine cw_wk4 (lp_Mo_emit1 (zm_spread X r w (w / 2 % 4)) r hr w hw hS (fun k h1 h2 => zm_R_ext (fun i => zm_spread_oth _ _ _ _ _ (by decide)) (zm_spread_R hr (by omega) hw1 hw h.1 h.2.1 hC hl h1 h2)) C ?_ w 0 (by omega))
  exact cw_vreturn C dd_Mo_emit_125 (Nat.le_of_ble_eq_true rfl) (Nat.le_of_ble_eq_true rfl) ⟨_, rfl, rfl, ⟨rfl, rfl⟩⟩
