theorem zm_spread_ok {X : wx_S} {r w a : Nat} (h : zm_ok X r) : zm_ok (zm_spread X r w a) r := ⟨zm_V_ext (fun c k hc => zm_spread_oth _ _ _ _ _ (by omega)) h.1, zm_D_ext (fun c k hc => zm_spread_oth _ _ _ _ _ (by omega)) h.2.1, zm_B_ext (zm_spread_oth _ _ _ _ _ (by decide)) (fun k _ => zm_spread_oth _ _ _ _ _ (by decide)) (fun a _ => zm_spread_oth _ _ _ _ _ (by decide)) h.2.2.1, fun k hk => by rw [zm_spread_oth _ _ _ _ _ (by decide)]; exact h.2.2.2 k hk⟩
theorem zm_emit_oth (X : wx_S) (r w : Nat) {c : Nat} (q : Nat) (h0 : c ≠ 240) (h1 : c ≠ 244) (h2 : c ≠ 248) (h3 : c ≠ 252) (h4 : c ≠ 256) : zm_emit X r w c q = X c q := by
  rw [zm_emit, zm_emO_oth _ _ _ h0 h1 h2 h3, zm_spread_oth _ _ _ _ _ h4]
theorem zm_emit_ok {X : wx_S} {r w : Nat} (hr : r < 4) (hw1 : 1 ≤ w) (hw : w ≤ 14) (h : zm_ok X r) (hC : zm_C X r) (hl : X 228 (60 * r + 4 * w + w / 2 % 4) ≠ 0) : zm_ok (zm_emit X r w) r :=
  (zm_emO_ok hr hw (zm_spread_ok h) (fun k h1 h2 => zm_R_ext (fun i => zm_spread_oth _ _ _ _ _ (by decide)) (zm_spread_R hr (by omega) hw1 hw h.1 h.2.1 hC hl h1 h2)) w (Nat.le_refl _)).1
/-- a leader that is there -/
def zm_L (X : wx_S) (r k : Nat) : Prop := 1 ≤ k ∧ k ≤ 14 ∧ X 228 (60 * r + 4 * k + k / 2 % 4) ≠ 0
def zm_ch (X : wx_S) (r w : Nat) : Nat → Nat × Nat × wx_S
  | 0 => (2 ^ w, w, X)
  | j + 1 => if zm_spread (zm_ch X r w j).2.2 r (zm_ch X r w j).2.1 ((zm_ch X r w j).2.1 / 2 % 4) 256 (w - 2 - 2 * j) / 2 ^ ((w - 2 - 2 * j) / 2 % 4) % 2 = 1
    then ((zm_ch X r w j).1 ||| 2 ^ (w - 2 - 2 * j), w - 2 - 2 * j, zm_spread (zm_ch X r w j).2.2 r (zm_ch X r w j).2.1 ((zm_ch X r w j).2.1 / 2 % 4))
    else ((zm_ch X r w j).1, (zm_ch X r w j).2.1, zm_spread (zm_ch X r w j).2.2 r (zm_ch X r w j).2.1 ((zm_ch X r w j).2.1 / 2 % 4))
theorem zm_ch_oth (X : wx_S) (r w : Nat) {c : Nat} (q : Nat) (h : c ≠ 256) : ∀ j, (zm_ch X r w j).2.2 c q = X c q
  | 0 => rfl
  | j + 1 => by
    simp only [zm_ch]
    split <;> (show zm_spread _ _ _ _ c q = _; rw [zm_spread_oth _ _ _ _ _ h, zm_ch_oth X r w q h j])
def zm_chI (X : wx_S) (r w j : Nat) : Prop := zm_ok (zm_ch X r w j).2.2 r ∧ zm_L X r (zm_ch X r w j).2.1 ∧ w - 2 * j ≤ (zm_ch X r w j).2.1 ∧ (zm_ch X r w j).1 < 2 ^ 15 ∧ ∀ k, (zm_ch X r w j).1 / 2 ^ k % 2 = 1 → zm_L X r k
theorem zm_chI_all {X : wx_S} {r w : Nat} (hr : r < 4) (h : zm_ok X r) (hC : zm_C X r) (hl : zm_L X r w) : ∀ j, 2 * j < w → zm_chI X r w j
  | 0, _ => by
    refine ⟨h, hl, by simp [zm_ch], zn_p15 (by have := hl.2.1; omega), fun k hk => ?_⟩
    have h9 : w = k := by
      simp only [zm_ch] at hk
      rw [zn_tb, Nat.testBit_two_pow] at hk
      simpa using hk
    rw [← h9]; exact hl
  | j + 1, hj => by
    obtain ⟨i1, i2, i3, i4, i5⟩ := zm_chI_all hr h hC hl j (by omega)
    have e : ∀ c q, c ≠ 256 → (zm_ch X r w j).2.2 c q = X c q := fun c q hc => zm_ch_oth X r w q hc j
    have hw := hl.2.1
    have hR := zm_spread_R (X := (zm_ch X r w j).2.2) (a := (zm_ch X r w j).2.1 / 2 % 4) hr (by omega) i2.1 i2.2.1 i1.1 i1.2.1 (zm_C_ext (fun c k hc => e c k (by omega)) hC) (by rw [e _ _ (by decide)]; exact i2.2.2) (k := w - 2 - 2 * j) (by omega) (by omega)
    unfold zm_chI
    simp only [zm_ch]
    split
    · rename_i hb
      have hk := hR.2 _ (by omega) hb
      rw [e _ _ (by decide)] at hk
      have hL : zm_L X r (w - 2 - 2 * j) := ⟨by omega, by omega, hk⟩
      refine ⟨zm_spread_ok i1, hL, by show w - 2 * (j + 1) ≤ w - 2 - 2 * j; omega, Nat.or_lt_two_pow i4 (zn_p15 (by omega)), fun k hk2 => ?_⟩
      rcases zm_or_bit.mp hk2 with h1 | h1
      · exact i5 k h1
      · have h9 : w - 2 - 2 * j = k := by
          rw [zn_tb, Nat.testBit_two_pow] at h1
          simpa using h1
        rw [← h9]; exact hL
    · exact ⟨zm_spread_ok i1, i2, by show w - 2 * (j + 1) ≤ (zm_ch X r w j).2.1; omega, i4, i5⟩
def zm_c2 (Y : wx_S) (r f l : Nat) : Nat → wx_S
  | 0 => Y
  | i + 1 => if f / 2 ^ (l + 2 + 2 * i) % 2 = 1 then zm_emit (zm_c2 Y r f l i) r (l + 2 + 2 * i) else zm_c2 Y r f l i
theorem zm_c2_oth (Y : wx_S) (r f l : Nat) {c : Nat} (q : Nat) (h0 : c ≠ 240) (h1 : c ≠ 244) (h2 : c ≠ 248) (h3 : c ≠ 252) (h4 : c ≠ 256) : ∀ i, zm_c2 Y r f l i c q = Y c q
  | 0 => rfl
  | i + 1 => by
    simp only [zm_c2]
    split
    · rw [zm_emit_oth _ _ _ _ h0 h1 h2 h3 h4, zm_c2_oth Y r f l q h0 h1 h2 h3 h4 i]
    · exact zm_c2_oth Y r f l q h0 h1 h2 h3 h4 i
theorem zm_c2_ok {Y : wx_S} {r f l : Nat} (hr : r < 4) (h : zm_ok Y r) (hC : zm_C Y r) (hf : ∀ k, f / 2 ^ k % 2 = 1 → zm_L Y r k) : ∀ i, zm_ok (zm_c2 Y r f l i) r
  | 0 => h
  | i + 1 => by
    have ih := zm_c2_ok (l := l) hr h hC hf i
    simp only [zm_c2]
    split
    · rename_i hb
      have hL := hf _ hb
      exact zm_emit_ok hr hL.1 hL.2.1 ih (zm_C_ext (fun c k hc => zm_c2_oth Y r f l _ (by omega) (by omega) (by omega) (by omega) (by omega) i) hC) (by rw [zm_c2_oth Y r f l _ (by decide) (by decide) (by decide) (by decide) (by decide) i]; exact hL.2.2)
    · exact ih
def zm_gap (X : wx_S) (r w : Nat) : Nat := (w - 2 - X 224 r) / 2
def zm_commit (X : wx_S) (r w : Nat) : wx_S := wx_u (zm_c2 (zm_ch X r w (zm_gap X r w)).2.2 r (zm_ch X r w (zm_gap X r w)).1 (X 224 r) ((w - X 224 r) / 2)) 224 r w
set_option maxRecDepth 100000 in
set_option maxHeartbeats 4000000 in
theorem lp_Mo_commit1 {p : Program} {l : Launch} {e : Env} {s : State} {m : MethodId} {args : Array Value} {below : List Frame} {meth : Method} {c : Code} {A : Nat → Prop} {g : wd_G} {G : State → Prop} (X : wx_S) (r : Nat) (hr : r < 4) (w : Nat) (h : zm_ok X r) (hC : zm_C X r) (hl : zm_L X r w) (hlast : X 224 r + 2 ≤ w) (he : (w - X 224 r) % 2 = 0) (C : cw_C p s m args meth c A wd_all g cc_Mo_commit 6 "DagLedgerModel" none)  (hend : cw_W p l e (cw_rm 3 0 0) s m args below meth c A wd_all g 0 0 G 6 71 [some (.ref 136), some (.int (nI r)), some (.int (nI w)), some (.int (nI (zm_ch X r w (((w - 2 - X 224 r) / 2))).1)), some (.int (nI (zm_ch X r w (((w - 2 - X 224 r) / 2))).2.1)), some (.int (nI (w - 2 - 2 * (((w - 2 - X 224 r) / 2)))))] [] (wx_e ((zm_ch X r w (((w - 2 - X 224 r) / 2))).2.2)) (wx_l ((zm_ch X r w (((w - 2 - X 224 r) / 2))).2.2))) : ∀ (j i : Nat), i + j = ((w - 2 - X 224 r) / 2) → cw_W p l e (cw_rm 3 0 0) s m args below meth c A wd_all g 0 0 G 6 12 [some (.ref 136), some (.int (nI r)), some (.int (nI w)), some (.int (nI (zm_ch X r w (i)).1)), some (.int (nI (zm_ch X r w (i)).2.1)), some (.int (nI (w - 2 - 2 * (i))))] [] (wx_e ((zm_ch X r w (i)).2.2)) (wx_l ((zm_ch X r w (i)).2.2)) := by
  intro j
  induction j with
  | zero =>
    intro i hij
    have hw := hl.2.1
    have e1 : (zm_ch X r w i).2.2 224 r = X 224 r := zm_ch_oth X r w _ (by decide) i
    refine cw_iload C dd_Mo_commit_12 rfl ?_
    refine cw_aload_n C dd_Mo_commit_14 rfl ?_
    refine cw_getr (q' := 224) C wc_34 kF_Mo_74 is_34 (by decide) rfl dd_Mo_commit_15 rfl ?_
    refine cw_iload_n C dd_Mo_commit_18 rfl ?_
    refine nw_ialdv C (X 224 r) is_56 (by omega) (by decide) dd_Mo_commit_19 e1 ?_
    refine nw_icmp_le (tgt := 71) C dd_Mo_commit_20 (by decide) (by first | omega | (simp [wx_u] <;> omega)) (by first | omega | (simp [wx_u] <;> omega)) (fun h20 => ?_) (fun h20 => ?_)
    · have hi : i = ((w - 2 - X 224 r) / 2) := by omega
      rw [hi]
      exact hend
    · exact absurd h20 (by omega)
  | succ j ih =>
    intro i hij
    have hw := hl.2.1
    have e1 : (zm_ch X r w i).2.2 224 r = X 224 r := zm_ch_oth X r w _ (by decide) i
    obtain ⟨i1, i2, i3, i4, i5⟩ := zm_chI_all hr h hC hl i (by omega)
    have e : ∀ c q, c ≠ 256 → (zm_ch X r w i).2.2 c q = X c q := fun c q hc => zm_ch_oth X r w q hc i
    have hR := zm_spread_R (X := (zm_ch X r w i).2.2) (a := (zm_ch X r w i).2.1 / 2 % 4) hr (by omega) i2.1 i2.2.1 i1.1 i1.2.1 (zm_C_ext (fun c k hc => e c k (by omega)) hC) (by rw [e _ _ (by decide)]; exact i2.2.2) (k := w - 2 - 2 * i) (by omega) (by omega)
    have hb := i2.2.1
    refine cw_iload C dd_Mo_commit_12 rfl ?_
    refine cw_aload_n C dd_Mo_commit_14 rfl ?_
    refine cw_getr (q' := 224) C wc_34 kF_Mo_74 is_34 (by decide) rfl dd_Mo_commit_15 rfl ?_
    refine cw_iload_n C dd_Mo_commit_18 rfl ?_
    refine nw_ialdv C (X 224 r) is_56 (by omega) (by decide) dd_Mo_commit_19 e1 ?_
    refine nw_icmp_le (tgt := 71) C dd_Mo_commit_20 (by decide) (by first | omega | (simp [wx_u] <;> omega)) (by first | omega | (simp [wx_u] <;> omega)) (fun h20 => ?_) (fun h20 => ?_)
    · exact absurd h20 (by omega)
    · refine cw_aload_n C dd_Mo_commit_23 rfl ?_
      refine cw_iload_n C dd_Mo_commit_24 rfl ?_
      refine cw_iload C dd_Mo_commit_25 rfl ?_
      refine cw_iload C dd_Mo_commit_27 rfl ?_
      refine cw_callS (As := [_]) C kS_Mo_159 dd_Mo_commit_29 rfl rfl (Nat.le_of_ble_eq_true rfl) ⟨(Nat.le_of_ble_eq_true rfl), (Nat.le_of_ble_eq_true rfl)⟩ ⟨(Nat.le_of_ble_eq_true rfl), (Nat.le_of_ble_eq_true rfl)⟩ (mm_Mo_leader _ _ (by omega)) (nw_ki ?_)
      refine cw_callV (As := [_, _, _]) C kV_Mo_166 wc_34 is_34 dd_Mo_commit_32 rfl rfl (Nat.le_of_ble_eq_true rfl) ⟨(Nat.le_of_ble_eq_true rfl), (Nat.le_of_ble_eq_true rfl)⟩ ⟨(Nat.le_of_ble_eq_true rfl), (Nat.le_of_ble_eq_true rfl)⟩ (mm_Mo_spread _ r hr _ _ (by omega) i2.1 i2.2.1 i1.1 i1.2.1 (zm_C_ext (fun c k hc => e c k (by omega)) hC) (by rw [e _ _ (by decide)]; exact i2.2.2)) (nw_kv ?_)
      refine cw_aload_n C dd_Mo_commit_35 rfl ?_
      refine cw_getr (q' := 256) C wc_34 kF_Mo_98 is_34 (by decide) rfl dd_Mo_commit_36 rfl ?_
      refine cw_iload C dd_Mo_commit_39 rfl ?_
      refine nw_iald C is_64 (by omega) (by decide) dd_Mo_commit_41 ?_
      refine cw_iload C dd_Mo_commit_42 rfl ?_
      refine cw_callS (As := [_]) C kS_Mo_159 dd_Mo_commit_44 rfl rfl (Nat.le_of_ble_eq_true rfl) ⟨(Nat.le_of_ble_eq_true rfl), (Nat.le_of_ble_eq_true rfl)⟩ ⟨(Nat.le_of_ble_eq_true rfl), (Nat.le_of_ble_eq_true rfl)⟩ (mm_Mo_leader _ _ (by omega)) (nw_ki ?_)
      refine nw_ishr C dd_Mo_commit_47 (by have := hR.1; omega) (by omega) ?_
      refine cw_iconst (v := nI 1) C dd_Mo_commit_48 (by decide +kernel) ?_
      refine nw_iand1 C dd_Mo_commit_49 ?_
      refine cw_iconst (v := nI 1) C dd_Mo_commit_50 (by decide +kernel) ?_
      refine nw_icmp_ne (tgt := 65) C dd_Mo_commit_51 (by decide) (by first | omega | (simp [wx_u] <;> omega)) (by first | omega | (simp [wx_u] <;> omega)) (fun h51 => ?_) (fun h51 => ?_)
      · refine nw_iincm (b := 2) C dd_Mo_commit_65 (by decide +kernel) rfl (by omega) (Nat.le_of_ble_eq_true rfl) ?_
        refine cw_goto (tgt := 12) C dd_Mo_commit_68 (by decide) ?_
        have e2 : w - 2 - 2 * i - 2 = w - 2 - 2 * (i + 1) := by omega
        rw [e2]
        have k9 := ih (i + 1) (by omega)
        have e9 : zm_ch X r w (i + 1) = _ := if_neg h51
        rw [e9] at k9
        exact k9
      · refine cw_iload_n C dd_Mo_commit_54 rfl ?_
        refine cw_iconst (v := nI 1) C dd_Mo_commit_55 (by decide +kernel) ?_
        refine cw_iload C dd_Mo_commit_56 rfl ?_
        refine nw_ishl C dd_Mo_commit_58 (by first | omega | (simp [wx_u] <;> omega)) ?_
        refine nw_ior C dd_Mo_commit_59 ?_
        refine cw_istore_n C dd_Mo_commit_60 (Nat.le_of_ble_eq_true rfl) ?_
        refine cw_iload C dd_Mo_commit_61 rfl ?_
        refine cw_istore C dd_Mo_commit_63 (Nat.le_of_ble_eq_true rfl) ?_
        refine nw_iincm (b := 2) C dd_Mo_commit_65 (by decide +kernel) rfl (by omega) (Nat.le_of_ble_eq_true rfl) ?_
        refine cw_goto (tgt := 12) C dd_Mo_commit_68 (by decide) ?_
        have e2 : w - 2 - 2 * i - 2 = w - 2 - 2 * (i + 1) := by omega
        rw [e2]
        have k9 := ih (i + 1) (by omega)
        have e9 : zm_ch X r w (i + 1) = _ := if_pos h51
        rw [e9] at k9
        rw [Nat.one_mul]
        exact k9
set_option maxRecDepth 100000 in
set_option maxHeartbeats 4000000 in
theorem lp_Mo_commit2 {p : Program} {l : Launch} {e : Env} {s : State} {m : MethodId} {args : Array Value} {below : List Frame} {meth : Method} {c : Code} {A : Nat → Prop} {g : wd_G} {G : State → Prop} (Y : wx_S) (r : Nat) (hr : r < 4) (w f L z4 : Nat) (hL : L + 2 ≤ w) (he : (w - L) % 2 = 0) (hw : w ≤ 14) (hf15 : f < 2 ^ 15) (h : zm_ok Y r) (hC : zm_C Y r) (hf : ∀ k, f / 2 ^ k % 2 = 1 → zm_L Y r k) (C : cw_C p s m args meth c A wd_all g cc_Mo_commit 6 "DagLedgerModel" none)  (hend : cw_W p l e (cw_rm 3 0 0) s m args below meth c A wd_all g 0 0 G 6 110 [some (.ref 136), some (.int (nI r)), some (.int (nI w)), some (.int (nI f)), some (.int (nI z4)), some (.int (nI (L + 2 + 2 * (((w - L) / 2)))))] [] (wx_e (zm_c2 Y r f L (((w - L) / 2)))) (wx_l (zm_c2 Y r f L (((w - L) / 2))))) : ∀ (j i : Nat), i + j = ((w - L) / 2) → cw_W p l e (cw_rm 3 0 0) s m args below meth c A wd_all g 0 0 G 6 81 [some (.ref 136), some (.int (nI r)), some (.int (nI w)), some (.int (nI f)), some (.int (nI z4)), some (.int (nI (L + 2 + 2 * (i))))] [] (wx_e (zm_c2 Y r f L (i))) (wx_l (zm_c2 Y r f L (i))) := by
  intro j
  induction j with
  | zero =>
    intro i hij
    refine cw_iload C dd_Mo_commit_81 rfl ?_
    refine cw_iload_n C dd_Mo_commit_83 rfl ?_
    refine nw_icmp_gt (tgt := 110) C dd_Mo_commit_84 (by decide) (by first | omega | (simp [wx_u] <;> omega)) (by first | omega | (simp [wx_u] <;> omega)) (fun h84 => ?_) (fun h84 => ?_)
    · have hi : i = ((w - L) / 2) := by omega
      rw [hi]
      exact hend
    · exact absurd h84 (by omega)
  | succ j ih =>
    intro i hij
    have hk := zm_c2_ok (l := L) hr h hC hf i
    refine cw_iload C dd_Mo_commit_81 rfl ?_
    refine cw_iload_n C dd_Mo_commit_83 rfl ?_
    refine nw_icmp_gt (tgt := 110) C dd_Mo_commit_84 (by decide) (by first | omega | (simp [wx_u] <;> omega)) (by first | omega | (simp [wx_u] <;> omega)) (fun h84 => ?_) (fun h84 => ?_)
    · exact absurd h84 (by omega)
    · refine cw_iload_n C dd_Mo_commit_87 rfl ?_
      refine cw_iload C dd_Mo_commit_88 rfl ?_
      refine nw_ishr C dd_Mo_commit_90 (by omega) (by omega) ?_
      refine cw_iconst (v := nI 1) C dd_Mo_commit_91 (by decide +kernel) ?_
      refine nw_iand1 C dd_Mo_commit_92 ?_
      refine cw_iconst (v := nI 1) C dd_Mo_commit_93 (by decide +kernel) ?_
      refine nw_icmp_ne (tgt := 104) C dd_Mo_commit_94 (by decide) (by first | omega | (simp [wx_u] <;> omega)) (by first | omega | (simp [wx_u] <;> omega)) (fun h94 => ?_) (fun h94 => ?_)
      · refine nw_iinc (b := 2) C dd_Mo_commit_104 (by decide +kernel) rfl (Nat.le_of_ble_eq_true rfl) ?_
        refine cw_goto (tgt := 81) C dd_Mo_commit_107 (by decide) ?_
        have e2 : L + 2 + 2 * i + 2 = L + 2 + 2 * (i + 1) := by omega
        rw [e2]
        exact nw_eqX (if_neg h94 : zm_c2 Y r f L (i + 1) = _).symm (ih (i + 1) (by omega))
      · refine cw_aload_n C dd_Mo_commit_97 rfl ?_
        refine cw_iload_n C dd_Mo_commit_98 rfl ?_
        refine cw_iload C dd_Mo_commit_99 rfl ?_
        have hL9 := hf _ h94
        refine cw_callV (As := [_, _]) C kV_Mo_170 wc_34 is_34 dd_Mo_commit_101 rfl rfl (Nat.le_of_ble_eq_true rfl) ⟨(Nat.le_of_ble_eq_true rfl), (Nat.le_of_ble_eq_true rfl)⟩ ⟨(Nat.le_of_ble_eq_true rfl), (Nat.le_of_ble_eq_true rfl)⟩ (mm_Mo_emit _ r hr _ hL9.1 hL9.2.1 hk (zm_C_ext (fun c k hc => zm_c2_oth Y r f L _ (by omega) (by omega) (by omega) (by omega) (by omega) i) hC) (by rw [zm_c2_oth Y r f L _ (by decide) (by decide) (by decide) (by decide) (by decide) i]; exact hL9.2.2)) (nw_kv ?_)
        refine nw_iinc (b := 2) C dd_Mo_commit_104 (by decide +kernel) rfl (Nat.le_of_ble_eq_true rfl) ?_
        refine cw_goto (tgt := 81) C dd_Mo_commit_107 (by decide) ?_
        have e2 : L + 2 + 2 * i + 2 = L + 2 + 2 * (i + 1) := by omega
        rw [e2]
        exact nw_eqX (if_pos h94 : zm_c2 Y r f L (i + 1) = _).symm (ih (i + 1) (by omega))
set_option maxRecDepth 100000 in
set_option maxHeartbeats 4000000 in
theorem mm_Mo_commit (X : wx_S) (r : Nat) (hr : r < 4) (w : Nat) (h : zm_ok X r) (hC : zm_C X r) (hl : zm_L X r w) (hlast : X 224 r + 2 ≤ w) (he : (w - X 224 r) % 2 = 0) : nw_M wd_all yy_Mo_commit cc_Mo_commit 6 none 3 0 0 [.ref 136, .int (nI r), .int (nI w)] X (fun v X' => v = none ∧ X' = zm_commit X r w) := by
  refine nw_of [some (.ref 136), some (.int (nI r)), some (.int (nI w)), none, none, none] (by decide +kernel) rfl (Nat.le_of_ble_eq_true rfl) rfl ?_
  intro p l e s m args below meth c A g C
  have hw := hl.2.1
  refine cw_iconst (v := nI 1) C dd_Mo_commit_0 (by decide +kernel) ?_
  refine cw_iload_n C dd_Mo_commit_1 rfl ?_
  refine nw_ishl C dd_Mo_commit_2 (by first | omega | (simp [wx_u] <;> omega)) ?_
  refine cw_istore_n C dd_Mo_commit_3 (Nat.le_of_ble_eq_true rfl) ?_
  refine cw_iload_n C dd_Mo_commit_4 rfl ?_
  refine cw_istore C dd_Mo_commit_5 (Nat.le_of_ble_eq_true rfl) ?_
  refine cw_iload_n C dd_Mo_commit_7 rfl ?_
  refine cw_iconst (v := nI 2) C dd_Mo_commit_8 (by decide +kernel) ?_
  refine nw_isub C dd_Mo_commit_9 (by first | omega | (simp [wx_u] <;> omega)) ?_
  refine cw_istore C dd_Mo_commit_10 (Nat.le_of_ble_eq_true rfl) ?_
  rw [Nat.one_mul]
  refine lp_Mo_commit1 X r hr w h hC hl hlast he C ?_ ((w - 2 - X 224 r) / 2) 0 (by omega)
  obtain ⟨i1, i2, i3, i4, i5⟩ := zm_chI_all hr h hC hl ((w - 2 - X 224 r) / 2) (by omega)
  have e : ∀ c q, c ≠ 256 → (zm_ch X r w ((w - 2 - X 224 r) / 2)).2.2 c q = X c q := fun c q hc => zm_ch_oth X r w q hc _
  refine cw_aload_n C dd_Mo_commit_71 rfl ?_
  refine cw_getr (q' := 224) C wc_34 kF_Mo_74 is_34 (by decide) rfl dd_Mo_commit_72 rfl ?_
  refine cw_iload_n C dd_Mo_commit_75 rfl ?_
  refine nw_ialdv C (X 224 r) is_56 (by omega) (by decide) dd_Mo_commit_76 (e _ _ (by decide)) ?_
  refine cw_iconst (v := nI 2) C dd_Mo_commit_77 (by decide +kernel) ?_
  refine nw_iadd C dd_Mo_commit_78 ?_
  refine cw_istore C dd_Mo_commit_79 (Nat.le_of_ble_eq_true rfl) ?_
  refine lp_Mo_commit2 _ r hr w _ (X 224 r) _ hlast he hw i4 i1 (zm_C_ext (fun c k hc => e c k (by omega)) hC) (fun k hk => ⟨(i5 k hk).1, (i5 k hk).2.1, by rw [e _ _ (by decide)]; exact (i5 k hk).2.2⟩) C ?_ ((w - X 224 r) / 2) 0 (by omega)
  refine cw_aload_n C dd_Mo_commit_110 rfl ?_
  refine cw_getr (q' := 224) C wc_34 kF_Mo_74 is_34 (by decide) rfl dd_Mo_commit_111 rfl ?_
  refine cw_iload_n C dd_Mo_commit_114 rfl ?_
  refine cw_iload_n C dd_Mo_commit_115 rfl ?_
  refine nw_iast C is_56 (by first | omega | (simp [wx_u] <;> omega)) (by decide) dd_Mo_commit_116 ?_
  exact cw_vreturn C dd_Mo_commit_117 (Nat.le_of_ble_eq_true rfl) (Nat.le_of_ble_eq_true rfl) ⟨_, rfl, rfl, ⟨rfl, rfl⟩⟩
