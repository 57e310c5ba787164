/-- the DAG stands on itself: the parents of what is in it are in it -/
def zm_C (X : wx_S) (r : Nat) : Prop := ∀ w, 2 ≤ w → w ≤ 14 → ∀ a, a < 4 → X 228 (60 * r + 4 * w + a) ≠ 0 → ∀ b, b < 4 → X 168 (X 228 (60 * r + 4 * w + a) - 1) / 2 ^ b % 2 = 1 → X 228 (60 * r + 4 * (w - 1) + b) ≠ 0
def zm_rp (Z : wx_S) (r k : Nat) : Nat → Nat
  | 0 => Z 256 (k - 1)
  | i + 1 => if Z 256 k / 2 ^ i % 2 = 1 then zm_rp Z r k i ||| Z 168 (Z 228 (60 * r + 4 * k + i) - 1) else zm_rp Z r k i
def zm_sw (Y : wx_S) (r w : Nat) : Nat → wx_S
  | 0 => Y
  | j + 1 => wx_u (zm_sw Y r w j) 256 (w - j - 1) (zm_rp (zm_sw Y r w j) r (w - j) 4)
def zm_spread (X : wx_S) (r w a : Nat) : wx_S := zm_sw (wx_u (zz_fill X 256 16 0) 256 w (2 ^ a)) r w (w - 1)
theorem zm_sw_oth (Y : wx_S) (r w : Nat) {c : Nat} (k : Nat) (h : c ≠ 256) : ∀ j, zm_sw Y r w j c k = Y c k
  | 0 => rfl
  | j + 1 => by rw [zm_sw, wx_u_nc h, zm_sw_oth Y r w k h j]
theorem zm_spread_oth (X : wx_S) (r w a : Nat) {c : Nat} (k : Nat) (h : c ≠ 256) : zm_spread X r w a c k = X c k := by
  rw [zm_spread, zm_sw_oth _ _ _ _ h, wx_u_nc h, zz_fill, if_neg (fun z => h z.1)]
theorem zm_or_bit {a b i : Nat} : (a ||| b) / 2 ^ i % 2 = 1 ↔ a / 2 ^ i % 2 = 1 ∨ b / 2 ^ i % 2 = 1 := by
  rw [zn_tb, zn_tb, zn_tb, Nat.testBit_or]; simp
/-- what is reached in round k is there, and is a set of four -/
def zm_R (X : wx_S) (r k q : Nat) : Prop := q < 16 ∧ ∀ i, i < 4 → q / 2 ^ i % 2 = 1 → X 228 (60 * r + 4 * k + i) ≠ 0
theorem zm_rp_R {Z : wx_S} {r k : Nat} (hr : r < 4) (hV : zm_V Z) (hD : zm_D Z) (hC : zm_C Z r) (h2 : 2 ≤ k) (hk : k ≤ 14) (hR : zm_R Z r k (Z 256 k)) (h0 : Z 256 (k - 1) = 0) : ∀ i, i ≤ 4 → zm_R Z r (k - 1) (zm_rp Z r k i)
  | 0, _ => by
    rw [zm_rp, h0]
    exact ⟨by decide, fun i _ h => by simp at h⟩
  | i + 1, hi => by
    have ih := zm_rp_R hr hV hD hC h2 hk hR h0 i (by omega)
    simp only [zm_rp]
    split
    · rename_i hb
      have hne := hR.2 i (by omega) hb
      have hd := hD (60 * r + 4 * k + i) (by omega)
      have hu := hV.2.2.1 (Z 228 (60 * r + 4 * k + i) - 1) (by omega)
      refine ⟨zn_or16 ih.1 hu.2.2.2.1, fun j hj hb2 => ?_⟩
      rcases zm_or_bit.mp hb2 with h | h
      · exact ih.2 j hj h
      · exact hC k h2 hk i (by omega) hne j hj h
    · exact ih
set_option maxRecDepth 100000 in
set_option maxHeartbeats 4000000 in
theorem lp_Mo_spread3 {p : Program} {l : Launch} {e : Env} {s : State} {m : MethodId} {args : Array Value} {below : List Frame} {meth : Method} {c : Code} {A : Nat → Prop} {g : wd_G} {G : State → Prop} (Z : wx_S) (r : Nat) (hr : r < 4) (w a k : Nat) (h2 : 2 ≤ k) (hk : k ≤ 14) (hV : zm_V Z) (hD : zm_D Z) (hR : zm_R Z r k (Z 256 k)) (C : cw_C p s m args meth c A wd_all g cc_Mo_spread 6 "DagLedgerModel" none)  (hend : cw_W p l e (cw_rm 1 0 0) s m args below meth c A wd_all g 0 0 G 6 109 [some (.ref 136), some (.int (nI r)), some (.int (nI w)), some (.int (nI a)), some (.int (nI k)), some (.int (nI (4)))] [] (wx_e (wx_u Z 256 (k - 1) (zm_rp Z r k (4)))) (wx_l (wx_u Z 256 (k - 1) (zm_rp Z r k (4))))) : ∀ (j i : Nat), i + j = 4 → cw_W p l e (cw_rm 1 0 0) s m args below meth c A wd_all g 0 0 G 6 45 [some (.ref 136), some (.int (nI r)), some (.int (nI w)), some (.int (nI a)), some (.int (nI k)), some (.int (nI (i)))] [] (wx_e (wx_u Z 256 (k - 1) (zm_rp Z r k (i)))) (wx_l (wx_u Z 256 (k - 1) (zm_rp Z r k (i)))) := by
  intro j
  induction j with
  | zero =>
    intro i hij
    refine cw_iload C dd_Mo_spread_45 rfl ?_
    refine cw_iconst (v := nI 4) C dd_Mo_spread_47 (by decide +kernel) ?_
    refine nw_icmp_ge (tgt := 109) C dd_Mo_spread_48 (by decide) (by first | omega | (simp [wx_u] <;> omega)) (by first | omega | (simp [wx_u] <;> omega)) (fun h48 => ?_) (fun h48 => ?_)
    · have hi : i = 4 := by omega
      rw [hi]
      exact hend
    · exact absurd h48 (by omega)
  | succ j ih =>
    intro i hij
    have g0 := hR.1
    have g1 := hD (60 * r + 4 * k + i) (by omega)
    have g2 := hV.1
    have s1 : wx_u Z 256 (k - 1) (zm_rp Z r k i) 256 k = Z 256 k := wx_u_nk (by omega)
    have s2 : wx_u Z 256 (k - 1) (zm_rp Z r k i) 256 (k - 1) = zm_rp Z r k i := wx_u_eq _ _ _ _
    have s3 : ∀ c q, c ≠ 256 → wx_u Z 256 (k - 1) (zm_rp Z r k i) c q = Z c q := fun c q hc => wx_u_nc hc
    refine cw_iload C dd_Mo_spread_45 rfl ?_
    refine cw_iconst (v := nI 4) C dd_Mo_spread_47 (by decide +kernel) ?_
    refine nw_icmp_ge (tgt := 109) C dd_Mo_spread_48 (by decide) (by first | omega | (simp [wx_u] <;> omega)) (by first | omega | (simp [wx_u] <;> omega)) (fun h48 => ?_) (fun h48 => ?_)
    · exact absurd h48 (by omega)
    · refine cw_aload_n C dd_Mo_spread_51 rfl ?_
      refine cw_getr (q' := 256) C wc_34 kF_Mo_98 is_34 (by decide) rfl dd_Mo_spread_52 rfl ?_
      refine cw_iload C dd_Mo_spread_55 rfl ?_
      refine nw_ialdv C (Z 256 k) is_64 (by omega) (by decide) dd_Mo_spread_57 s1 ?_
      refine cw_iload C dd_Mo_spread_58 rfl ?_
      refine nw_ishr C dd_Mo_spread_60 (by first | omega | (simp [wx_u] <;> omega)) (by first | omega | (simp [wx_u] <;> omega)) ?_
      refine cw_iconst (v := nI 1) C dd_Mo_spread_61 (by decide +kernel) ?_
      refine nw_iand1 C dd_Mo_spread_62 ?_
      refine cw_iconst (v := nI 1) C dd_Mo_spread_63 (by decide +kernel) ?_
      refine nw_icmp_ne (tgt := 103) C dd_Mo_spread_64 (by decide) (by first | omega | (simp [wx_u] <;> omega)) (by first | omega | (simp [wx_u] <;> omega)) (fun h64 => ?_) (fun h64 => ?_)
      · refine nw_iinc (b := 1) C dd_Mo_spread_103 (by decide +kernel) rfl (Nat.le_of_ble_eq_true rfl) ?_
        refine cw_goto (tgt := 45) C dd_Mo_spread_106 (by decide) ?_
        exact nw_eqX (by rw [show zm_rp Z r k (i + 1) = _ from if_neg h64]) (ih (i + 1) (by omega))
      · have g3 := hR.2 i (by omega) h64
        refine cw_aload_n C dd_Mo_spread_67 rfl ?_
        refine cw_getr (q' := 256) C wc_34 kF_Mo_98 is_34 (by decide) rfl dd_Mo_spread_68 rfl ?_
        refine cw_iload C dd_Mo_spread_71 rfl ?_
        refine cw_iconst (v := nI 1) C dd_Mo_spread_73 (by decide +kernel) ?_
        refine nw_isub C dd_Mo_spread_74 (by first | omega | (simp [wx_u] <;> omega)) ?_
        refine cw_dup2 C dd_Mo_spread_75 rfl rfl ?_
        refine nw_ialdv C (zm_rp Z r k i) is_64 (by omega) (by decide) dd_Mo_spread_76 s2 ?_
        refine cw_aload_n C dd_Mo_spread_77 rfl ?_
        refine cw_getr (q' := 168) C wc_34 kF_Mo_32 is_34 (by decide) rfl dd_Mo_spread_78 rfl ?_
        refine cw_aload_n C dd_Mo_spread_81 rfl ?_
        refine cw_getr (q' := 228) C wc_34 kF_Mo_77 is_34 (by decide) rfl dd_Mo_spread_82 rfl ?_
        refine cw_bipush (v := nI 60) C dd_Mo_spread_85 (by decide +kernel) ?_
        refine cw_iload_n C dd_Mo_spread_87 rfl ?_
        refine nw_imul C dd_Mo_spread_88 ?_
        refine cw_iconst (v := nI 4) C dd_Mo_spread_89 (by decide +kernel) ?_
        refine cw_iload C dd_Mo_spread_90 rfl ?_
        refine nw_imul C dd_Mo_spread_92 ?_
        refine nw_iadd C dd_Mo_spread_93 ?_
        refine cw_iload C dd_Mo_spread_94 rfl ?_
        refine nw_iadd C dd_Mo_spread_96 ?_
        refine nw_ialdv C (Z 228 (60 * r + 4 * k + i)) is_57 (by omega) (by decide) dd_Mo_spread_97 (s3 _ _ (by decide)) ?_
        refine cw_iconst (v := nI 1) C dd_Mo_spread_98 (by decide +kernel) ?_
        refine nw_isub C dd_Mo_spread_99 (by omega) ?_
        refine nw_ialdv C (Z 168 (Z 228 (60 * r + 4 * k + i) - 1)) is_42 (by omega) (by decide) dd_Mo_spread_100 (s3 _ _ (by decide)) ?_
        refine nw_ior C dd_Mo_spread_101 ?_
        refine nw_iast C is_64 (by first | omega | (simp [wx_u] <;> omega)) (by decide) dd_Mo_spread_102 ?_
        refine nw_iinc (b := 1) C dd_Mo_spread_103 (by decide +kernel) rfl (Nat.le_of_ble_eq_true rfl) ?_
        refine cw_goto (tgt := 45) C dd_Mo_spread_106 (by decide) ?_
        exact nw_eqX (by rw [wx_u_uu, show zm_rp Z r k (i + 1) = _ from if_pos h64]) (ih (i + 1) (by omega))
def zm_sI (Y : wx_S) (r w j : Nat) : Prop := zm_R Y r (w - j) (zm_sw Y r w j 256 (w - j)) ∧ ∀ k, k < w - j → zm_sw Y r w j 256 k = 0
theorem zm_R_ext {X Y : wx_S} {r k q : Nat} (e : ∀ i, Y 228 i = X 228 i) (h : zm_R X r k q) : zm_R Y r k q := ⟨h.1, fun i hi hb => by rw [e]; exact h.2 i hi hb⟩
theorem zm_C_ext {X Y : wx_S} {r : Nat} (e : ∀ c k, c = 168 ∨ c = 228 → Y c k = X c k) (h : zm_C X r) : zm_C Y r := fun w h1 h2 a ha hn b hb hq => by
  rw [e 228 _ (by omega)] at hn hq ⊢
  rw [e 168 _ (by omega)] at hq
  exact h w h1 h2 a ha hn b hb hq
theorem zm_sI_s {Y : wx_S} {r w : Nat} (hr : r < 4) (hw : w ≤ 14) (hV : zm_V Y) (hD : zm_D Y) (hC : zm_C Y r) {j : Nat} (hj : j + 1 < w) (h : zm_sI Y r w j) : zm_sI Y r w (j + 1) := by
  have e : ∀ c k, c ≠ 256 → zm_sw Y r w j c k = Y c k := fun c k hc => zm_sw_oth Y r w k hc j
  have h1 := zm_rp_R (Z := zm_sw Y r w j) (k := w - j) hr (zm_V_ext (fun c k hc => e c k (by omega)) hV) (zm_D_ext (fun c k hc => e c k (by omega)) hD) (zm_C_ext (fun c k hc => e c k (by omega)) hC) (by omega) (by omega) (zm_R_ext (fun i => e _ _ (by decide)) h.1) (h.2 (w - j - 1) (by omega)) 4 (Nat.le_refl _)
  refine ⟨?_, fun k hk => ?_⟩
  · rw [zm_sw, show w - (j + 1) = w - j - 1 by omega, wx_u_eq]
    exact zm_R_ext (fun i => (e _ _ (by decide)).symm) h1
  · rw [zm_sw, wx_u_nk (by omega)]
    exact h.2 k (by omega)
set_option maxRecDepth 100000 in
set_option maxHeartbeats 4000000 in
theorem lp_Mo_spread2 {p : Program} {l : Launch} {e : Env} {s : State} {m : MethodId} {args : Array Value} {below : List Frame} {meth : Method} {c : Code} {A : Nat → Prop} {g : wd_G} {G : State → Prop} (Y : wx_S) (r : Nat) (hr : r < 4) (w a : Nat) (hw1 : 1 ≤ w) (hw : w ≤ 14) (hV : zm_V Y) (hD : zm_D Y) (hC : zm_C Y r) (hI : ∀ j, j < w → zm_sI Y r w j) (C : cw_C p s m args meth c A wd_all g cc_Mo_spread 6 "DagLedgerModel" none)  (hend : ∀ z : Option Value, cw_W p l e (cw_rm 1 0 0) s m args below meth c A wd_all g 0 0 G 6 115 [some (.ref 136), some (.int (nI r)), some (.int (nI w)), some (.int (nI a)), some (.int (nI (w - ((w - 1))))), z] [] (wx_e (zm_sw Y r w ((w - 1)))) (wx_l (zm_sw Y r w ((w - 1))))) : ∀ (j i : Nat) (z : Option Value), i + j = (w - 1) → cw_W p l e (cw_rm 1 0 0) s m args below meth c A wd_all g 0 0 G 6 36 [some (.ref 136), some (.int (nI r)), some (.int (nI w)), some (.int (nI a)), some (.int (nI (w - (i)))), z] [] (wx_e (zm_sw Y r w (i))) (wx_l (zm_sw Y r w (i))) := by
  intro j
  induction j with
  | zero =>
    intro i z hij
    refine cw_iload C dd_Mo_spread_36 rfl ?_
    refine cw_iconst (v := nI 1) C dd_Mo_spread_38 (by decide +kernel) ?_
    refine nw_icmp_le (tgt := 115) C dd_Mo_spread_39 (by decide) (by first | omega | (simp [wx_u] <;> omega)) (by first | omega | (simp [wx_u] <;> omega)) (fun h39 => ?_) (fun h39 => ?_)
    · have hi : i = (w - 1) := by omega
      rw [hi]
      exact hend z
    · exact absurd h39 (by omega)
  | succ j ih =>
    intro i z hij
    have e : ∀ c k, c ≠ 256 → zm_sw Y r w i c k = Y c k := fun c k hc => zm_sw_oth Y r w k hc i
    refine cw_iload C dd_Mo_spread_36 rfl ?_
    refine cw_iconst (v := nI 1) C dd_Mo_spread_38 (by decide +kernel) ?_
    refine nw_icmp_le (tgt := 115) C dd_Mo_spread_39 (by decide) (by first | omega | (simp [wx_u] <;> omega)) (by first | omega | (simp [wx_u] <;> omega)) (fun h39 => ?_) (fun h39 => ?_)
    · exact absurd h39 (by omega)
    · refine cw_iconst (v := nI 0) C dd_Mo_spread_42 (by decide +kernel) ?_
      refine cw_istore C dd_Mo_spread_43 (Nat.le_of_ble_eq_true rfl) ?_
      refine nw_eqX (wx_u_id (zm_sw Y r w i) 256 (w - i - 1)).symm (lp_Mo_spread3 (zm_sw Y r w i) r hr w a (w - i) (by omega) (by omega) (zm_V_ext (fun c k hc => e c k (by omega)) hV) (zm_D_ext (fun c k hc => e c k (by omega)) hD) (zm_R_ext (fun i => e _ _ (by decide)) (hI i (by omega)).1) C ?_ 4 0 (by omega))
      refine nw_iincm (b := 1) C dd_Mo_spread_109 (by decide +kernel) rfl (by omega) (Nat.le_of_ble_eq_true rfl) ?_
      refine cw_goto (tgt := 36) C dd_Mo_spread_112 (by decide) ?_
      have e2 : w - i - 1 = w - (i + 1) := by omega
      have k9 := ih (i + 1)
      rw [← e2] at k9
      exact k9 _ (by omega)
set_option maxRecDepth 100000 in
set_option maxHeartbeats 4000000 in
theorem lp_Mo_spread1 {p : Program} {l : Launch} {e : Env} {s : State} {m : MethodId} {args : Array Value} {below : List Frame} {meth : Method} {c : Code} {A : Nat → Prop} {g : wd_G} {G : State → Prop} (X : wx_S) (r : Nat) (hr : r < 4) (w a : Nat) (C : cw_C p s m args meth c A wd_all g cc_Mo_spread 6 "DagLedgerModel" none)  (hend : cw_W p l e (cw_rm 1 0 0) s m args below meth c A wd_all g 0 0 G 6 24 [some (.ref 136), some (.int (nI r)), some (.int (nI w)), some (.int (nI a)), some (.int (nI (16))), none] [] (wx_e (zz_fill X 256 (16) 0)) (wx_l (zz_fill X 256 (16) 0))) : ∀ (j i : Nat), i + j = 16 → cw_W p l e (cw_rm 1 0 0) s m args below meth c A wd_all g 0 0 G 6 3 [some (.ref 136), some (.int (nI r)), some (.int (nI w)), some (.int (nI a)), some (.int (nI (i))), none] [] (wx_e (zz_fill X 256 (i) 0)) (wx_l (zz_fill X 256 (i) 0)) := by
  intro j
  induction j with
  | zero =>
    intro i hij
    refine cw_iload C dd_Mo_spread_3 rfl ?_
    refine cw_bipush (v := nI 16) C dd_Mo_spread_5 (by decide +kernel) ?_
    refine nw_icmp_ge (tgt := 24) C dd_Mo_spread_7 (by decide) (by first | omega | (simp [wx_u] <;> omega)) (by first | omega | (simp [wx_u] <;> omega)) (fun h7 => ?_) (fun h7 => ?_)
    · have hi : i = 16 := by omega
      rw [hi]
      exact hend
    · exact absurd h7 (by omega)
  | succ j ih =>
    intro i hij
    refine cw_iload C dd_Mo_spread_3 rfl ?_
    refine cw_bipush (v := nI 16) C dd_Mo_spread_5 (by decide +kernel) ?_
    refine nw_icmp_ge (tgt := 24) C dd_Mo_spread_7 (by decide) (by first | omega | (simp [wx_u] <;> omega)) (by first | omega | (simp [wx_u] <;> omega)) (fun h7 => ?_) (fun h7 => ?_)
    · exact absurd h7 (by omega)
    · refine cw_aload_n C dd_Mo_spread_10 rfl ?_
      refine cw_getr (q' := 256) C wc_34 kF_Mo_98 is_34 (by decide) rfl dd_Mo_spread_11 rfl ?_
      refine cw_iload C dd_Mo_spread_14 rfl ?_
      refine cw_iconst (v := nI 0) C dd_Mo_spread_16 (by decide +kernel) ?_
      refine nw_iast C is_64 (by first | omega | (simp [wx_u] <;> omega)) (by decide) dd_Mo_spread_17 ?_
      refine nw_iinc (b := 1) C dd_Mo_spread_18 (by decide +kernel) rfl (Nat.le_of_ble_eq_true rfl) ?_
      refine cw_goto (tgt := 3) C dd_Mo_spread_21 (by decide) ?_
      exact nw_eqX (zz_fill_s X 256 i 0) (ih (i + 1) (by omega))
theorem zm_sI_all {X : wx_S} {r w a : Nat} (hr : r < 4) (ha : a < 4) (hw1 : 1 ≤ w) (hw : w ≤ 14) (hV : zm_V X) (hD : zm_D X) (hC : zm_C X r) (hl : X 228 (60 * r + 4 * w + a) ≠ 0) : ∀ j, j < w → zm_sI (wx_u (zz_fill X 256 16 0) 256 w (2 ^ a)) r w j := by
  have e : ∀ c k, c ≠ 256 → wx_u (zz_fill X 256 16 0) 256 w (2 ^ a) c k = X c k := fun c k hc => by rw [wx_u_nc hc, zz_fill, if_neg (fun z => hc z.1)]
  intro j
  induction j with
  | zero =>
    intro _
    refine ⟨⟨?_, fun i hi hb => ?_⟩, fun k hk => ?_⟩
    · rw [zm_sw, Nat.sub_zero, wx_u_eq]; exact zn_pow4 ha
    · rw [zm_sw, Nat.sub_zero, wx_u_eq] at hb
      rw [e _ _ (by decide), Nat.sub_zero]
      have : i = a := by
        rw [zn_tb, Nat.testBit_two_pow] at hb
        have h9 : a = i := by simpa using hb
        exact h9.symm
      rw [this]; exact hl
    · rw [zm_sw, wx_u_nk (by omega), zz_fill, if_pos ⟨rfl, by omega⟩]
  | succ j ih =>
    intro hj
    exact zm_sI_s hr hw (zm_V_ext (fun c k hc => e c k (by omega)) hV) (zm_D_ext (fun c k hc => e c k (by omega)) hD) (zm_C_ext (fun c k hc => e c k (by omega)) hC) hj (ih (by omega))
set_option maxRecDepth 100000 in
set_option maxHeartbeats 4000000 in
theorem mm_Mo_spread (X : wx_S) (r : Nat) (hr : r < 4) (w a : Nat) (ha : a < 4) (hw1 : 1 ≤ w) (hw : w ≤ 14) (hV : zm_V X) (hD : zm_D X) (hC : zm_C X r) (hl : X 228 (60 * r + 4 * w + a) ≠ 0) : nw_M wd_all yy_Mo_spread cc_Mo_spread 6 none 1 0 0 [.ref 136, .int (nI r), .int (nI w), .int (nI a)] X (fun v X' => v = none ∧ X' = zm_spread X r w a) := by
  refine nw_of [some (.ref 136), some (.int (nI r)), some (.int (nI w)), some (.int (nI a)), none, none] (by decide +kernel) rfl (Nat.le_of_ble_eq_true rfl) rfl ?_
  intro p l e s m args below meth c A g C
  have eX : ∀ c k, c ≠ 256 → wx_u (zz_fill X 256 16 0) 256 w (2 ^ a) c k = X c k := fun c k hc => by rw [wx_u_nc hc, zz_fill, if_neg (fun z => hc z.1)]
  refine cw_iconst (v := nI 0) C dd_Mo_spread_0 (by decide +kernel) ?_
  refine cw_istore C dd_Mo_spread_1 (Nat.le_of_ble_eq_true rfl) ?_
  refine nw_eqX (zz_fill_0 X 256 0).symm (lp_Mo_spread1 X r hr w a C ?_ 16 0 (by omega))
  refine cw_aload_n C dd_Mo_spread_24 rfl ?_
  refine cw_getr (q' := 256) C wc_34 kF_Mo_98 is_34 (by decide) rfl dd_Mo_spread_25 rfl ?_
  refine cw_iload_n C dd_Mo_spread_28 rfl ?_
  refine cw_iconst (v := nI 1) C dd_Mo_spread_29 (by decide +kernel) ?_
  refine cw_iload_n C dd_Mo_spread_30 rfl ?_
  refine nw_ishl C dd_Mo_spread_31 (by first | omega | (simp [wx_u] <;> omega)) ?_
  rw [Nat.one_mul]
  refine nw_iast C is_64 (by first | omega | (simp [wx_u] <;> omega)) (by decide) dd_Mo_spread_32 ?_
  refine cw_iload_n C dd_Mo_spread_33 rfl ?_
  refine cw_istore C dd_Mo_spread_34 (Nat.le_of_ble_eq_true rfl) ?_
  refine lp_Mo_spread2 _ r hr w a hw1 hw (zm_V_ext (fun c k hc => eX c k (by omega)) hV) (zm_D_ext (fun c k hc => eX c k (by omega)) hD) (zm_C_ext (fun c k hc => eX c k (by omega)) hC) (zm_sI_all hr ha hw1 hw hV hD hC hl) C ?_ (w - 1) 0 _ (by omega)
  intro z
  exact cw_vreturn C dd_Mo_spread_115 (Nat.le_of_ble_eq_true rfl) (Nat.le_of_ble_eq_true rfl) ⟨_, rfl, rfl, ⟨rfl, rfl⟩⟩
