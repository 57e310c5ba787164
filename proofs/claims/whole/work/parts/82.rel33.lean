/-! each call of the class beside the same call of the reference: nodes that are there -/
theorem rl_zb {p q : Prop} [Decidable p] [Decidable q] (h : p ↔ q) : zb_n p = zb_n q := by
  unfold zb_n
  by_cases hp : p
  · rw [if_pos hp, if_pos (h.mp hp)]
  · rw [if_neg hp, if_neg (fun z => hp (h.mpr z))]
theorem rl_z {Y : wx_S} {c k : Nat} (h : c ≠ 136) : wx_u Y 136 0 0 c k = Y c k := wx_u_nc h
theorem rl_zk {Y : wx_S} {k : Nat} (h : k ≠ 0) : wx_u Y 136 0 0 136 k = Y 136 k := wx_u_nk h
theorem rl_hst {A B : wx_S} (h : rl_R A B) : ∀ i, i < 4 → B 192 i < 4294967296 := fun i hi => by have := (h.2 i hi).1.1.2.1.2; omega
theorem rl_hsa {A B : wx_S} {r : Nat} (hr : r < 4) (h : rl_R A B) : A (64 + r) 8 < 4294967296 := by rw [rl_up hr h]; exact rl_hst h r hr
theorem rl_hnn {A B : wx_S} (h : rl_R A B) : B 136 1 ≤ 40 := h.1.2.2.2.2.1.2.1
theorem rl_hvv {A B : wx_S} (h : rl_R A B) : B 136 7 ≤ 90 := h.1.2.2.2.2.1.1
theorem rl_eT {A B : wx_S} (h : rl_R A B) : A 4 3 = B 136 1 := h.1.1.1
theorem rl_eV {A B : wx_S} (h : rl_R A B) : A 20 5 = B 136 7 := h.1.2.1.1
theorem rl_eM {A B : wx_S} (h : rl_R A B) : A 44 3 = B 136 13 := h.1.2.2.1.1
theorem rl_hfl {A B : wx_S} (h : rl_R A B) : A 0 4 < 4294967296 := by
  have f := h.1.2.2.2.1
  rcases f with f | f
  · omega
  · omega
theorem rl_dlC {A B : wx_S} {r k : Nat} (hr : r < 4) (h : rl_R A B) : zc_dlC A r k ↔ zm_dlC B r k := by
  have a := rl_eM h
  have b := rl_up hr h
  unfold zc_dlC zm_dlC
  rw [a, b]
  omega
theorem rl_tcC {A B : wx_S} {r : Nat} (hr : r < 4) (h : rl_R A B) : zc_tcC A r ↔ zm_tcC B r := by
  unfold zc_tcC zm_tcC
  rw [rl_eM h, rl_up hr h]
theorem rl_p_submit {X : wx_S} (h : rl_all X X) {r f t a : Nat} (hr : r < 4) (hf : f < 4294967296) (ht : t < 4294967296) (ha : a < 4294967296) (hup : X (64 + r) 8 = 1) : rl_pair (some .int) [.int (nI r), .int (nI f), .int (nI t), .int (nI a)] yy_Le_submit cc_Le_submit 7 5 yy_Mo_submit cc_Mo_submit 5 4 X := by
  have x := (h.1.2 r hr).1.2.1
  have nn := rl_hnn h.1
  have eT := rl_eT h.1
  refine rl_mk (zc_sub X r f t a).1 (zc_sub X r f t a).2 h (fun e => by cases e) (mm_Le_submit X r hr f t a hf ht ha hup (by omega) (by rcases x with x | x <;> omega) (h.1.2 r hr).1.1.2.2.2.2.2.2.1 (fun q => ?_)) (rl_fA_sub hr) (fun Y hY hZ => ?_)
  · have := rl_qle (h.1.2 r hr).1.2.2.1
    omega
  · have u : Y 192 r = 1 := (rl_up hr hY.1).symm.trans hup
    have u2 : wx_u Y 136 0 0 192 r ≠ 2 := by rw [rl_z (by decide)]; omega
    have y := (hY.1.2 r hr).1.2.1
    refine ⟨(zm_sub (wx_u Y 136 0 0) r f t a).2, ?_, rl_fB_sub, rl_subA hr hZ u2⟩
    rw [(rl_sSub hr hZ.1 u2).1]
    exact mm_Mo_submit Y r hr f t a hf ht ha (rl_hst hY.1) u (rl_hnn hY.1) (by rcases y with y | y <;> omega)
theorem rl_p_deliver {X : wx_S} (h : rl_all X X) {r k : Nat} (hr : r < 4) (hk : k < 4294967296) : rl_pair (some .boolean) [.int (nI k), .int (nI r)] yy_Le_deliver cc_Le_deliver 4 8 yy_Mo_deliver cc_Mo_deliver 3 7 X := by
  have eM := rl_eM h.1
  refine rl_mk (zb_n (zc_dlC X r k)) (if zc_dlC X r k then zc_take X r k else X) h (fun _ => rl_zb_le) (mm_Le_deliver X r hr k hk (rl_zcV h.1) (rl_zcN hr h.1) (fun j hj => ?_) (rl_hsa hr h.1) (fun _ => rl_hw hr h.1) (by rw [eM]; exact h.2.2.2) (rl_IA r) (rl_IA0 hr) (rl_IAs hr) (fun hc => ?_)) ?_ (fun Y hY hZ => ?_)
  · rw [eM] at hj
    have x := h.1.1.2.2.1.2 j hj
    have y := h.1.1.2.2.2.2.2.2.2.2.1 j hj
    rw [x.1, x.2.1, x.2.2, rl_eV h.1]
    exact ⟨y.1, y.2.1, y.2.2⟩
  · have c := (rl_dlC hr h.1).mp hc
    refine ⟨zm_tk X r k, rl_tk hr h.1 (by have := c.1; omega) c.2.1, rl_cl_tk hr h.2.1, Or.inl ?_⟩
    have := rl_ms_tk (B := X) (r := r) (m := k)
    have := c.2.2
    omega
  · split
    · exact rl_fA_take hr
    · exact fun _ _ _ => rfl
  · have e := rl_dlC (k := k) hr hY.1
    have m := fun t => mm_Mo_deliver Y r hr k hk (rl_hst hY.1) hY.2.2.2 t
    by_cases hc : zm_dlC Y r k
    · have u1 : wx_u Y 136 0 0 192 r = 1 := (rl_z (by decide)).trans hc.1
      have u2 : k < wx_u Y 136 0 0 136 13 := by rw [rl_zk (by decide)]; exact hc.2.1
      have u3 : wx_u Y 136 0 0 136 13 < 800 := by rw [rl_zk (by decide)]; exact hc.2.2
      have m' := m (fun _ => rl_Mo_take hr hZ.1 hZ.2.2.1 u1 u2 u3)
      refine ⟨zm_take (wx_u Y 136 0 0) r k, ?_, rl_fB_take, ?_⟩
      · rw [rl_zb e]; rw [if_pos hc] at m'; exact m'
      · rw [if_pos (e.mpr hc)]; exact rl_takeA hr hZ (by omega) u2 u3
    · have m' := m (fun q => absurd q hc)
      refine ⟨wx_u Y 136 0 0, ?_, rl_fB_id, ?_⟩
      · rw [rl_zb e]; rw [if_neg hc] at m'; exact m'
      · rw [if_neg (fun q => hc (e.mp q))]; exact hZ
def rl_JA (X : wx_S) : Prop := ∃ B, rl_all X B
def rl_JB (Y : wx_S) : Prop := ∃ A, rl_all A Y
theorem rl_mkA {A B : wx_S} {r : Nat} (hr : r < 4) (h : rl_all A B) (hv : B 220 r + 1 ≤ 802) : rl_all (wx_u A (64 + r) 9 (B 220 r + 1)) (wx_u B 220 r (B 220 r + 1)) :=
  ⟨rl_sMark (v := B 220 r + 1) hr h.1 (by omega), rl_cl_ext (fun c k hc => wx_u_nc (by omega)) h.2.1, rl_mo_u (by decide) (by decide) (by omega) h.2.2.1, by rw [wx_u_nc (by decide)]; exact h.2.2.2⟩
theorem rl_p_pump {X : wx_S} (h : rl_all X X) {r N : Nat} (hr : r < 4) (hN : N < 4294967296) (hup : X (64 + r) 8 = 1) : rl_pair (some .int) [.int (nI r), .int (nI N)] yy_Le_pump cc_Le_pump 5 8 yy_Mo_pump cc_Mo_pump 4 7 X := by
  refine rl_mk (if 1 ≤ N ∧ N ≤ 50 then (zc_pm r N X).1 else 4294967295) (if 1 ≤ N ∧ N ≤ 50 then (zc_pm r N X).2 else X) h (fun e => by cases e) (mm_Le_pump X r hr N hN hup rl_JA (fun Z ⟨B, g⟩ => ?_) (fun Z ⟨B, g⟩ hc => ?_) ⟨X, h⟩) ?_ (fun Y hY hZ => ?_)
  · have g1 := (g.1.2 r hr).1.1
    refine ⟨rl_hsa hr g.1, by rw [rl_eM g.1]; exact g.2.2.2, by rw [g1.2.2.1.1]; exact g1.2.2.1.2⟩
  · have c := (rl_pmC hr g.1).mp hc
    have e9 := (g.1.2 r hr).1.1.2.2.1.1
    have c1 := c.1
    have c2 := c.2.1
    have c3 := c.2.2
    have q := rl_mkA hr g (by omega)
    refine ⟨?_, zm_pmS B r, rl_pmSA hr g c⟩
    unfold zc_pmS
    rw [e9]
    exact rl_Re_take hr q.1 q.2.1 (by rw [wx_u_nc (by decide)]; exact c1) (by rw [wx_u_nc (by decide)]; exact c2) (by rw [wx_u_nc (by decide)]; exact c3)
  · split
    · exact rl_fA_pm hr N X
    · exact fun _ _ _ => rfl
  · have u : Y 192 r = 1 := (rl_up hr hY.1).symm.trans hup
    have m := mm_Mo_pump Y r hr N hN (rl_hst hY.1) u rl_JB (fun Z ⟨B, g⟩ => by
      have g1 := (g.1.2 r hr).1.1
      exact ⟨rl_hst g.1 r hr, g.2.2.2, g1.2.2.1.2⟩) (fun Z ⟨B, g⟩ c => by
      have c1 := c.1
      have c2 := c.2.1
      have c3 := c.2.2
      have q := rl_mkA hr g (by omega)
      refine ⟨?_, zc_pmS B r, rl_pmSA hr g c⟩
      unfold zm_pmS
      exact rl_Mo_take hr q.1 q.2.2.1 (by rw [wx_u_nc (by decide)]; exact c1) (by rw [wx_u_nc (by decide)]; exact c2) (by rw [wx_u_nc (by decide)]; exact c3)) ⟨X, hZ⟩
    have z := rl_pmA hr N X (wx_u Y 136 0 0) hZ
    by_cases hn : 1 ≤ N ∧ N ≤ 50
    · rw [if_pos hn] at m ⊢
      rw [if_pos hn, z.1]
      rw [if_pos hn] at m
      exact ⟨_, m, rl_fB_pm N _, z.2⟩
    · rw [if_neg hn] at m ⊢
      rw [if_neg hn]
      rw [if_neg hn] at m
      exact ⟨_, m, rl_fB_id, hZ⟩
theorem rl_p_tick {X : wx_S} (h : rl_all X X) {r : Nat} (hr : r < 4) : rl_pair (some .boolean) [.int (nI r)] yy_Le_tick cc_Le_tick 3 8 yy_Mo_tick cc_Mo_tick 2 7 X := by
  have S := (h.1.2 r hr).1.1
  refine rl_mk (zb_n (zc_tcC X r)) (if zc_tcC X r then zc_tick X r else X) h (fun _ => rl_zb_le) (mm_Le_tick X r hr (rl_hsa hr h.1) (by rw [rl_eM h.1]; exact h.2.2.2) (by rw [S.2.2.2.1.1]; exact S.2.2.2.1.2) (rl_IA r) (rl_IA0 hr) (rl_IAs hr) (fun hc => ?_)) ?_ (fun Y hY hZ => ?_)
  · have q := rl_tmA hr h
    have c := ((rl_tcC hr h.1).mp hc).2
    exact ⟨zm_tm X r, q.1, q.2.1, Or.inl (by unfold zm_tm; rw [wx_u_nc (by decide)]; omega)⟩
  · split
    · exact rl_fA_tick hr
    · exact fun _ _ _ => rfl
  · have e := rl_tcC hr hY.1
    have SY := (hY.1.2 r hr).1.1.2.2.2.1.2
    have m := fun t => mm_Mo_tick Y r hr (rl_hst hY.1) hY.2.2.2 (by omega) t
    by_cases hc : zm_tcC Y r
    · have u3 : wx_u Y 136 0 0 136 13 < 800 := by rw [rl_zk (by decide)]; exact hc.2
      have m' := m (fun _ => rl_Mo_act hr (rl_tmA hr hZ).1 (by unfold zm_tm; rw [wx_u_nc (by decide)]; omega))
      refine ⟨zm_act (zm_tm (wx_u Y 136 0 0) r) r, ?_, rl_fB_tr (rl_fB_u (by decide)) rl_fB_act, ?_⟩
      · rw [rl_zb e]; rw [if_pos hc] at m'; exact m'
      · rw [if_pos (e.mpr hc)]; exact rl_tickA hr hZ u3
    · have m' := m (fun q => absurd q hc)
      refine ⟨wx_u Y 136 0 0, ?_, rl_fB_id, ?_⟩
      · rw [rl_zb e]; rw [if_neg hc] at m'; exact m'
      · rw [if_neg (fun q => hc (e.mp q))]; exact hZ
theorem rl_p_crash {X : wx_S} (h : rl_all X X) {r : Nat} (hr : r < 4) : rl_pair (some .boolean) [.int (nI r)] yy_Le_crash cc_Le_crash 3 4 yy_Mo_crash cc_Mo_crash 2 4 X := by
  refine rl_mk (zb_n (X (64 + r) 8 = 1)) (if X (64 + r) 8 = 1 then zc_goDown X r else X) h (fun _ => rl_zb_le) (mm_Le_crash X r hr (rl_hsa hr h.1)) ?_ (fun Y hY hZ => ?_)
  · split
    · exact rl_fA_gd hr
    · exact fun _ _ _ => rfl
  · have e : X (64 + r) 8 = 1 ↔ Y 192 r = 1 := by rw [rl_up hr hY.1]
    have m := mm_Mo_crash Y r hr (rl_hst hY.1)
    by_cases hc : Y 192 r = 1
    · refine ⟨zm_fall (wx_u Y 136 0 0) r, ?_, rl_fB_fa, ?_⟩
      · rw [rl_zb e]; rw [if_pos hc] at m; exact m
      · rw [if_pos (e.mpr hc)]; exact rl_crashA hr hZ (by rw [rl_z (by decide)]; omega)
    · refine ⟨wx_u Y 136 0 0, ?_, rl_fB_id, ?_⟩
      · rw [rl_zb e]; rw [if_neg hc] at m; exact m
      · rw [if_neg (fun q => hc (e.mp q))]; exact hZ
theorem rl_p_restart {X : wx_S} (h : rl_all X X) {r : Nat} (hr : r < 4) : rl_pair (some .boolean) [.int (nI r)] yy_Le_restart cc_Le_restart 3 7 yy_Mo_restart cc_Mo_restart 2 6 X := by
  refine rl_mk (zb_n (X (64 + r) 8 = 0)) (if X (64 + r) 8 = 0 then zc_restart X r else X) h (fun _ => rl_zb_le) (mm_Le_restart X r hr (rl_hsa hr h.1) (by rw [rl_eM h.1]; exact h.2.2.2) (rl_IA r) (rl_IA0 hr) (rl_IAs hr) (fun h0 hm => ?_)) ?_ (fun Y hY hZ => ?_)
  · have q := rl_upA hr h ((rl_up hr h.1).symm.trans h0)
    rw [rl_eM h.1] at hm
    exact ⟨wx_u X 192 r 1, q.1, q.2.1, Or.inl (by rw [wx_u_nc (by decide)]; omega)⟩
  · split
    · exact rl_fA_rs hr
    · exact fun _ _ _ => rfl
  · have e : X (64 + r) 8 = 0 ↔ Y 192 r = 0 := by rw [rl_up hr hY.1]
    by_cases hc : Y 192 r = 0
    · have c' : wx_u Y 136 0 0 192 r = 0 := (rl_z (by decide)).trans hc
      have m := mm_Mo_restart Y r hr (rl_hst hY.1) hY.2.2.2 (fun _ h8 => rl_Mo_act hr (rl_upA hr hZ c').1 (by rw [wx_u_nc (by decide), rl_zk (by decide)]; omega))
      refine ⟨zm_restart (wx_u Y 136 0 0) r, ?_, rl_fB_rs, ?_⟩
      · rw [rl_zb e]; rw [if_pos hc] at m; exact m
      · rw [if_pos (e.mpr hc)]; exact rl_restartA hr hZ c'
    · have m := mm_Mo_restart Y r hr (rl_hst hY.1) hY.2.2.2 (fun q => absurd q hc)
      refine ⟨wx_u Y 136 0 0, ?_, rl_fB_id, ?_⟩
      · rw [rl_zb e]; rw [if_neg hc] at m; exact m
      · rw [if_neg (fun q => hc (e.mp q))]; exact hZ
theorem rl_p_cut {X : wx_S} (h : rl_all X X) {r k : Nat} (hr : r < 4) (hk : k < 4294967296) : rl_pair (some .boolean) [.int (nI r), .int (nI k)] yy_Le_cut cc_Le_cut 4 2 yy_Mo_cut cc_Mo_cut 3 4 X := by
  refine rl_mk (zb_n (k < 2147483648 ∧ X (64 + r) 8 = 1)) (if k < 2147483648 ∧ X (64 + r) 8 = 1 then wx_u (wx_u X (64 + r) 11 1) (64 + r) 12 k else X) h (fun _ => rl_zb_le) (mm_Le_cut X r hr k hk (rl_hsa hr h.1)) ?_ (fun Y hY hZ => ?_)
  · split
    · exact rl_fA_tr (rl_fA_u (by omega)) (rl_fA_u (by omega))
    · exact fun _ _ _ => rfl
  · have e : (k < 2147483648 ∧ X (64 + r) 8 = 1) ↔ (k < 2147483648 ∧ Y 192 r = 1) := by rw [rl_up hr hY.1]
    have m := mm_Mo_cut Y r hr k hk (rl_hst hY.1)
    by_cases hc : k < 2147483648 ∧ Y 192 r = 1
    · refine ⟨wx_u (wx_u Y 136 0 0) 200 r k, ?_, rl_fB_u (by decide), ?_⟩
      · rw [rl_zb e]; rw [if_pos hc] at m; exact m
      · rw [if_pos (e.mpr hc)]; exact rl_cutA hr hZ hc.1
    · refine ⟨wx_u Y 136 0 0, ?_, rl_fB_id, ?_⟩
      · rw [rl_zb e]; rw [if_neg hc] at m; exact m
      · rw [if_neg (fun q => hc (e.mp q))]; exact hZ
theorem rl_p_corrupt {X : wx_S} (h : rl_all X X) {r : Nat} (hr : r < 4) : rl_pair (some .boolean) [.int (nI r)] yy_Le_corrupt cc_Le_corrupt 3 2 yy_Mo_corrupt cc_Mo_corrupt 2 4 X := by
  refine rl_mk (zb_n (X 0 4 = 4294967295)) (if X 0 4 = 4294967295 then wx_u (wx_u X (64 + r) 8 2) 0 4 r else X) h (fun _ => rl_zb_le) (mm_Le_corrupt X r hr (rl_hfl h.1)) ?_ (fun Y hY hZ => ?_)
  · split
    · exact rl_fA_tr (rl_fA_u (by omega)) (rl_fA_u (by omega))
    · exact fun _ _ _ => rfl
  · have e : X 0 4 = 4294967295 ↔ zm_fl Y = 4294967295 := by rw [rl_fl hY.1.1.2.2.2.1]
    have m := mm_Mo_corrupt Y r hr (rl_hst hY.1)
    by_cases hc : zm_fl Y = 4294967295
    · refine ⟨zm_corrupt (wx_u Y 136 0 0) r, ?_, rl_fB_cor, ?_⟩
      · rw [rl_zb e]; rw [if_pos hc] at m; exact m
      · rw [if_pos (e.mpr hc)]; exact rl_corA hr hZ (e.mpr hc)
    · refine ⟨wx_u Y 136 0 0, ?_, rl_fB_id, ?_⟩
      · rw [rl_zb e]; rw [if_neg hc] at m; exact m
      · rw [if_neg (fun q => hc (e.mp q))]; exact hZ
theorem rl_p_forge {X : wx_S} (h : rl_all X X) {w q a b : Nat} (hw : w < 4294967296) (hq : q < 4294967296) (ha : a < 4294967296) (hb : b < 4294967296) : rl_pair (some .int) [.int (nI w), .int (nI q), .int (nI a), .int (nI b)] yy_Le_forge cc_Le_forge 6 3 yy_Mo_forge cc_Mo_forge 6 3 X := by
  refine rl_mk (if zc_fgC X w q a b then X 20 5 else 4294967295) (if zc_fgC X w q a b then zc_forge X w q a b else X) h (fun e => by cases e) (mm_Le_forge X w q a b hw hq ha hb (rl_hfl h.1) (by rw [rl_eT h.1]; exact rl_hnn h.1) (by rw [rl_eV h.1]; exact rl_hvv h.1) (by rw [rl_eM h.1]; exact h.2.2.2)) ?_ (fun Y hY hZ => ?_)
  · split
    · exact rl_fA_fg
    · exact fun _ _ _ => rfl
  · have e := rl_fgC (w := w) (q := q) (a := a) (b := b) hY.1
    have e2 := rl_fgC (w := w) (q := q) (a := a) (b := b) hZ.1
    have m := mm_Mo_forge Y w q a b hw hq ha hb (rl_hst hY.1) hY.2.2.2 (rl_hvv hY.1) (rl_hnn hY.1)
    by_cases hc : zm_fgC Y w q a b
    · rw [if_pos hc, if_pos hc] at m
      rw [if_pos (e.mpr hc), if_pos (e.mpr hc), rl_eV hY.1]
      exact ⟨_, m, rl_fB_fg, rl_forgeA hZ (e2.mp (e.mpr hc))⟩
    · rw [if_neg hc, if_neg hc] at m
      rw [if_neg (fun q => hc (e.mp q)), if_neg (fun q => hc (e.mp q))]
      exact ⟨_, m, rl_fB_id, hZ⟩
theorem rl_p_send {X : wx_S} (h : rl_all X X) {k u : Nat} (hk : k < 4294967296) (hu : u < 4294967296) : rl_pair (some .int) [.int (nI k), .int (nI u)] yy_Le_send cc_Le_send 3 2 yy_Mo_send cc_Mo_send 3 3 X := by
  refine rl_mk (if zc_sdC X k u then X 44 3 else 4294967295) (if zc_sdC X k u then zc_post X k (X 0 4) u else X) h (fun e => by cases e) (mm_Le_send X k u hk hu (rl_hfl h.1) (by rw [rl_eT h.1]; exact rl_hnn h.1) (by rw [rl_eV h.1]; exact rl_hvv h.1) (by rw [rl_eM h.1]; exact h.2.2.2)) ?_ (fun Y hY hZ => ?_)
  · split
    · exact rl_fA_po
    · exact fun _ _ _ => rfl
  · have e := rl_sdC (k := k) (u := u) hY.1
    have e2 := rl_sdC (k := k) (u := u) hZ.1
    have m := mm_Mo_send Y k u hk hu (rl_hst hY.1) hY.2.2.2 (rl_hvv hY.1)
    by_cases hc : zm_sdC Y k u
    · rw [if_pos hc, if_pos hc] at m
      rw [if_pos (e.mpr hc), if_pos (e.mpr hc), rl_eM hY.1]
      refine ⟨_, m, rl_fB_say, ?_⟩
      rw [zm_fl_eq (X := Y) (Y := wx_u Y 136 0 0) (fun k => (rl_z (by decide)).symm)]
      exact rl_sendA hZ (e2.mp (e.mpr hc))
    · rw [if_neg hc, if_neg hc] at m
      rw [if_neg (fun q => hc (e.mp q)), if_neg (fun q => hc (e.mp q))]
      exact ⟨_, m, rl_fB_id, hZ⟩
theorem rl_fA_id {A : wx_S} : rl_fA A A := fun _ _ _ => rfl
theorem rl_p_message {X : wx_S} (h : rl_all X X) {k q : Nat} (hk : k < 4294967296) (hq : q < 4294967296) : rl_pair (some .int) [.int (nI k), .int (nI q)] yy_Le_message cc_Le_message 3 2 yy_Mo_message cc_Mo_message 3 2 X :=
  rl_mk (zc_msg X k q) X h (fun e => by cases e) (mm_Le_message X k q hk hq (by rw [rl_eM h.1]; exact h.2.2.2)) rl_fA_id (fun Y hY hZ => ⟨wx_u Y 136 0 0, by rw [rl_msg hY.1 k q]; exact mm_Mo_message Y k q hk hq hY.2.2.2, rl_fB_id, hZ⟩)
theorem rl_p_vertex {X : wx_S} (h : rl_all X X) {k q : Nat} (hk : k < 4294967296) (hq : q < 4294967296) : rl_pair (some .int) [.int (nI k), .int (nI q)] yy_Le_vertex cc_Le_vertex 3 2 yy_Mo_vertex cc_Mo_vertex 3 2 X :=
  rl_mk (zc_vtx X k q) X h (fun e => by cases e) (mm_Le_vertex X k q hk hq (by rw [rl_eV h.1]; exact rl_hvv h.1)) rl_fA_id (fun Y hY hZ => ⟨wx_u Y 136 0 0, by rw [rl_vtx hY.1 k q]; exact mm_Mo_vertex Y k q hk hq (rl_hvv hY.1), rl_fB_id, hZ⟩)
theorem rl_p_dag {X : wx_S} (h : rl_all X X) {r a w : Nat} (hr : r < 4) (ha : a < 4294967296) (hw : w < 4294967296) : rl_pair (some .int) [.int (nI r), .int (nI a), .int (nI w)] yy_Le_dag cc_Le_dag 5 2 yy_Mo_dag cc_Mo_dag 4 3 X := by
  refine rl_mk _ X h (fun e => by cases e) (mm_Le_dag X r hr a w ha hw) rl_fA_id (fun Y hY hZ => ⟨wx_u Y 136 0 0, ?_, rl_fB_id, hZ⟩)
  have m := mm_Mo_dag Y r hr a w ha hw
  by_cases hc : a < 4 ∧ 1 ≤ w ∧ w ≤ 14
  · rw [if_pos hc] at m ⊢
    rw [rl_dag hY.1 hr hc.2.1 hc.2.2 hc.1]
    exact m
  · rw [if_neg hc] at m ⊢
    exact m
theorem rl_p_at {X : wx_S} (h : rl_all X X) {r k : Nat} (hr : r < 4) (hk : k < 4294967296) : rl_pair (some .int) [.int (nI r), .int (nI k)] yy_Le_at cc_Le_at 4 2 yy_Mo_at cc_Mo_at 3 3 X := by
  have pos : ∀ {A B : wx_S}, rl_R A B → ∀ i, i < 4 → B 248 i ≤ 40 := fun {A B} g i hi => by
    have z := (g.2 i hi).2.2.2.1
    rw [z]
    exact zn_pop_le _ _
  refine rl_mk _ X h (fun e => by cases e) (mm_Le_at X r hr k hk (by rw [(rl_pos h.1 hr).1]; exact pos h.1 r hr)) rl_fA_id (fun Y hY hZ => ⟨wx_u Y 136 0 0, ?_, rl_fB_id, hZ⟩)
  have m := mm_Mo_at Y r hr k hk (pos hY.1)
  have p := rl_pos hY.1 hr
  rw [p.1]
  by_cases hc : k < Y 248 r
  · rw [if_pos hc] at m ⊢
    rw [p.2 k hc]
    exact m
  · rw [if_neg hc] at m ⊢
    exact m
theorem rl_p_balance {X : wx_S} (h : rl_all X X) {r k : Nat} (hr : r < 4) (hk : k < 4294967296) : rl_pair (some .int) [.int (nI r), .int (nI k)] yy_Le_balance cc_Le_balance 4 2 yy_Mo_balance cc_Mo_balance 3 3 X := by
  refine rl_mk _ X h (fun e => by cases e) (mm_Le_balance X r hr k hk) rl_fA_id (fun Y hY hZ => ⟨wx_u Y 136 0 0, ?_, rl_fB_id, hZ⟩)
  have m := mm_Mo_balance Y r hr k hk (rl_hst hY.1) (by have := hY.2.2.1.2; omega)
  by_cases hc : k < 4
  · rw [if_pos hc] at m ⊢
    rw [rl_bal hY.1 hr hc]
    exact m
  · rw [if_neg hc] at m ⊢
    exact m
theorem rl_p_node {X : wx_S} (h : rl_all X X) {r q : Nat} (hr : r < 4) (hq : q < 4294967296) : rl_pair (some .int) [.int (nI r), .int (nI q)] yy_Le_node cc_Le_node 4 2 yy_Mo_node cc_Mo_node 5 3 X := by
  refine rl_mk _ X h (fun e => by cases e) (mm_Le_node X r hr q hq (h.1.2 r hr).1.2.2.1.1) rl_fA_id (fun Y hY hZ => ⟨wx_u Y 136 0 0, ?_, rl_fB_id, hZ⟩)
  by_cases h5 : q = 5
  · subst h5
    have e : zc_node X r 5 = zm_sz (wx_u Y 136 0 0) r 15 := (hZ.1.2 r hr).1.2.2.2.2.2.2.1.2.2.2.2
    rw [e]
    exact mm_Mo_node5 Y r hr (rl_hnn hY.1) (fun k hk => by have := hY.1.1.2.2.2.2.2.1 k hk; have := rl_hvv hY.1; omega)
  · by_cases h7 : q = 7
    · subst h7
      have e : zc_node X r 7 = zm_ql (wx_u Y 136 0 0) r (Y 136 1) := by
        have z := rl_qlen (hZ.1.2 r hr).1.2.2.1
        rw [rl_zk (by decide)] at z
        exact z.symm
      rw [e]
      exact mm_Mo_node7 Y r hr (rl_hnn hY.1) (fun t ht => ⟨(hY.1.1.2.2.2.2.2.2.2.1 t ht).1, (hY.1.1.2.2.2.2.2.2.2.1 t ht).2.1⟩)
    · have e : zc_node X r q = zm_node Y r q := by
        have S := (hY.1.2 r hr).1.1
        have p := (rl_pos hY.1 hr).1
        unfold zc_node zm_node
        rw [S.2.1.1, S.2.2.1.1, S.2.2.2.1.1, S.2.2.2.2.1.1, S.2.2.2.2.2.1, S.2.2.2.2.2.2.2.1, p, if_neg h5, if_neg h7]
      rw [e]
      exact mm_Mo_node Y r hr (rl_hnn hY.1) q hq h5 h7
