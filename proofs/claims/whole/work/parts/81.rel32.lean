/-! every call keeps all of it -/
theorem rl_fA_sub {A : wx_S} {r f t a : Nat} (hr : r < 4) : rl_fA A (zc_sub A r f t a).2 := by
  unfold zc_sub
  split
  · split
    · exact rl_fA_gd hr
    · exact rl_fA_tr (rl_fA_wr hr) (fun c k hc => by dsimp only; rw [wx_u_nc (by omega), wx_u_nc (by omega), wx_u_nc (by omega), wx_u_nc (by omega), wx_u_nc (by omega), wx_u_nc (by omega)])
  · exact fun _ _ _ => rfl
theorem rl_fB_sub {B : wx_S} {r f t a : Nat} : rl_fB B (zm_sub B r f t a).2 := by
  unfold zm_sub
  split
  · split
    · exact rl_fB_fa
    · exact rl_fB_tr rl_fB_wr (fun c k hc => by dsimp only; rw [wx_u_ne (by omega), wx_u_nc (by omega), wx_u_nc (by omega), wx_u_nc (by omega), wx_u_nc (by omega)])
  · exact rl_fB_id
theorem rl_fa13 {B : wx_S} {r k : Nat} : zm_fall B r 136 k = B 136 k := zm_fa_oth B r _ (by decide) (by decide) (by decide) (by decide) (by decide) (by decide) (by decide) (by decide) (by decide) (by decide) (by decide)
theorem rl_crashA {A B : wx_S} {r : Nat} (hr : r < 4) (h : rl_all A B) (hup : B 192 r ≠ 2) : rl_all (zc_goDown A r) (zm_fall B r) :=
  ⟨rl_sFall hr h.1 hup, rl_cl_gd hr h.2.1, rl_mo_fa h.2.2.1, by rw [rl_fa13]; exact h.2.2.2⟩
theorem rl_subA {A B : wx_S} {r f t a : Nat} (hr : r < 4) (h : rl_all A B) (hup : B 192 r ≠ 2) : rl_all (zc_sub A r f t a).2 (zm_sub B r f t a).2 := by
  refine ⟨(rl_sSub hr h.1 hup).2, ?_, ?_, ?_⟩
  · unfold zc_sub
    split
    · split
      · exact rl_cl_gd hr h.2.1
      · exact rl_cl_ext (fun c k hc => by dsimp only; rw [wx_u_nc (by omega), wx_u_nc (by omega), wx_u_nc (by omega), wx_u_nc (by omega), wx_u_nc (by omega), wx_u_nc (by omega), zc_wrote_oth A r k (by omega) (by omega)]) h.2.1
    · exact h.2.1
  · unfold zm_sub
    split
    · split
      · exact rl_mo_fa h.2.2.1
      · exact rl_mo_ext (fun c k hc => by dsimp only; rw [wx_u_nc (by omega), wx_u_nc (by omega), wx_u_nc (by omega), wx_u_nc (by omega), wx_u_nc (by omega), zm_wrote_oth B r k (by omega) (by omega)]) (by dsimp only; rw [wx_u_nk (by decide), wx_u_nc (by decide), wx_u_nc (by decide), wx_u_nc (by decide), wx_u_nc (by decide), zm_wrote_oth B r _ (by decide) (by decide)]) h.2.2.1
    · exact h.2.2.1
  · unfold zm_sub
    split
    · split
      · dsimp only; rw [rl_fa13]; exact h.2.2.2
      · dsimp only; rw [wx_u_nk (by decide), wx_u_nc (by decide), wx_u_nc (by decide), wx_u_nc (by decide), wx_u_nc (by decide), zm_wrote_oth B r _ (by decide) (by decide)]; exact h.2.2.2
    · exact h.2.2.2
theorem rl_fA_up {A : wx_S} {r : Nat} (hr : r < 4) : rl_fA A (zc_up A r) := fun c k hc => zc_up_oth A r (by omega) (by omega)
theorem rl_fA_rs {A : wx_S} {r : Nat} (hr : r < 4) : rl_fA A (zc_restart A r) := by
  unfold zc_restart
  split
  · exact rl_fA_tr (rl_fA_up hr) (rl_fA_act hr)
  · exact rl_fA_up hr
theorem rl_fB_rs {B : wx_S} {r : Nat} : rl_fB B (zm_restart B r) := by
  unfold zm_restart
  split
  · exact rl_fB_tr (rl_fB_u (by decide)) rl_fB_act
  · exact rl_fB_u (by decide)
theorem rl_upA {A B : wx_S} {r : Nat} (hr : r < 4) (h : rl_all A B) (h0 : B 192 r = 0) : rl_all (zc_up A r) (wx_u B 192 r 1) :=
  ⟨rl_sUp hr h.1 h0, rl_cl_ext (fun c k hc => zc_up_oth A r (by omega) (by omega)) h.2.1, rl_mo_u (by decide) (by decide) (by omega) h.2.2.1, by rw [wx_u_nc (by decide)]; exact h.2.2.2⟩
theorem rl_restartA {A B : wx_S} {r : Nat} (hr : r < 4) (h : rl_all A B) (h0 : B 192 r = 0) : rl_all (zc_restart A r) (zm_restart B r) := by
  have u := rl_upA hr h h0
  unfold zc_restart zm_restart
  rw [h.1.1.2.2.1.1]
  by_cases hm : B 136 13 < 800
  · rw [if_pos hm, if_pos hm]
    exact rl_actA hr u.1 u.2.1 u.2.2.1 (by rw [wx_u_nc (by decide)]; omega)
  · rw [if_neg hm, if_neg hm]; exact u
theorem rl_fA_tick {A : wx_S} {r : Nat} (hr : r < 4) : rl_fA A (zc_tick A r) := rl_fA_tr (rl_fA_u (by omega)) (rl_fA_act hr)
theorem rl_tmA {A B : wx_S} {r : Nat} (hr : r < 4) (h : rl_all A B) : rl_all (wx_u A (64 + r) 10 (if A (64 + r) 10 < 3 then A (64 + r) 10 + 1 else 3)) (zm_tm B r) := by
  have h1 := (h.1.2 r hr).1.1
  unfold zm_tm
  rw [h1.2.2.2.1.1]
  exact ⟨rl_sTm hr h.1 (by split <;> omega), rl_cl_ext (fun c k hc => wx_u_nc (by omega)) h.2.1, rl_mo_u (by decide) (by decide) (by omega) h.2.2.1, by rw [wx_u_nc (by decide)]; exact h.2.2.2⟩
theorem rl_tickA {A B : wx_S} {r : Nat} (hr : r < 4) (h : rl_all A B) (h8 : B 136 13 < 800) : rl_all (zc_tick A r) (zm_act (zm_tm B r) r) := by
  have u := rl_tmA hr h
  exact rl_actA hr u.1 u.2.1 u.2.2.1 (by unfold zm_tm; rw [wx_u_nc (by decide)]; omega)
theorem rl_cutA {A B : wx_S} {r k : Nat} (hr : r < 4) (h : rl_all A B) (hk : k < 2147483648) : rl_all (wx_u (wx_u A (64 + r) 11 1) (64 + r) 12 k) (wx_u B 200 r k) :=
  ⟨rl_sCut hr h.1 hk, rl_cl_ext (fun c k hc => by rw [wx_u_nc (by omega), wx_u_nc (by omega)]) h.2.1, rl_mo_u (by decide) (by decide) (by omega) h.2.2.1, by rw [wx_u_nc (by decide)]; exact h.2.2.2⟩
theorem rl_zb_le {p : Prop} [Decidable p] : zb_n p ≤ 1 := by unfold zb_n; split <;> omega
theorem rl_corA {A B : wx_S} {r : Nat} (hr : r < 4) (h : rl_all A B) (h0 : A 0 4 = 4294967295) : rl_all (wx_u (wx_u A (64 + r) 8 2) 0 4 r) (zm_corrupt B r) := by
  refine ⟨rl_sCor hr h.1 h0, rl_cl_ext (fun c k hc => by rw [wx_u_nc (by omega), wx_u_nc (by omega)]) h.2.1, ⟨fun i => ?_, ?_⟩, ?_⟩
  · unfold zm_corrupt
    rw [wx_u_nc (c' := 208) (by decide), wx_u_nc (c' := 208) (by decide), wx_u_nc (c' := 212) (by decide), wx_u_nc (c' := 212) (by decide)]
    exact h.2.2.1.1 i
  · unfold zm_corrupt
    rw [wx_u_nc (by decide), wx_u_eq]
    exact rl_zb_le
  · unfold zm_corrupt
    rw [wx_u_nc (by decide), wx_u_nk (by decide)]
    exact h.2.2.2
theorem rl_fB_cor {B : wx_S} {r : Nat} : rl_fB B (zm_corrupt B r) := rl_fB_tr (fun c k hc => wx_u_ne (by omega)) (rl_fB_u (by decide))
theorem rl_forgeA {A B : wx_S} {w q a b : Nat} (h : rl_all A B) (hc : zm_fgC B w q a b) : rl_all (zc_forge A w q a b) (zm_forge B w q a b) := by
  refine ⟨rl_forge h.1 hc, rl_cl_po (rl_cl_va (by have := hc.2.2.2.1; omega) h.2.1), rl_mo_say (rl_mo_mk h.2.2.1), ?_⟩
  unfold zm_forge
  rw [(zm_sa _ _ _ _).2.1, zm_make_oth B _ w q a b (by decide) (by decide) (by decide) (by decide) (by decide) (by decide)]
  have := hc.2.2.2.2.2.2.2
  omega
theorem rl_fA_fg {A : wx_S} {w q a b : Nat} : rl_fA A (zc_forge A w q a b) := rl_fA_tr rl_fA_va rl_fA_po
theorem rl_fB_fg {B : wx_S} {w q a b : Nat} : rl_fB B (zm_forge B w q a b) := rl_fB_tr rl_fB_mk rl_fB_say
theorem rl_sendA {A B : wx_S} {k u : Nat} (h : rl_all A B) (hc : zm_sdC B k u) : rl_all (zc_post A k (A 0 4) u) (zm_say B (zm_fl B) u k) := by
  refine ⟨rl_send h.1 hc, rl_cl_po h.2.1, rl_mo_say h.2.2.1, ?_⟩
  rw [(zm_sa _ _ _ _).2.1]
  have := hc.2.2.2
  omega
