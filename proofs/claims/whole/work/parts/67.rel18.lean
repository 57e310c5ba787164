/-! a message is taken -/
theorem rl_sBec {A B : wx_S} {r u : Nat} (hr : r < 4) (h : rl_R A B) (hup : B 192 r ≠ 2) (hu : u < B 136 7) : rl_R (zc_bec A r u) (zm_rdy B r u) := by
  have v := h.1.2.1.2 u hu
  have b := h.1.2.2.2.2.1.2.2.1 u hu
  have e := (((h.2 r hr).1.2.2.2.1 _ b.1).2 _ b.2.1 b.2.2.1).2
  unfold zc_bec zm_rdy
  rw [v.1, v.2.1]
  by_cases h0 : B 212 (zm_spot B r u) = 0
  · rw [if_neg (fun q => e.mp q h0), if_pos h0]
    exact rl_sAnR hr h hup hu h0
  · rw [if_pos (e.mpr h0), if_neg h0]
    exact h
theorem rl_tk {A B : wx_S} {r m : Nat} (hr : r < 4) (h : rl_R A B) (hup : B 192 r ≠ 2) (hm : m < B 136 13) : rl_R (zc_tk A r m) (zm_tk B r m) := by
  have x := h.1.2.2.1.2 m hm
  have y := h.1.2.2.2.2.2.2.2.2.1 m hm
  have v := h.1.2.1.2 _ y.2.2
  have b := h.1.2.2.2.2.1.2.2.1 _ y.2.2
  have h90 : B 136 7 ≤ 90 := h.1.2.2.2.2.1.1
  have hP := (h.2 r hr).1.2.2.2.2.1 (B 184 m) (by omega)
  unfold zc_tk zm_tk
  rw [x.1, x.2.1, x.2.2]
  by_cases h0 : B 188 m = 0
  · rw [if_pos h0, if_pos h0, zc_tkS, zm_tkS]
    have e := (((h.2 r hr).1.2.2.2.1 _ b.1).2 _ b.2.1 b.2.2.1).1
    have w := rl_wf h.1.2.1 y.2.2
    by_cases hc : B 180 m = B 160 (B 184 m) ∧ zm_wf B (B 184 m) ∧ B 208 (zm_spot B r (B 184 m)) = 0
    · rw [if_pos hc, if_pos ⟨by rw [v.1]; exact hc.1, w.mpr hc.2.1, fun q => e.mp (by rw [v.1, v.2.1] at q; exact q) hc.2.2⟩]
      exact rl_sAnE hr h hup y.2.2
    · rw [if_neg hc, if_neg (fun q => hc ⟨by rw [← v.1]; exact q.1, w.mp q.2.1, Classical.byContradiction (fun z => q.2.2 (by rw [v.1, v.2.1]; exact e.mpr z))⟩)]
      exact h
  · rw [if_neg h0, if_neg h0]
    by_cases h1 : B 188 m = 1
    · rw [if_pos h1, if_pos h1, zc_tkE, zm_tkE, hP.1.1]
      have r1 := rl_sNE hr h y.2.2 y.2.1
      by_cases h3 : 3 ≤ zn_ones (B 232 (90 * r + B 184 m) ||| 2 ^ B 180 m)
      · rw [if_pos h3, if_neg (by omega)]
        exact rl_sBec hr r1 (by rw [zm_nE, wx_u_nc (by decide)]; exact hup) (by rw [zm_nE, wx_u_nc (by decide)]; exact y.2.2)
      · rw [if_neg h3, if_pos (by omega)]
        exact r1
    · rw [if_neg h1, if_neg h1, zc_tkR, zm_tkR, hP.1.2]
      have r1 := (rl_sNR hr h y.2.2 y.2.1 ⟨m, hm, by omega, rfl, rfl⟩).1
      by_cases h3 : 2 ≤ zn_ones (B 236 (90 * r + B 184 m) ||| 2 ^ B 180 m)
      · rw [if_pos h3, if_neg (by omega)]
        exact rl_sBec hr r1 (by rw [zm_nR, wx_u_nc (by decide)]; exact hup) (by rw [zm_nR, wx_u_nc (by decide)]; exact y.2.2)
      · rw [if_neg h3, if_pos (by omega)]
        exact r1
theorem rl_take {A B : wx_S} {r m : Nat} (hr : r < 4) (h : rl_R A B) (hup : B 192 r ≠ 2) (hm : m < B 136 13) : rl_R (zc_take A r m) (zm_take B r m) := rl_act hr (rl_tk hr h hup hm)
/-- the mark moves on -/
theorem rl_sMark {A B : wx_S} {r v : Nat} (hr : r < 4) (h : rl_R A B) (hv : v ≤ 802) : rl_R (wx_u A (64 + r) 9 v) (wx_u B 220 r v) := by
  obtain ⟨h1, h2, _⟩ := (h.2 r hr).1
  refine rl_sSX hr h (fun c k a1 _ => wx_u_nc a1) (wx_u_nc (by omega)) (wx_u_nc (by omega)) (fun c k _ _ _ a4 => wx_u_nc a4) (fun c s hs => ?_) ?_ ?_
  · by_cases hc : c = 220
    · subst hc; exact Or.inl (wx_u_nk hs)
    · exact Or.inl (wx_u_nc hc)
  · unfold rl_S
    rw [wx_u_nk (k' := 0) (by decide), wx_u_nk (k' := 8) (by decide), wx_u_eq, wx_u_nk (k' := 10) (by decide), wx_u_nc (c' := 68 + r) (by omega), wx_u_nc (c' := 68 + r) (by omega), wx_u_nk (k' := 12) (by decide), wx_u_nc (c' := 124 + r) (by omega), wx_u_nc (c' := 192) (by decide), wx_u_eq, wx_u_nc (c' := 216) (by decide), wx_u_nc (c' := 204) (by decide), wx_u_nc (c' := 196) (by decide), wx_u_nc (c' := 224) (by decide)]
    exact ⟨h1.1, h1.2.1, ⟨rfl, hv⟩, h1.2.2.2⟩
  · unfold rl_X
    rw [wx_u_nk (k' := 11) (by decide), wx_u_nk (k' := 12) (by decide), wx_u_nc (by decide)]
    exact h2
theorem rl_pmC {A B : wx_S} {r : Nat} (hr : r < 4) (h : rl_R A B) : zc_pmC A r ↔ zm_pmC B r := by
  have h1 := (h.2 r hr).1.1
  rw [zc_pmC, zm_pmC, h1.2.1.1, h1.2.2.1.1, h.1.2.2.1.1]
  constructor
  · exact fun z => ⟨z.1, z.2.2, z.2.1⟩
  · exact fun z => ⟨z.1, z.2.2, z.2.1⟩
theorem rl_pmS {A B : wx_S} {r : Nat} (hr : r < 4) (h : rl_R A B) (hc : zm_pmC B r) : rl_R (zc_pmS A r) (zm_pmS B r) := by
  have h1 := (h.2 r hr).1.1
  have r1 := rl_sMark (v := B 220 r + 1) hr h (by have := hc.2; omega)
  unfold zc_pmS zm_pmS
  rw [h1.2.2.1.1]
  exact rl_take hr r1 (by rw [wx_u_nc (by decide)]; have := hc.1; omega) (by rw [wx_u_nc (by decide)]; exact hc.2.1)
theorem rl_pm {r : Nat} (hr : r < 4) : ∀ n A B, rl_R A B → (zc_pm r n A).1 = (zm_pm r n B).1 ∧ rl_R (zc_pm r n A).2 (zm_pm r n B).2
  | 0, A, B, h => ⟨rfl, h⟩
  | n + 1, A, B, h => by
    have e := rl_pmC hr h
    rw [zc_pm, zm_pm]
    by_cases hc : zm_pmC B r
    · rw [if_pos hc, if_pos (e.mpr hc)]
      have z := rl_pm hr n _ _ (rl_pmS hr h hc)
      exact ⟨by rw [z.1], z.2⟩
    · rw [if_neg hc, if_neg (fun q => hc (e.mp q))]
      exact ⟨rfl, h⟩
/-- time passes -/
theorem rl_tick {A B : wx_S} {r : Nat} (hr : r < 4) (h : rl_R A B) : rl_R (zc_tick A r) (zm_act (zm_tm B r) r) := by
  have h1 := (h.2 r hr).1.1
  unfold zc_tick zm_tm
  rw [h1.2.2.2.1.1]
  exact rl_act hr (rl_sTm hr h (by split <;> omega))
