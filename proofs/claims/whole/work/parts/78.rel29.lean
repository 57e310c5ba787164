/-! the contracts of take and act, under the relation -/
theorem rl_cl_ans {A : wx_S} {r b k u : Nat} (hr : r < 4) (hb : b = 76 + r ∨ b = 80 + r) (h : rl_cl A) : rl_cl (zc_ans A r b k u) := by
  unfold zc_ans
  split
  · exact rl_cl_gd hr h
  · exact rl_cl_po (rl_cl_ext (fun c i hc => by rw [wx_u_nc (by omega), zc_wrote_oth _ _ _ (by omega) (by omega)]) h)
theorem rl_cl_bec {A : wx_S} {r u : Nat} (hr : r < 4) (h : rl_cl A) : rl_cl (zc_bec A r u) := by
  unfold zc_bec
  split
  · exact h
  · exact rl_cl_ans hr (Or.inr rfl) h
theorem rl_cl_tk {A : wx_S} {r m : Nat} (hr : r < 4) (h : rl_cl A) : rl_cl (zc_tk A r m) := by
  have n1 : ∀ u q, rl_cl (zc_nE A r u q) := fun u q => rl_cl_ext (fun c k hc => zc_nE_oth A r u q k (by omega)) h
  have n2 : ∀ u q, rl_cl (zc_nR A r u q) := fun u q => rl_cl_ext (fun c k hc => zc_nR_oth A r u q k (by omega) (by omega) (by omega)) h
  unfold zc_tk
  split
  · unfold zc_tkS
    split
    · exact rl_cl_ans hr (Or.inl rfl) h
    · exact h
  · split
    · unfold zc_tkE
      split
      · exact n1 _ _
      · exact rl_cl_bec hr (n1 _ _)
    · unfold zc_tkR
      split
      · exact n2 _ _
      · exact rl_cl_bec hr (n2 _ _)
theorem rl_ms_ans {B : wx_S} {r b k u : Nat} (hb : b ≠ 136) : zm_ans B r b k u 136 13 ≤ B 136 13 + 1 := by
  unfold zm_ans
  split
  · rw [zm_fa_oth _ _ _ (by decide) (by decide) (by decide) (by decide) (by decide) (by decide) (by decide) (by decide) (by decide) (by decide) (by decide)]; omega
  · rw [(zm_sa _ _ _ _).2.1, wx_u_nc (fun q => hb q.symm), zm_wrote_oth _ _ _ (by decide) (by decide)]
    exact Nat.le_refl _
theorem rl_ms_rdy {B : wx_S} {r u : Nat} : zm_rdy B r u 136 13 ≤ B 136 13 + 1 := by
  unfold zm_rdy
  split
  · exact rl_ms_ans (by decide)
  · omega
theorem rl_ms_tk {B : wx_S} {r m : Nat} : zm_tk B r m 136 13 ≤ B 136 13 + 1 := by
  have n1 : ∀ u q, zm_nE B r u q 136 13 = B 136 13 := fun u q => wx_u_nc (by decide)
  have n2 : ∀ u q, zm_nR B r u q 136 13 = B 136 13 := fun u q => wx_u_nc (by decide)
  unfold zm_tk
  split
  · unfold zm_tkS
    split
    · exact rl_ms_ans (by decide)
    · omega
  · split
    · unfold zm_tkE
      split
      · rw [← n1 (B 184 m) (B 180 m)]; exact rl_ms_rdy
      · rw [n1]; omega
    · unfold zm_tkR
      split
      · rw [← n2 (B 184 m) (B 180 m)]; exact rl_ms_rdy
      · rw [n2]; omega
/-- what a take of the class does, under the relation -/
theorem rl_Re_take {A B : wx_S} {r m : Nat} (hr : r < 4) (h : rl_R A B) (hcl : rl_cl A) (hup : B 192 r = 1) (hm : m < B 136 13) (h8 : B 136 13 < 800) : nw_M wd_all yy_Re_take cc_Re_take 4 none 7 0 0 [.ref (64 + r), .int (nI m)] A (fun v X' => v = none ∧ X' = zc_take A r m) := by
  have M := h.1.2.2.1
  have x := M.2 m hm
  have y := h.1.2.2.2.2.2.2.2.2.1 m hm
  refine mm_Re_take A r hr m (by omega) (rl_zcV h) (rl_zcN hr h) (by rw [x.2.2, h.1.2.1.1]; exact y.2.2) (by rw [x.2.1]; exact y.2.1) (by rw [x.1]; exact y.1) (by rw [M.1]; omega) (rl_hw hr h) (rl_IA r) (rl_IA0 hr) (rl_IAs hr) ⟨zm_tk B r m, rl_tk hr h (by omega) hm, rl_cl_tk hr hcl, Or.inl ?_⟩
  have := rl_ms_tk (B := B) (r := r) (m := m)
  omega
theorem rl_Mo_take {A B : wx_S} {r m : Nat} (hr : r < 4) (h : rl_R A B) (hmo : rl_mo B) (hup : B 192 r = 1) (hm : m < B 136 13) (h8 : B 136 13 < 800) : nw_M wd_all yy_Mo_take cc_Mo_take 6 none 6 0 0 [.ref 136, .int (nI r), .int (nI m)] B (fun v X' => v = none ∧ X' = zm_take B r m) := by
  have y := h.1.2.2.2.2.2.2.2.2.1 m hm
  have h2 := (h.2 r hr).1.2.1
  refine mm_Mo_take B r hr m (by omega) h.1.2.2.2.2.1 y.2.2 y.2.1 y.1 (by omega) (by rcases h2 with z | z <;> omega) (fun i hi => ?_) (fun i _ => by have z := hmo.1 i; omega) (rl_IB r) (rl_IB0 hr) (rl_IBs hr) ⟨zc_tk A r m, rl_tk hr h (by omega) hm, Or.inl ?_⟩
  · have p := ((h.2 (i / 90) (by omega)).1.2.2.2.2.1 (i % 90) (by omega)).2.1
    rw [show 90 * (i / 90) + i % 90 = i by omega] at p
    exact p
  · have := rl_ms_tk (B := B) (r := r) (m := m)
    omega
theorem rl_Re_act {A B : wx_S} {r : Nat} (hr : r < 4) (h : rl_R A B) (hcl : rl_cl A) (hp : B 136 13 ≤ 800) : nw_M wd_all yy_Re_act cc_Re_act 2 none 6 0 0 [.ref (64 + r)] A (fun v X' => v = none ∧ X' = zc_act A r) := mm_Re_act A r hr (rl_IA r) (rl_IA0 hr) (rl_IAs hr) ⟨B, h, hcl, Or.inl hp⟩
theorem rl_Mo_act {A B : wx_S} {r : Nat} (hr : r < 4) (h : rl_R A B) (hp : B 136 13 ≤ 800) : nw_M wd_all yy_Mo_act cc_Mo_act 5 none 5 0 0 [.ref 136, .int (nI r)] B (fun v X' => v = none ∧ X' = zm_act B r) := mm_Mo_act B r hr (rl_IB r) (rl_IB0 hr) (rl_IBs hr) ⟨A, h, Or.inl hp⟩
