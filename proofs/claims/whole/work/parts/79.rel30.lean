/-! everything at once -/
theorem rl_actFa {r : Nat} (hr : r < 4) : ∀ n A B, rl_R A B → rl_cl A → rl_mo B → rl_ph B r → rl_R (zc_actF r n A) (zm_actF r n B) ∧ rl_cl (zc_actF r n A) ∧ rl_mo (zm_actF r n B) ∧ rl_ph (zm_actF r n B) r
  | 0, A, B, h, h1, h2, h3 => ⟨h, h1, h2, h3⟩
  | n + 1, A, B, h, h1, h2, h3 => by
    rw [zc_actF, zm_actF, rl_up hr h]
    by_cases hup : B 192 r = 1
    · rw [if_pos hup, if_pos hup]
      rcases rl_step hr h hup with ⟨e1, e2⟩ | ⟨A', B', e1, e2, h'⟩
      · rw [e1, e2]; exact ⟨h, h1, h2, h3⟩
      · rw [e1, e2]
        exact rl_actFa hr n A' B' h' (rl_cl_step hr h h1 e1) (rl_mo_step h2 e2) (rl_ph_step hr h hup h3 e2)
    · rw [if_neg hup, if_neg hup]; exact ⟨h, h1, h2, h3⟩
/-- all that holds between calls: class's cells in A, reference's in B -/
def rl_all (A B : wx_S) : Prop := rl_R A B ∧ rl_cl A ∧ rl_mo B ∧ B 136 13 ≤ 802
theorem rl_ph_le {B : wx_S} {r : Nat} (h : rl_ph B r) : B 136 13 ≤ 802 := by
  rcases h with h | h
  · omega
  · have := h.1; omega
theorem rl_actA {A B : wx_S} {r : Nat} (hr : r < 4) (h : rl_R A B) (h1 : rl_cl A) (h2 : rl_mo B) (h3 : B 136 13 ≤ 800) : rl_all (zc_act A r) (zm_act B r) := by
  obtain ⟨a, b, c, d⟩ := rl_actFa hr 1000 A B h h1 h2 (Or.inl h3)
  exact ⟨a, b, c, rl_ph_le d⟩
theorem rl_takeA {A B : wx_S} {r m : Nat} (hr : r < 4) (h : rl_all A B) (hup : B 192 r ≠ 2) (hm : m < B 136 13) (h8 : B 136 13 < 800) : rl_all (zc_take A r m) (zm_take B r m) := by
  have l := rl_ms_tk (B := B) (r := r) (m := m)
  exact rl_actA hr (rl_tk hr h.1 hup hm) (rl_cl_tk hr h.2.1) (rl_mo_tk h.2.2.1) (by omega)
theorem rl_pmSA {A B : wx_S} {r : Nat} (hr : r < 4) (h : rl_all A B) (hc : zm_pmC B r) : rl_all (zc_pmS A r) (zm_pmS B r) := by
  have h1 := (h.1.2 r hr).1.1
  have c1 := hc.1
  have c2 := hc.2
  have r1 := rl_sMark (v := B 220 r + 1) hr h.1 (by omega)
  unfold zc_pmS zm_pmS
  rw [h1.2.2.1.1]
  exact rl_takeA hr ⟨r1, rl_cl_ext (fun c k hc => wx_u_nc (by omega)) h.2.1, rl_mo_u (by decide) (by decide) (by omega) h.2.2.1, by rw [wx_u_nc (by decide)]; exact h.2.2.2⟩ (by rw [wx_u_nc (by decide)]; omega) (by rw [wx_u_nc (by decide)]; exact c2.1) (by rw [wx_u_nc (by decide)]; exact c2.2)
theorem rl_pmA {r : Nat} (hr : r < 4) : ∀ n A B, rl_all A B → (zc_pm r n A).1 = (zm_pm r n B).1 ∧ rl_all (zc_pm r n A).2 (zm_pm r n B).2
  | 0, A, B, h => ⟨rfl, h⟩
  | n + 1, A, B, h => by
    have e := rl_pmC hr h.1
    rw [zc_pm, zm_pm]
    by_cases hc : zm_pmC B r
    · rw [if_pos hc, if_pos (e.mpr hc)]
      have z := rl_pmA hr n _ _ (rl_pmSA hr h hc)
      exact ⟨by rw [z.1], z.2⟩
    · rw [if_neg hc, if_neg (fun q => hc (e.mp q))]
      exact ⟨rfl, h⟩
