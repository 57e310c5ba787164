/-! what the contracts ask of a state -/
def rl_cl (A : wx_S) : Prop := (∀ i, i < 90 → A 32 i < 2147483648) ∧ ∀ s, s < 4 → (∀ a, a < 4 → A (104 + s) a = 4294967295) ∧ A (108 + s) 15 = 0
theorem rl_cl_ext {A A' : wx_S} (e : ∀ c k, c = 32 ∨ (104 ≤ c ∧ c < 112) → A' c k = A c k) (h : rl_cl A) : rl_cl A' := ⟨fun i hi => by rw [e _ _ (by omega)]; exact h.1 i hi, fun s hs => ⟨fun a ha => by rw [e _ _ (by omega)]; exact (h.2 s hs).1 a ha, by rw [e _ _ (by omega)]; exact (h.2 s hs).2⟩⟩
theorem rl_cl_ins {A : wx_S} {r i : Nat} (hr : r < 4) (h : rl_cl A) (h1 : 1 ≤ A 28 (A (96 + r) i)) (h2 : A 28 (A (96 + r) i) ≤ 14) : rl_cl (zc_ins A r i) := by
  refine ⟨fun k hk => ?_, fun s hs => ⟨fun a ha => ?_, ?_⟩⟩
  · rw [zc_ins_oth _ _ _ _ (by omega) (by omega) (by omega) (by omega) (by omega)]; exact h.1 k hk
  · rw [zc_ins, wx_u_nc (by omega), wx_u_ne (by omega), zc_insert, wx_u_ne (by omega), wx_u_ne (by omega), wx_u_ne (by omega)]
    exact (h.2 s hs).1 a ha
  · rw [zc_ins, wx_u_ne (by omega), wx_u_ne (by omega), zc_insert, wx_u_ne (by omega), wx_u_ne (by omega), wx_u_ne (by omega)]
    exact (h.2 s hs).2
theorem rl_cl_gd {A : wx_S} {r : Nat} (hr : r < 4) (h : rl_cl A) : rl_cl (zc_goDown A r) := by
  have zf := zc_gd_f A r
  refine ⟨fun k hk => ?_, fun s hs => ?_⟩
  · rw [zc_gd_oth _ _ _ (by omega) (by omega) (by omega) (by omega) (by omega) (by omega) (by omega) (by omega) (by omega) (by omega) (by omega)]; exact h.1 k hk
  · by_cases hsr : s = r
    · subst hsr
      exact ⟨fun a ha => zf.2.1 a (by omega), zf.2.2.1 15 (by decide)⟩
    · refine ⟨fun a ha => ?_, ?_⟩
      · rw [zc_gd_oth _ _ _ (by omega) (by omega) (by omega) (by omega) (by omega) (by omega) (by omega) (by omega) (by omega) (by omega) (by omega)]; exact (h.2 s hs).1 a ha
      · rw [zc_gd_oth _ _ _ (by omega) (by omega) (by omega) (by omega) (by omega) (by omega) (by omega) (by omega) (by omega) (by omega) (by omega)]; exact (h.2 s hs).2
theorem rl_cl_va {A : wx_S} {a w q f u : Nat} (hq : q < 2147483648) (h : rl_cl A) : rl_cl (zc_vadd A a w q f u) := by
  obtain ⟨a1, a2, a3⟩ := zc_va A a w q f u
  refine ⟨fun i hi => ?_, fun s hs => ⟨fun b hb => ?_, ?_⟩⟩
  · rw [(a3 i).2.2.1]; split
    · exact hq
    · exact h.1 i hi
  · rw [a1 _ _ (by omega) (by omega) (by omega) (by omega) (by omega) (by omega)]; exact (h.2 s hs).1 b hb
  · rw [a1 _ _ (by omega) (by omega) (by omega) (by omega) (by omega) (by omega)]; exact (h.2 s hs).2
theorem rl_cl_po {A : wx_S} {k q u : Nat} (h : rl_cl A) : rl_cl (zc_post A k q u) := rl_cl_ext (fun c i hc => (zc_po A k q u).1 c i (by omega) (by omega) (by omega) (by omega)) h
theorem rl_cl_made {A : wx_S} {r : Nat} (hr : r < 4) (hs : A (108 + r) (A (68 + r) 5) < 16) (h : rl_cl A) : rl_cl (zc_made A r) := by
  unfold zc_made
  refine rl_cl_ext (fun c k hc => wx_u_nc (by omega)) (rl_cl_po (rl_cl_va (by omega) ?_))
  exact rl_cl_ext (fun c k hc => by rw [wx_u_nc (by omega), zc_qX_oth _ _ (by omega), zc_qX_oth _ _ (by omega)]) h
theorem rl_cl_adv {A B : wx_S} {r : Nat} (hr : r < 4) (hR : rl_R A B) (h : rl_cl A) : rl_cl (zc_advance A r) := by
  unfold zc_advance
  split
  · exact rl_cl_gd hr h
  · have h7 := (hR.2 r hr).1.2.2.2.2.2.2.1
    have e2 := (hR.2 r hr).1.1.2.2.2.2.1
    refine rl_cl_made hr ?_ (rl_cl_ext (fun c k hc => zc_wrote_oth A r k (by omega) (by omega)) h)
    rw [zc_wrote_dk _ _ (by decide), zc_wrote_oth _ _ _ (by omega) (by omega), rl_set h7 (by omega)]
    exact zm_th_lt B r _ 4 (Nat.le_refl _)
theorem rl_cl_step {A B Y : wx_S} {r : Nat} (hr : r < 4) (hR : rl_R A B) (h : rl_cl A) (e : zc_step A r = some Y) : rl_cl Y := by
  unfold zc_step at e
  split at e
  · cases e
    have hW := (hR.2 r hr).1.2.2.2.2.2.1
    have g := zc_nx_lt A r (A (84 + r) 3)
    have u1 := hW.2.1 (zc_nx A r (A (84 + r) 3)) (by omega)
    have v := hR.1.2.1.2 _ u1
    have b := hR.1.2.2.2.2.1.2.2.1 _ u1
    exact rl_cl_ins hr h (by omega) (by omega)
  · split at e
    · cases e
      exact rl_cl_ext (fun c k hc => zc_commit_oth A r _ k (by omega) (by omega) (by omega) (by omega) (by omega) (by omega)) h
    · split at e
      · cases e
        exact rl_cl_adv hr hR h
      · cases e
/-- the class's own bounds, out of the relation -/
theorem rl_zcV {A B : wx_S} (h : rl_R A B) : zc_V A := by
  obtain ⟨G1, G2, _, _, ⟨v1, v2, v3, v4⟩, _⟩ := h.1
  refine ⟨by rw [G2.1]; exact v1, by rw [G1.1]; exact v2, fun u hu => ?_, fun t ht => ?_⟩
  · rw [G2.1] at hu
    have e := G2.2 u hu
    rw [e.1, e.2.1, e.2.2.1, e.2.2.2.1, e.2.2.2.2, G1.1]
    exact v3 u hu
  · rw [G1.1] at ht
    have e := G1.2 t ht
    rw [e.1, e.2.1, e.2.2]
    exact v4 t ht
