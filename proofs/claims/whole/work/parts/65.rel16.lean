/-! marks of what was answered, and answers -/
theorem rl_sGE {A B A' B' : wx_S} {r : Nat} (hr : r < 4) (h : rl_R A B) (eA : ∀ c k, c ≠ 76 + r → c ≠ 80 + r → A' c k = A c k) (eB : ∀ c k, c ≠ 208 → c ≠ 212 → B' c k = B c k) (eB2 : ∀ c s k, c = 208 ∨ c = 212 → s < 4 → s ≠ r → k < 60 → B' c (60 * s + k) = B c (60 * s + k)) (h2 : ∀ k, B 212 k ≠ 0 → B' 212 k ≠ 0) (hE : rl_E A' B' r) : rl_R A' B' := by
  have ok := rl_Gok h hr
  have h90 : B 136 7 ≤ 90 := ok.1.1
  have eb : ∀ {c : Nat} (k : Nat), c < 208 ∨ 212 < c → B' c k = B c k := fun k hc => eB _ k (by omega) (by omega)
  have g : rl_gV B B' := rl_gV_id h90 (fun c k hc => eb k (by omega))
  obtain ⟨G1, G2, G3, G4, G5, G6, G7, G8, G9⟩ := h.1
  refine ⟨⟨rl_T_ext (fun c k hc => eA _ k (by omega) (by omega)) (fun c k hc => eb k (by omega)) G1, rl_V_ext (fun c k _ hc => eA _ k (by omega) (by omega)) (fun c k hc => eb k (by omega)) G2, rl_M_ext (fun c k _ hc => eA _ k (by omega) (by omega)) (fun c k hc => eb k (by omega)) G3, rl_F_ext (eA _ _ (by omega) (by omega)) (fun k => eb k (by omega)) G4, zm_V_ext (fun c k hc => eb k (by omega)) G5, zm_D_ext (fun c k hc => eb k (by omega)) G6, fun k hk => by rw [eb _ (by omega)]; exact G7 k hk, fun t ht => by rw [eb _ (by omega), eb _ (by omega), eb _ (by omega)]; exact G8 t ht, ?_⟩, fun s hs => ?_⟩
  · obtain ⟨k1, k2, k3, k4, k5⟩ := G9
    unfold rl_H
    simp only [show ∀ k, B' 136 k = B 136 k from fun k => eb k (by omega), show ∀ k, B' 188 k = B 188 k from fun k => eb k (by omega), show ∀ k, B' 180 k = B 180 k from fun k => eb k (by omega), show ∀ k, B' 184 k = B 184 k from fun k => eb k (by omega), show ∀ k, B' 236 k = B 236 k from fun k => eb k (by omega), show ∀ k, B' 192 k = B 192 k from fun k => eb k (by omega), show ∀ k, B' 164 k = B 164 k from fun k => eb k (by omega), show ∀ k, B' 160 k = B 160 k from fun k => eb k (by omega), show ∀ k, B' 204 k = B 204 k from fun k => eb k (by omega)]
    exact ⟨k1, k2, fun m hm a1 a2 => h2 _ (k3 m hm a1 a2), k4, k5⟩
  · have ed : rl_dead B' s ↔ rl_dead B s := by rw [rl_dead, rl_dead, eb _ (by omega), eb _ (by omega)]
    by_cases hsr : s = r
    · subst hsr
      obtain ⟨⟨h1, h2, h3, h4, h5, h6, h7, h8, ⟨h9, h10, h11, h12⟩, h13⟩, hY⟩ := h.2 s hr
      have hp := zm_B_pos hY.2.2
      have e228 : ∀ k, B' 228 k = B 228 k := fun k => eb k (by omega)
      have e236 : ∀ k, B' 236 k = B 236 k := fun k => eb k (by omega)
      have e240 : ∀ k, B' 240 k = B 240 k := fun k => eb k (by omega)
      have e248 : B' 248 s = B 248 s := eb _ (by omega)
      refine ⟨⟨rl_S_x (fun c k hc => eA _ k (by omega) (by omega)) (fun c hc => eb s (by omega)) (by rw [eA _ _ (by omega) (by omega), eb _ (by omega)]; exact h1.2.2.2.2.2.2.2.1) (by rw [eb _ (by omega)]; exact h1.2.2.2.2.2.2.2.2.1) (by rw [eb _ (by omega)]; exact h1.2.2.2.2.2.2.2.2.2) h1, rl_X_x (fun k => eA _ k (by omega) (by omega)) (eb _ (by omega)) h2, rl_Q_rg (rl_gQ_id (fun c k hc => eb k (by omega))) (fun k => eA _ k (by omega) (by omega)) (eA _ _ (by omega) (by omega)) (eA _ _ (by omega) (by omega)) h3, hE, rl_P_rg g.1 (fun c k hc => eA _ k (by omega) (by omega)) (fun k _ => eb _ (by omega)) (fun k _ => e236 _) h5, rl_W_rg ok.1 g (eA _ _ (by omega) (by omega)) (fun k => eA _ k (by omega) (by omega)) (fun k _ => e228 _) (fun k _ => e236 _) h5 h6, rl_D_rg (fun c k hc => eA _ k (by omega) (by omega)) (fun k _ => e228 _) h7, rl_K_rg hr ok.2.1 h90 (fun k => eA _ k (by omega) (by omega)) (fun k _ => e228 _) (fun k _ => e240 _) h8, ⟨rl_I_rg hr ok.2.1 g (fun k _ => e228 _) h9, rl_U_rg g (fun k _ => e236 _) h5 h10, rl_Z_rg ok.1 g (fun k _ => e228 _) (fun k _ => e240 _) h11, rl_C_rg hr ok.2.1 g (fun k _ => e228 _) h12⟩, rl_J_rg hr ok.2.1 h90 (fun k _ => e228 _) (fun k _ => e236 _) h13⟩, fun hd => ?_, fun hd => rl_Bk_rg hp (fun c k hc => eA _ k (by omega) (by omega)) e248 (fun k _ => eb _ (by omega)) (fun k _ => eb _ (by omega)) (hY.2.1 (fun q => hd (ed.mpr q))), zm_B_ext e248 (fun k _ => eb _ (by omega)) (fun a _ => eb _ (by omega)) hY.2.2⟩
      have q := hY.1 (ed.mp hd)
      refine ⟨by rw [eA _ _ (by omega) (by omega)]; exact q.1, by rw [eA _ _ (by omega) (by omega)]; exact q.2.1, by rw [e248]; exact q.2.2.1, fun a ha => ?_⟩
      rw [eA _ _ (by omega) (by omega), eb _ (by omega)]
      exact q.2.2.2 a ha
    · have e1 : rl_eA A A' s := fun c k _ _ h3 => eA _ k (by omega) (by omega)
      have e2 : rl_eB B B' s := ⟨fun c hc => eb _ (by omega), fun c k hc hk => by
        by_cases hq : c = 208 ∨ c = 212
        · exact eB2 c s k hq hs hsr hk
        · exact eb _ (by omega), fun c k hc _ => eb _ (by omega), fun k _ => eb _ (by omega), fun k _ => eb _ (by omega)⟩
      exact ⟨rl_N_fr hs ok.1 ok.2.1 g (rl_gQ_id (fun c k hc => eb k (by omega))) e1 e2 (h.2 s hs).1, rl_Y_fr hs ed e1 e2 (h.2 s hs).2⟩
theorem zn_or15 {a w : Nat} (ha : a < 2 ^ 15) (hw : w ≤ 14) : a ||| 2 ^ w < 2 ^ 15 := Nat.or_lt_two_pow ha (zn_p15 (by omega))
theorem rl_sMkE {A B : wx_S} {r a w : Nat} (hr : r < 4) (h : rl_R A B) (ha : a < 4) (h1 : 1 ≤ w) (hw : w ≤ 14) : rl_R (wx_u A (76 + r) a (A (76 + r) a ||| 2 ^ w)) (wx_u B 208 (60 * r + 4 * w + a) 1) := by
  have hE := (h.2 r hr).1.2.2.2.1
  refine rl_sGE hr h (fun c k a1 _ => wx_u_nc a1) (fun c k a1 _ => wx_u_nc a1) (fun c s k hc hs hsr hk => ?_) (fun k hk => by rw [wx_u_nc (by decide)]; exact hk) (fun b hb => ?_)
  · by_cases h8 : c = 208
    · subst h8; exact wx_u_nk (by omega)
    · exact wx_u_nc h8
  · have z := hE b hb
    by_cases hba : b = a
    · subst hba
      rw [wx_u_eq, wx_u_nc (by omega)]
      refine ⟨⟨zn_or15 z.1.1 hw, z.1.2⟩, fun v k1 k2 => ?_⟩
      rw [zn_or_bit, wx_u_nc (c' := 212) (by decide)]
      refine ⟨?_, (z.2 v k1 k2).2⟩
      by_cases hv : v = w
      · rw [if_pos hv, hv, wx_u_eq]; exact ⟨fun _ => by decide, fun _ => rfl⟩
      · rw [if_neg hv, wx_u_nk (by omega)]; exact (z.2 v k1 k2).1
    · rw [wx_u_nk hba, wx_u_nc (by omega)]
      refine ⟨z.1, fun v k1 k2 => ?_⟩
      rw [wx_u_nk (by omega), wx_u_nc (by decide)]
      exact z.2 v k1 k2
theorem rl_sMkR {A B : wx_S} {r a w : Nat} (hr : r < 4) (h : rl_R A B) (ha : a < 4) (h1 : 1 ≤ w) (hw : w ≤ 14) : rl_R (wx_u A (80 + r) a (A (80 + r) a ||| 2 ^ w)) (wx_u B 212 (60 * r + 4 * w + a) 1) := by
  have hE := (h.2 r hr).1.2.2.2.1
  refine rl_sGE hr h (fun c k _ a1 => wx_u_nc a1) (fun c k _ a1 => wx_u_nc a1) (fun c s k hc hs hsr hk => ?_) (fun k hk => ?_) (fun b hb => ?_)
  · by_cases h8 : c = 212
    · subst h8; exact wx_u_nk (by omega)
    · exact wx_u_nc h8
  · by_cases hq : k = 60 * r + 4 * w + a
    · rw [hq, wx_u_eq]; decide
    · rw [wx_u_nk hq]; exact hk
  · have z := hE b hb
    by_cases hba : b = a
    · subst hba
      rw [wx_u_eq, wx_u_nc (by omega)]
      refine ⟨⟨z.1.1, zn_or15 z.1.2 hw⟩, fun v k1 k2 => ?_⟩
      rw [zn_or_bit, wx_u_nc (c' := 208) (by decide)]
      refine ⟨(z.2 v k1 k2).1, ?_⟩
      by_cases hv : v = w
      · rw [if_pos hv, hv, wx_u_eq]; exact ⟨fun _ => by decide, fun _ => rfl⟩
      · rw [if_neg hv, wx_u_nk (by omega)]; exact (z.2 v k1 k2).2
    · rw [wx_u_nk hba, wx_u_nk hba]
      refine ⟨z.1, fun v k1 k2 => ?_⟩
      rw [wx_u_nk (by omega), wx_u_nk (by omega)]
      exact z.2 v k1 k2
/-- an ECHO or a READY goes out, or the node goes down over its record -/
theorem rl_sAnE {A B : wx_S} {r u : Nat} (hr : r < 4) (h : rl_R A B) (hup : B 192 r ≠ 2) (hu : u < B 136 7) : rl_R (zc_ans A r (76 + r) 1 u) (zm_ans B r 208 1 u) := by
  have hc := rl_cut (h.2 r hr).1.2.1
  have v := h.1.2.1.2 u hu
  have b := h.1.2.2.2.2.1.2.2.1 u hu
  unfold zc_ans zm_ans
  by_cases hcut : B 200 r = 0
  · rw [if_pos (hc.mpr hcut), if_pos hcut]
    exact rl_sFall hr h hup
  · rw [if_neg (fun q => hcut (hc.mp q)), if_neg hcut, v.1, v.2.1, zm_spot]
    have r1 := rl_sWr hr h hcut
    have r2 := rl_sMkE (a := B 160 u) (w := B 164 u) hr r1 b.1 b.2.1 b.2.2.1
    rw [zc_wrote_oth _ _ _ (by omega) (by omega)] at r2
    exact rl_sSay r2 hr (by decide) (by rw [wx_u_nc (by decide), zm_wrote_oth _ _ _ (by decide) (by decide)]; exact hu) (fun q => absurd q (by decide))
theorem rl_sAnR {A B : wx_S} {r u : Nat} (hr : r < 4) (h : rl_R A B) (hup : B 192 r ≠ 2) (hu : u < B 136 7) (h0 : B 212 (zm_spot B r u) = 0) : rl_R (zc_ans A r (80 + r) 2 u) (zm_ans B r 212 2 u) := by
  have hc := rl_cut (h.2 r hr).1.2.1
  have v := h.1.2.1.2 u hu
  have b := h.1.2.2.2.2.1.2.2.1 u hu
  obtain ⟨k1, k2, k3, k4, k5⟩ := h.1.2.2.2.2.2.2.2.2
  unfold zc_ans zm_ans
  by_cases hcut : B 200 r = 0
  · rw [if_pos (hc.mpr hcut), if_pos hcut]
    exact rl_sFall hr h hup
  · rw [if_neg (fun q => hcut (hc.mp q)), if_neg hcut, v.1, v.2.1]
    rw [zm_spot] at h0 ⊢
    have r1 := rl_sWr hr h hcut
    have r2 := rl_sMkR (a := B 160 u) (w := B 164 u) hr r1 b.1 b.2.1 b.2.2.1
    rw [zc_wrote_oth _ _ _ (by omega) (by omega)] at r2
    have oW : ∀ {c : Nat} k, c ≠ 212 → c ≠ 200 → c ≠ 196 → wx_u (zm_wrote B r) 212 (60 * r + 4 * B 164 u + B 160 u) 1 c k = B c k := fun k a1 a2 a3 => by rw [wx_u_nc a1, zm_wrote_oth _ _ _ a2 a3]
    refine rl_sSay r2 hr (by decide) (by rw [oW _ (by decide) (by decide) (by decide)]; exact hu) (fun _ _ => ?_)
    rw [oW (c := 164) _ (by decide) (by decide) (by decide), oW (c := 160) _ (by decide) (by decide) (by decide), wx_u_eq]
    refine ⟨by decide, fun m hm a1 a2 a3 a4 => ?_⟩
    rw [oW _ (by decide) (by decide) (by decide)] at hm a1 a2
    rw [oW (c := 184) _ (by decide) (by decide) (by decide)] at a3 a4 ⊢
    rw [oW _ (by decide) (by decide) (by decide)] at a3 a4
    have z := k3 m hm a1 (by rw [a2]; exact hup)
    rw [a2, a3, a4] at z
    exact absurd h0 z
