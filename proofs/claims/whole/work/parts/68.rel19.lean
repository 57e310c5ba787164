/-! a node's state changes: restart, corrupt; what is no part of the relation -/
theorem rl_H_w {B B' : wx_S} (e7 : B' 136 7 = B 136 7) (e13 : B' 136 13 = B 136 13) (e : ∀ c k, c = 188 ∨ c = 180 ∨ c = 184 ∨ c = 236 ∨ c = 212 ∨ c = 164 ∨ c = 160 ∨ c = 204 → B' c k = B c k) (h2 : ∀ q, B' 192 q ≠ 2 → B 192 q ≠ 2) (h : rl_H B) : rl_H B' := by
  unfold rl_H
  simp only [e7, e13, show ∀ k, B' 188 k = B 188 k from fun k => e _ _ (by omega), show ∀ k, B' 180 k = B 180 k from fun k => e _ _ (by omega), show ∀ k, B' 184 k = B 184 k from fun k => e _ _ (by omega), show ∀ k, B' 236 k = B 236 k from fun k => e _ _ (by omega), show ∀ k, B' 212 k = B 212 k from fun k => e _ _ (by omega), show ∀ k, B' 164 k = B 164 k from fun k => e _ _ (by omega), show ∀ k, B' 160 k = B 160 k from fun k => e _ _ (by omega), show ∀ k, B' 204 k = B 204 k from fun k => e _ _ (by omega)]
  exact ⟨h.1, h.2.1, fun m hm hk hq => h.2.2.1 m hm hk (h2 _ hq), fun m m' a1 a2 a3 a4 a5 a6 a7 a8 => h.2.2.2.1 m m' a1 a2 a3 a4 a5 (h2 _ a6) a7 a8, fun u hu hq => h.2.2.2.2 u hu (h2 _ hq)⟩
theorem rl_sGS {A B A' B' : wx_S} {r : Nat} (hr : r < 4) (h : rl_R A B) (eA : ∀ c k, 0 < c → c < 136 → c ≠ 64 + r → c ≠ 120 + r → A' c k = A c k) (eB : ∀ c k, 136 < c → c < 256 → c ≠ 192 → c ≠ 200 → B' c k = B c k) (e1 : B' 136 1 = B 136 1) (e7 : B' 136 7 = B 136 7) (e13 : B' 136 13 = B 136 13) (eB2 : ∀ c s, c = 192 ∨ c = 200 → s ≠ r → B' c s = B c s) (hS : rl_S A' B' r) (hX : rl_X A' B' r) (hF : rl_F A' B') (hd : ∀ s, s < 4 → s ≠ r → (rl_dead B' s ↔ rl_dead B s)) (h2 : ∀ q, B' 192 q ≠ 2 → B 192 q ≠ 2) (hY' : rl_Y A' B' r) : rl_R A' B' := by
  have ok := rl_Gok h hr
  have h90 : B 136 7 ≤ 90 := ok.1.1
  have eb : ∀ {c : Nat} (k : Nat), (136 < c ∧ c < 192) ∨ c = 196 ∨ (200 < c ∧ c < 256) → B' c k = B c k := fun k hc => eB _ k (by omega) (by omega) (by omega) (by omega)
  have g : rl_gV B B' := ⟨by rw [e7]; exact Nat.le_refl _, by rw [e7]; exact h90, fun c u hc _ => eb u (by omega)⟩
  have gq : ∀ s, rl_gQ B B' s := fun s => ⟨by rw [e1]; exact Nat.le_refl _, fun t _ => ⟨eb _ (by omega), fun _ => eb _ (by omega)⟩, fun t a1 a2 => by rw [e1] at a2; omega⟩
  obtain ⟨G1, G2, G3, G4, G5, G6, G7, G8, G9⟩ := h.1
  have ea : ∀ {c : Nat} (k : Nat), 0 < c → c < 60 → A' c k = A c k := fun k a1 a2 => eA _ k a1 (by omega) (by omega) (by omega)
  refine ⟨⟨⟨by rw [ea _ (by decide) (by decide), e1]; exact G1.1, fun t ht => ?_⟩, ⟨by rw [ea _ (by decide) (by decide), e7]; exact G2.1, fun u hu => ?_⟩, ⟨by rw [ea _ (by decide) (by decide), e13]; exact G3.1, fun k hk => ?_⟩, hF, ?_, fun k hk => by rw [eb _ (by omega), e7]; exact G6 k hk, fun k hk => by rw [eb _ (by omega)]; exact G7 k hk, fun t ht => by rw [eb _ (by omega), eb _ (by omega), e1]; exact G8 t ht, rl_H_w e7 e13 (fun c k hc => eb k (by omega)) h2 G9⟩, fun s hs => ?_⟩
  · rw [e1] at ht
    rw [ea _ (by decide) (by decide), ea _ (by decide) (by decide), ea _ (by decide) (by decide), eb _ (by omega), eb _ (by omega), eb _ (by omega)]
    exact G1.2 t ht
  · rw [e7] at hu
    rw [ea _ (by decide) (by decide), ea _ (by decide) (by decide), ea _ (by decide) (by decide), ea _ (by decide) (by decide), ea _ (by decide) (by decide), eb _ (by omega), eb _ (by omega), eb _ (by omega), eb _ (by omega), eb _ (by omega)]
    exact G2.2 u hu
  · rw [e13] at hk
    rw [ea _ (by decide) (by decide), ea _ (by decide) (by decide), ea _ (by decide) (by decide), eb _ (by omega), eb _ (by omega), eb _ (by omega)]
    exact G3.2 k hk
  · obtain ⟨v1, v2, v3, v4⟩ := G5
    unfold zm_V
    rw [e7, e1]
    refine ⟨v1, v2, fun x hx => ?_, fun t ht => ?_⟩
    · rw [eb (c := 160) _ (by omega), eb (c := 164) _ (by omega), eb (c := 168) _ (by omega), eb (c := 172) _ (by omega), eb (c := 176) _ (by omega)]
      exact v3 x hx
    · rw [eb (c := 140) _ (by omega), eb (c := 144) _ (by omega), eb (c := 148) _ (by omega)]
      exact v4 t ht
  · by_cases hsr : s = r
    · subst hsr
      obtain ⟨⟨h1, h2, h3, h4, h5, h6, h7, h8, ⟨h9, h10, h11, h12⟩, h13⟩, hY⟩ := h.2 s hr
      have e228 : ∀ k, B' 228 k = B 228 k := fun k => eb k (by omega)
      have e236 : ∀ k, B' 236 k = B 236 k := fun k => eb k (by omega)
      have e240 : ∀ k, B' 240 k = B 240 k := fun k => eb k (by omega)
      have eC : ∀ c k, (c % 4 = s ∧ 68 ≤ c ∧ c < 120 + s) ∨ (c % 4 = s ∧ 124 ≤ c ∧ c < 136) → A' c k = A c k := fun c k hc => eA c k (by omega) (by omega) (by omega) (by omega)
      exact ⟨⟨hS, hX, rl_Q_rg (gq s) (fun k => eC _ k (by omega)) (eC _ _ (by omega)) (eC _ _ (by omega)) h3, rl_E_rg (fun c k hc => eC _ k (by omega)) (fun c k hc _ => eb _ (by omega)) h4, rl_P_rg g.1 (fun c k hc => eC _ k (by omega)) (fun k _ => eb _ (by omega)) (fun k _ => e236 _) h5, rl_W_rg ok.1 g (eC _ _ (by omega)) (fun k => eC _ k (by omega)) (fun k _ => e228 _) (fun k _ => e236 _) h5 h6, rl_D_rg (fun c k hc => eC _ k (by omega)) (fun k _ => e228 _) h7, rl_K_rg hr ok.2.1 h90 (fun k => eC _ k (by omega)) (fun k _ => e228 _) (fun k _ => e240 _) h8, ⟨rl_I_rg hr ok.2.1 g (fun k _ => e228 _) h9, rl_U_rg g (fun k _ => e236 _) h5 h10, rl_Z_rg ok.1 g (fun k _ => e228 _) (fun k _ => e240 _) h11, rl_C_rg hr ok.2.1 g (fun k _ => e228 _) h12⟩, rl_J_rg hr ok.2.1 h90 (fun k _ => e228 _) (fun k _ => e236 _) h13⟩, hY'⟩
    · have a1 : rl_eA A A' s := fun c k _ _ h3 => eA _ k (by omega) (by omega) (by omega) (by omega)
      have a2 : rl_eB B B' s := ⟨fun c hc => by
        by_cases hq : c = 192 ∨ c = 200
        · exact eB2 c s hq hsr
        · exact eb _ (by omega), fun c k hc _ => eb _ (by omega), fun c k hc _ => eb _ (by omega), fun k _ => eb _ (by omega), fun k _ => eb _ (by omega)⟩
      exact ⟨rl_N_fr hs ok.1 ok.2.1 g (gq s) a1 a2 (h.2 s hs).1, rl_Y_fr hs (hd s hs hsr) a1 a2 (h.2 s hs).2⟩
/-- what the relation does not read -/
theorem rl_R_ext {A B A' B' : wx_S} (h : rl_R A B) (eA : ∀ c k, c < 136 → A' c k = A c k) (eB : ∀ c k, 136 ≤ c → c < 256 → c = 136 → k ≠ 0 → B' c k = B c k) (eC : ∀ c k, 136 < c → c < 256 → B' c k = B c k) : rl_R A' B' := by
  have e : ∀ k, k ≠ 0 → B' 136 k = B 136 k := fun k hk => eB _ k (by decide) (by decide) rfl hk
  have hr : (0 : Nat) < 4 := by decide
  obtain ⟨h1, h2, _⟩ := (h.2 0 hr).1
  have ed : ∀ s, rl_dead B' s ↔ rl_dead B s := fun s => by rw [rl_dead, rl_dead, eC _ _ (by decide) (by decide), e _ (by decide)]
  have a1 : rl_eA A A' 0 := fun c k _ hc _ => eA _ _ hc
  have a2 : rl_eB B B' 0 := ⟨fun c hc => eC _ _ (by omega) (by omega), fun c k hc _ => eC _ _ (by omega) (by omega), fun c k hc _ => eC _ _ (by omega) (by omega), fun k _ => eC _ _ (by decide) (by decide), fun k _ => eC _ _ (by decide) (by decide)⟩
  exact rl_sGS hr h (fun c k _ hc _ _ => eA _ _ hc) (fun c k h1 h2 _ _ => eC _ _ h1 h2) (e _ (by decide)) (e _ (by decide)) (e _ (by decide)) (fun c s hc _ => eC _ _ (by omega) (by omega)) (rl_S_fr hr a1 a2 h1) (rl_X_fr hr a1 a2 h2) (rl_F_ext (eA _ _ (by decide)) (fun k => eC _ k (by decide) (by decide)) h.1.2.2.2.1) (fun s _ _ => ed s) (fun q hq => by rw [eC _ _ (by decide) (by decide)] at hq; exact hq) (rl_Y_fr hr (ed 0) a1 a2 (h.2 0 hr).2)
theorem rl_thr {A B : wx_S} (v : Nat) (h : rl_R A B) : rl_R A (wx_u B 136 0 v) := rl_R_ext h (fun _ _ _ => rfl) (fun c k _ _ _ hk => wx_u_nk hk) (fun c k h1 _ => wx_u_nc (by omega))
/-- a node that was down comes up -/
theorem rl_sUp {A B : wx_S} {r : Nat} (hr : r < 4) (h : rl_R A B) (h0 : B 192 r = 0) : rl_R (zc_up A r) (wx_u B 192 r 1) := by
  obtain ⟨h1, h2, _⟩ := (h.2 r hr).1
  have hY := (h.2 r hr).2
  have q := hY.1 (Or.inl h0)
  have oA : ∀ {c : Nat} k, c ≠ 64 + r → c ≠ 120 + r → zc_up A r c k = A c k := fun k a1 a2 => zc_up_oth A r a1 a2
  have o8 : ∀ k, zc_up A r (64 + r) k = if k = 8 then 1 else A (64 + r) k := fun k => by
    by_cases hk : k = 8
    · simp [zc_up, zz_fill, wx_u, hk]
    · simp [zc_up, zz_fill, wx_u, hk]
  have o12 : ∀ a, a < 4 → zc_up A r (120 + r) a = 100 := fun a ha => by simp [zc_up, zz_fill, ha]
  have oB : ∀ {c : Nat} k, c ≠ 192 → wx_u B 192 r 1 c k = B c k := fun k hc => wx_u_nc hc
  have n2 : ∀ s, wx_u B 192 r 1 192 s = 2 ↔ B 192 s = 2 := fun s => by
    by_cases hs : s = r
    · rw [hs, wx_u_eq, h0]; omega
    · rw [wx_u_nk hs]
  refine rl_sGS hr h (fun c k _ _ a1 a2 => oA k a1 a2) (fun c k _ _ a _ => oB k a) (oB _ (by decide)) (oB _ (by decide)) (oB _ (by decide)) (fun c s hc hs => ?_) ?_ ?_ ?_ (fun s hs hsr => by rw [rl_dead, rl_dead, wx_u_nk hsr, oB _ (by decide)]) (fun q hq => fun z => hq ((n2 q).mpr z)) ⟨fun hd => ?_, fun _ => ?_, zm_B_ext (oB _ (by decide)) (fun k _ => oB _ (by decide)) (fun a _ => oB _ (by decide)) hY.2.2⟩
  · rcases hc with hc | hc <;> subst hc
    · exact wx_u_nk hs
    · exact oB _ (by decide)
  · unfold rl_S
    rw [o8, o8, o8, o8, o8, oA _ (by omega) (by omega), oA _ (by omega) (by omega), oA _ (by omega) (by omega), wx_u_eq, oB _ (by decide), oB _ (by decide), oB _ (by decide), oB _ (by decide), oB _ (by decide)]
    exact ⟨h1.1, ⟨rfl, by decide⟩, h1.2.2⟩
  · unfold rl_X
    rw [o8, o8, oB _ (by decide)]
    exact h2
  · have f := h.1.2.2.2.1
    unfold rl_F at f ⊢
    rw [oA _ (by omega) (by omega)]
    simp only [ne_eq, n2]
    exact f
  · rw [rl_dead, wx_u_eq] at hd; omega
  · refine ⟨by rw [oA _ (by omega) (by omega), oB _ (by decide), q.1, q.2.2.1], ?_, fun k hk => ?_, fun a ha => by rw [o12 a ha, oB _ (by decide), (q.2.2.2 a ha).2]⟩
    · rw [oA _ (by omega) (by omega), oB _ (by decide), q.2.1, q.2.2.1, zm_msk]
    · rw [oB _ (by decide), q.2.2.1] at hk; omega
theorem rl_restart {A B : wx_S} {r : Nat} (hr : r < 4) (h : rl_R A B) (h0 : B 192 r = 0) : rl_R (zc_restart A r) (zm_restart B r) := by
  have u := rl_sUp hr h h0
  unfold zc_restart zm_restart
  rw [h.1.2.2.1.1]
  by_cases hm : B 136 13 < 800
  · rw [if_pos hm, if_pos hm]; exact rl_act hr u
  · rw [if_neg hm, if_neg hm]; exact u
