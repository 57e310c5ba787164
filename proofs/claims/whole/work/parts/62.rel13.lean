/-! a node's own steps that touch neither DAG nor book nor notes -/
theorem rl_H_y {B B' : wx_S} (e7 : B' 136 7 = B 136 7) (e13 : B' 136 13 = B 136 13) (e : ∀ c k, c = 188 ∨ c = 180 ∨ c = 184 ∨ c = 236 ∨ c = 192 ∨ c = 212 ∨ c = 164 ∨ c = 160 → B' c k = B c k) (h4 : ∀ s, B 204 s ≤ B' 204 s) (h : rl_H B) : rl_H B' := by
  have e2 : ∀ k, B' 188 k = B 188 k := fun k => e _ _ (by omega)
  have e3 : ∀ k, B' 180 k = B 180 k := fun k => e _ _ (by omega)
  have e4 : ∀ k, B' 184 k = B 184 k := fun k => e _ _ (by omega)
  have e5 : ∀ k, B' 236 k = B 236 k := fun k => e _ _ (by omega)
  have e6 : ∀ k, B' 192 k = B 192 k := fun k => e _ _ (by omega)
  have e7' : ∀ k, B' 212 k = B 212 k := fun k => e _ _ (by omega)
  have e8 : ∀ k, B' 164 k = B 164 k := fun k => e _ _ (by omega)
  have e9 : ∀ k, B' 160 k = B 160 k := fun k => e _ _ (by omega)
  unfold rl_H
  simp only [e7, e13, e2, e3, e4, e5, e6, e7', e8, e9]
  exact ⟨h.1, h.2.1, h.2.2.1, h.2.2.2.1, fun u hu hq => Nat.le_trans (h.2.2.2.2 u hu hq) (h4 _)⟩
theorem rl_sGN {A B A' B' : wx_S} {r : Nat} (hr : r < 4) (h : rl_R A B) (eA : ∀ c k, 20 ≤ c → c ≠ 64 + r → c ≠ 68 + r → c ≠ 72 + r → A' c k = A c k) (eA0 : A' 0 4 = A 0 4) (e7 : B' 136 7 = B 136 7) (e13 : B' 136 13 = B 136 13) (e34 : B' 136 34 = B 136 34) (eB : ∀ c k, 160 ≤ c → c ≠ 196 → c ≠ 200 → c ≠ 204 → c ≠ 216 → c ≠ 220 → B' c k = B c k) (eB2 : ∀ c s, c = 196 ∨ c = 200 ∨ c = 204 ∨ c = 216 ∨ c = 220 → s ≠ r → B' c s = B c s) (hT : rl_T A' B') (hTV : zm_V B') (h8 : ∀ t, t < 40 → B' 152 t < 4294967296 ∧ B' 156 t < 4294967296 ∧ (B' 136 1 ≤ t → B' 156 t = 0)) (h4' : ∀ s, B 204 s ≤ B' 204 s) (hS : rl_S A' B' r) (hX : rl_X A' B' r) (hQ : rl_Q A' B' r) (gq : ∀ s, s < 4 → s ≠ r → rl_gQ B B' s) : rl_R A' B' := by
  have ok := rl_Gok h hr
  have h90 : B 136 7 ≤ 90 := ok.1.1
  have eb : ∀ {c : Nat} (k : Nat), (160 ≤ c ∧ c ≤ 192) ∨ c = 208 ∨ c = 212 ∨ (224 ≤ c ∧ c ≤ 256) → B' c k = B c k := fun k hc => eB _ k (by omega) (by omega) (by omega) (by omega) (by omega) (by omega)
  have ea : ∀ {c : Nat} (k : Nat), (20 ≤ c ∧ c < 64) ∨ (76 ≤ c ∧ c % 4 = r) ∨ (64 ≤ c ∧ c % 4 ≠ r) → A' c k = A c k := fun k hc => eA _ k (by omega) (by omega) (by omega) (by omega)
  have g : rl_gV B B' := ⟨by rw [e7]; exact Nat.le_refl _, by rw [e7]; exact h90, fun c u hc _ => eb u (by omega)⟩
  obtain ⟨G1, G2, G3, G4, G5, G6, G7, G8, G9⟩ := h.1
  refine ⟨⟨hT, ⟨by rw [ea _ (by omega), e7]; exact G2.1, fun u hu => ?_⟩, ⟨by rw [ea _ (by omega), e13]; exact G3.1, fun k hk => ?_⟩, rl_F_ext eA0 (fun k => eb k (by omega)) G4, hTV, fun k hk => by rw [eb _ (by omega), e7]; exact G6 k hk, fun k hk => by rw [eb _ (by omega)]; exact G7 k hk, h8, rl_H_y e7 e13 (fun c k hc => eb k (by omega)) h4' G9⟩, fun s hs => ?_⟩
  · rw [e7] at hu
    rw [ea _ (by omega), ea _ (by omega), ea _ (by omega), ea _ (by omega), ea _ (by omega), eb _ (by omega), eb _ (by omega), eb _ (by omega), eb _ (by omega), eb _ (by omega)]
    exact G2.2 u hu
  · rw [e13] at hk
    rw [ea _ (by omega), ea _ (by omega), ea _ (by omega), eb _ (by omega), eb _ (by omega), eb _ (by omega)]
    exact G3.2 k hk
  · have ed : rl_dead B' s ↔ rl_dead B s := by rw [rl_dead, rl_dead, e34, eb _ (by omega)]
    by_cases hsr : s = r
    · subst hsr
      obtain ⟨⟨h1, h2, h3, h4, h5, h6, h7, h8, ⟨h9, h10, h11, h12⟩, h13⟩, hY⟩ := h.2 s hr
      have hp := zm_B_pos hY.2.2
      have e228 : ∀ k, B' 228 k = B 228 k := fun k => eb k (by omega)
      have e236 : ∀ k, B' 236 k = B 236 k := fun k => eb k (by omega)
      have e240 : ∀ k, B' 240 k = B 240 k := fun k => eb k (by omega)
      have e248 : B' 248 s = B 248 s := eb _ (by omega)
      refine ⟨⟨hS, hX, hQ, rl_E_rg (fun c k hc => ea k (by omega)) (fun c k hc _ => eb _ (by omega)) h4, rl_P_rg g.1 (fun c k hc => ea k (by omega)) (fun k _ => eb _ (by omega)) (fun k _ => e236 _) h5, rl_W_rg ok.1 g (ea _ (by omega)) (fun k => ea k (by omega)) (fun k _ => e228 _) (fun k _ => e236 _) h5 h6, rl_D_rg (fun c k hc => ea k (by omega)) (fun k _ => e228 _) h7, rl_K_rg hr ok.2.1 h90 (fun k => ea k (by omega)) (fun k _ => e228 _) (fun k _ => e240 _) h8, ⟨rl_I_rg hr ok.2.1 g (fun k _ => e228 _) h9, rl_U_rg g (fun k _ => e236 _) h5 h10, rl_Z_rg ok.1 g (fun k _ => e228 _) (fun k _ => e240 _) h11, rl_C_rg hr ok.2.1 g (fun k _ => e228 _) h12⟩, rl_J_rg hr ok.2.1 h90 (fun k _ => e228 _) (fun k _ => e236 _) h13⟩, fun hd => ?_, fun hd => rl_Bk_rg hp (fun c k hc => ea k (by omega)) e248 (fun k _ => eb _ (by omega)) (fun k _ => eb _ (by omega)) (hY.2.1 (fun q => hd (ed.mpr q))), zm_B_ext e248 (fun k _ => eb _ (by omega)) (fun a _ => eb _ (by omega)) hY.2.2⟩
      have q := hY.1 (ed.mp hd)
      refine ⟨by rw [ea _ (by omega)]; exact q.1, by rw [ea _ (by omega)]; exact q.2.1, by rw [e248]; exact q.2.2.1, fun a ha => ?_⟩
      rw [ea _ (by omega), eb _ (by omega)]
      exact q.2.2.2 a ha
    · have e1 : rl_eA A A' s := fun c k _ _ h3 => ea k (by omega)
      have e2 : rl_eB B B' s := ⟨fun c hc => by
        by_cases hq : c = 196 ∨ c = 200 ∨ c = 204 ∨ c = 216 ∨ c = 220
        · exact eB2 c s hq hsr
        · exact eb _ (by omega), fun c k hc _ => eb _ (by omega), fun c k hc _ => eb _ (by omega), fun k _ => eb _ (by omega), fun k _ => eb _ (by omega)⟩
      exact ⟨rl_N_fr hs ok.1 ok.2.1 g (gq s hs hsr) e1 e2 (h.2 s hs).1, rl_Y_fr hs ed e1 e2 (h.2 s hs).2⟩
/-- the first of the queue is taken -/
def rl_m1 (B : wx_S) (x : Nat) : wx_S := if x < 2147483648 then wx_u B 156 x 1 else B
theorem rl_m1_oth (B : wx_S) (x : Nat) {c : Nat} (k : Nat) (h : c ≠ 156) : rl_m1 B x c k = B c k := by
  unfold rl_m1; split
  · exact wx_u_nc h
  · rfl
theorem rl_sQ1 {A B : wx_S} {r : Nat} (hr : r < 4) (h : rl_R A B) : rl_R (zc_qX A r) (rl_m1 B (zm_q B r 0)) := by
  obtain ⟨h1, h2, h3, _⟩ := (h.2 r hr).1
  have G := h.1
  have h40 : B 136 1 ≤ 40 := G.2.2.2.2.1.2.1
  have e1 := rl_q1 h3 h40
  have oB : ∀ {c : Nat} k, c ≠ 156 → rl_m1 B (zm_q B r 0) c k = B c k := fun k hc => rl_m1_oth B _ k hc
  by_cases hn : A (68 + r) 1 ≤ A (68 + r) 2
  · have ea : zc_qX A r = A := by rw [zc_qX, if_pos hn]
    have eb : rl_m1 B (zm_q B r 0) = B := by rw [rl_m1, e1, zc_q1, if_pos hn, if_neg (by decide)]
    rw [ea, eb]; exact h
  · obtain ⟨q1, q2, q3, q4, q5⟩ := h3
    have z := q2 (A (68 + r) 2) (by omega)
    have ex : zm_q B r 0 = A (72 + r) (A (68 + r) 2) := by rw [e1, zc_q1, if_neg hn]
    have ea : zc_qX A r = wx_u A (68 + r) 2 (A (68 + r) 2 + 1) := by rw [zc_qX, if_neg hn]
    have eb : rl_m1 B (zm_q B r 0) = wx_u B 156 (A (72 + r) (A (68 + r) 2)) 1 := by rw [ex, rl_m1, if_pos (by omega)]
    rw [eb] at oB
    rw [ea, eb]
    have inj : ∀ i, i < A (68 + r) 1 → A (72 + r) i = A (72 + r) (A (68 + r) 2) → i = A (68 + r) 2 := fun i hi e => by
      by_cases hl : i < A (68 + r) 2
      · have := q3 i _ hl (by omega); omega
      · by_cases hg : A (68 + r) 2 < i
        · have := q3 _ i hg hi; omega
        · omega
    refine rl_sGN hr h (fun c k _ _ a2 _ => wx_u_nc a2) (wx_u_nc (by omega)) (oB _ (by decide)) (oB _ (by decide)) (oB _ (by decide)) (fun c k hc _ _ _ _ _ => oB k (by omega)) (fun c s hc _ => oB _ (by omega)) (rl_T_ext (fun c k hc => wx_u_nc (by omega)) (fun c k hc => oB k (by omega)) G.1) (zm_V_ext (fun c k hc => oB k (by omega)) G.2.2.2.2.1) (fun t ht => ?_) (fun s => by rw [oB _ (by decide)]; exact Nat.le_refl _) ?_ ?_ ?_ (fun s hs hsr => ?_)
    · have w := G.2.2.2.2.2.2.2.1 t ht
      rw [oB (c := 152) _ (by decide), oB (c := 136) _ (by decide)]
      refine ⟨w.1, ?_⟩
      by_cases hx : t = A (72 + r) (A (68 + r) 2)
      · rw [hx, wx_u_eq]
        exact ⟨by decide, fun q => by omega⟩
      · rw [wx_u_nk hx]; exact w.2
    · unfold rl_S
      rw [wx_u_nc (c' := 64 + r) (by omega), wx_u_nc (c' := 64 + r) (by omega), wx_u_nc (c' := 64 + r) (by omega), wx_u_nc (c' := 64 + r) (by omega), wx_u_nk (k' := 5) (by decide), wx_u_nk (k' := 6) (by decide), wx_u_nc (c' := 64 + r) (by omega), wx_u_nc (c' := 124 + r) (by omega), oB _ (by decide), oB _ (by decide), oB _ (by decide), oB _ (by decide), oB _ (by decide), oB _ (by decide)]
      exact h1
    · exact rl_X_x (fun k => wx_u_nc (by omega)) (oB _ (by decide)) h2
    · unfold rl_Q
      rw [wx_u_eq, wx_u_nk (k' := 1) (by decide), oB (c := 136) _ (by decide)]
      simp only [show ∀ k, wx_u A (68 + r) 2 (A (68 + r) 2 + 1) (72 + r) k = A (72 + r) k from fun k => wx_u_nc (by omega), show ∀ k, wx_u B 156 (A (72 + r) (A (68 + r) 2)) 1 152 k = B 152 k from fun k => wx_u_nc (by decide)]
      refine ⟨by omega, q2, q3, q4, fun i hi => ?_⟩
      by_cases hx : A (72 + r) i = A (72 + r) (A (68 + r) 2)
      · have := inj i hi hx
        rw [hx, wx_u_eq, this]; omega
      · rw [wx_u_nk hx, q5 i hi]
        have : i ≠ A (68 + r) 2 := fun e => hx (by rw [e])
        omega
    · refine ⟨by rw [oB _ (by decide)]; exact Nat.le_refl _, fun t ht => ⟨oB _ (by decide), fun ho => ?_⟩, fun t a1 a2 => by rw [oB _ (by decide)] at a2; omega⟩
      exact wx_u_nk (fun e => hsr (by rw [← ho, e]; exact z.2))
/-- the round made grows -/
theorem rl_sMade {A B : wx_S} {r : Nat} (hr : r < 4) (h : rl_R A B) (h13 : B 204 r ≤ 13) : rl_R (wx_u A (68 + r) 5 (A (68 + r) 5 + 1)) (wx_u B 204 r (B 204 r + 1)) := by
  obtain ⟨h1, h2, h3, _⟩ := (h.2 r hr).1
  have G := h.1
  have oB : ∀ {c : Nat} k, c ≠ 204 → wx_u B 204 r (B 204 r + 1) c k = B c k := fun k hc => wx_u_nc hc
  refine rl_sGN hr h (fun c k _ _ a2 _ => wx_u_nc a2) (wx_u_nc (by omega)) (oB _ (by decide)) (oB _ (by decide)) (oB _ (by decide)) (fun c k _ _ _ a _ _ => oB k a) (fun c s hc hs => ?_) (rl_T_ext (fun c k hc => wx_u_nc (by omega)) (fun c k hc => oB k (by omega)) G.1) (zm_V_ext (fun c k hc => oB k (by omega)) G.2.2.2.2.1) (fun t ht => by rw [oB _ (by decide), oB _ (by decide), oB _ (by decide)]; exact G.2.2.2.2.2.2.2.1 t ht) (fun s => ?_) ?_ (rl_X_x (fun k => wx_u_nc (by omega)) (oB _ (by decide)) h2) (rl_Q_rg (rl_gQ_id (fun c k hc => oB k (by omega))) (fun k => wx_u_nc (by omega)) (wx_u_nk (by decide)) (wx_u_nk (by decide)) h3) (fun s _ _ => rl_gQ_id (fun c k hc => oB k (by omega)))
  · by_cases hc4 : c = 204
    · subst hc4; exact wx_u_nk hs
    · exact oB _ hc4
  · by_cases hs : s = r
    · rw [hs, wx_u_eq]; omega
    · rw [wx_u_nk hs]; exact Nat.le_refl _
  · unfold rl_S
    rw [wx_u_nc (c' := 64 + r) (by omega), wx_u_nc (c' := 64 + r) (by omega), wx_u_nc (c' := 64 + r) (by omega), wx_u_nc (c' := 64 + r) (by omega), wx_u_eq, wx_u_nk (k' := 6) (by decide), wx_u_nc (c' := 64 + r) (by omega), wx_u_nc (c' := 124 + r) (by omega), wx_u_eq, oB _ (by decide), oB _ (by decide), oB _ (by decide), oB _ (by decide), oB _ (by decide)]
    exact ⟨h1.1, h1.2.1, h1.2.2.1, h1.2.2.2.1, ⟨by rw [h1.2.2.2.2.1.1], by omega⟩, h1.2.2.2.2.2⟩
