/-- the book, of a node that lives and of one that is down -/
def rl_Y (A B : wx_S) (r : Nat) : Prop := (rl_dead B r → rl_Bd A B r) ∧ (¬ rl_dead B r → rl_Bk A B r) ∧ zm_B B r
def rl_eA (A A' : wx_S) (s : Nat) : Prop := ∀ c k, 64 ≤ c → c < 136 → c % 4 = s → A' c k = A c k
def rl_eB (B B' : wx_S) (s : Nat) : Prop := (∀ c, c = 192 ∨ c = 196 ∨ c = 200 ∨ c = 204 ∨ c = 216 ∨ c = 220 ∨ c = 224 ∨ c = 248 → B' c s = B c s) ∧ (∀ c k, c = 208 ∨ c = 212 ∨ c = 228 → k < 60 → B' c (60 * s + k) = B c (60 * s + k)) ∧ (∀ c k, c = 232 ∨ c = 236 ∨ c = 240 → k < 90 → B' c (90 * s + k) = B c (90 * s + k)) ∧ (∀ k, k < 40 → B' 244 (40 * s + k) = B 244 (40 * s + k)) ∧ ∀ k, k < 4 → B' 252 (4 * s + k) = B 252 (4 * s + k)
theorem rl_S_fr {A B A' B' : wx_S} {s : Nat} (hs : s < 4) (eA : rl_eA A A' s) (eB : rl_eB B B' s) (h : rl_S A B s) : rl_S A' B' s := by
  have a : ∀ b k, 64 ≤ b → b < 133 → b % 4 = 0 → A' (b + s) k = A (b + s) k := fun b k h1 h2 h3 => eA _ _ (by omega) (by omega) (by omega)
  have b : ∀ c, c = 192 ∨ c = 196 ∨ c = 200 ∨ c = 204 ∨ c = 216 ∨ c = 220 ∨ c = 224 ∨ c = 248 → B' c s = B c s := eB.1
  unfold rl_S
  rw [a 64 _ (by decide) (by decide) (by decide), a 64 _ (by decide) (by decide) (by decide), a 64 _ (by decide) (by decide) (by decide), a 64 _ (by decide) (by decide) (by decide), a 68 _ (by decide) (by decide) (by decide), a 68 _ (by decide) (by decide) (by decide), a 64 _ (by decide) (by decide) (by decide), a 124 _ (by decide) (by decide) (by decide), b 192 (by omega), b 220 (by omega), b 216 (by omega), b 204 (by omega), b 196 (by omega), b 224 (by omega)]
  exact h
theorem rl_X_fr {A B A' B' : wx_S} {s : Nat} (hs : s < 4) (eA : rl_eA A A' s) (eB : rl_eB B B' s) (h : rl_X A B s) : rl_X A' B' s := by
  unfold rl_X
  rw [eA _ _ (by omega) (by omega) (by omega), eA _ _ (by omega) (by omega) (by omega), eB.1 200 (by omega)]
  exact h
theorem rl_N_fr {A B A' B' : wx_S} {s : Nat} (hs : s < 4) (hV : zm_V B) (hd : zm_D B) (g : rl_gV B B') (gq : rl_gQ B B' s) (eA : rl_eA A A' s) (eB : rl_eB B B' s) (h : rl_N A B s) : rl_N A' B' s := by
  obtain ⟨h1, h2, h3, h4, h5, h6, h7, h8, ⟨h9, h10, h11, h12⟩, h13⟩ := h
  have e228 : ∀ k, k < 60 → B' 228 (60 * s + k) = B 228 (60 * s + k) := fun k hk => eB.2.1 228 k (by omega) hk
  have e236 : ∀ k, k < 90 → B' 236 (90 * s + k) = B 236 (90 * s + k) := fun k hk => eB.2.2.1 236 k (by omega) hk
  have e240 : ∀ k, k < 90 → B' 240 (90 * s + k) = B 240 (90 * s + k) := fun k hk => eB.2.2.1 240 k (by omega) hk
  refine ⟨rl_S_fr hs eA eB h1, rl_X_fr hs eA eB h2, rl_Q_rg gq (fun k => eA _ _ (by omega) (by omega) (by omega)) (eA _ _ (by omega) (by omega) (by omega)) (eA _ _ (by omega) (by omega) (by omega)) h3, rl_E_rg (fun c k hc => eA _ _ (by omega) (by omega) (by omega)) (fun c k hc hk => eB.2.1 c k (by omega) hk) h4, rl_P_rg g.1 (fun c k hc => eA _ _ (by omega) (by omega) (by omega)) (fun k hk => eB.2.2.1 232 k (by omega) hk) e236 h5, rl_W_rg hV g (eA _ _ (by omega) (by omega) (by omega)) (fun k => eA _ _ (by omega) (by omega) (by omega)) e228 e236 h5 h6, rl_D_rg (fun c k hc => eA _ _ (by omega) (by omega) (by omega)) e228 h7, rl_K_rg hs hd hV.1 (fun k => eA _ _ (by omega) (by omega) (by omega)) e228 e240 h8, ⟨rl_I_rg hs hd g e228 h9, rl_U_rg g e236 h5 h10, rl_Z_rg hV g e228 e240 h11, rl_C_rg hs hd g e228 h12⟩, rl_J_rg hs hd hV.1 e228 e236 h13⟩
theorem rl_Bk_rg {A B A' B' : wx_S} {s : Nat} (hp : B 248 s ≤ 40) (eA : ∀ c k, c = 112 + s ∨ c = 116 + s ∨ c = 120 + s → A' c k = A c k) (e1 : B' 248 s = B 248 s) (e2 : ∀ k, k < 40 → B' 244 (40 * s + k) = B 244 (40 * s + k)) (e3 : ∀ k, k < 4 → B' 252 (4 * s + k) = B 252 (4 * s + k)) (h : rl_Bk A B s) : rl_Bk A' B' s := by
  refine ⟨?_, ?_, fun k hk => ?_, fun a ha => ?_⟩
  · rw [eA _ _ (by omega), e1]; exact h.1
  · rw [eA _ _ (by omega), e1, zm_msk_ext (X := B) (Y := B') _ (fun k hk => e2 k (by omega))]; exact h.2.1
  · rw [e1] at hk
    rw [eA _ _ (by omega), e2 k (by omega)]; exact h.2.2.1 k hk
  · rw [eA _ _ (by omega), e3 a ha]; exact h.2.2.2 a ha
theorem rl_Y_fr {A B A' B' : wx_S} {s : Nat} (hs : s < 4) (e34 : rl_dead B' s ↔ rl_dead B s) (eA : rl_eA A A' s) (eB : rl_eB B B' s) (h : rl_Y A B s) : rl_Y A' B' s := by
  have hp := zm_B_pos h.2.2
  have e1 : B' 248 s = B 248 s := eB.1 248 (by omega)
  refine ⟨fun hd => ?_, fun hd => ?_, zm_B_ext e1 (fun k hk => eB.2.2.2.1 k (by omega)) (fun a ha => eB.2.2.2.2 a ha) h.2.2⟩
  · have q := h.1 (e34.mp hd)
    refine ⟨by rw [eA _ _ (by omega) (by omega) (by omega)]; exact q.1, by rw [eA _ _ (by omega) (by omega) (by omega)]; exact q.2.1, by rw [e1]; exact q.2.2.1, fun a ha => ?_⟩
    rw [eA _ _ (by omega) (by omega) (by omega), eB.2.2.2.2 a ha]
    exact q.2.2.2 a ha
  · exact rl_Bk_rg hp (fun c k hc => eA _ _ (by omega) (by omega) (by omega)) e1 eB.2.2.2.1 eB.2.2.2.2 (h.2.1 (fun q => hd (e34.mpr q)))
/-! the broadcast: what was said, and by whom -/
def rl_H (B : wx_S) : Prop := (∀ m, m < B 136 13 → B 188 m < 3 ∧ B 180 m < 4 ∧ B 184 m < B 136 7) ∧ (∀ r u q, r < 4 → u < B 136 7 → q < 4 → B 236 (90 * r + u) / 2 ^ q % 2 = 1 → ∃ m, m < B 136 13 ∧ B 188 m = 2 ∧ B 180 m = q ∧ B 184 m = u) ∧ (∀ m, m < B 136 13 → B 188 m = 2 → B 192 (B 180 m) ≠ 2 → B 212 (60 * B 180 m + 4 * B 164 (B 184 m) + B 160 (B 184 m)) ≠ 0) ∧ (∀ m m', m < B 136 13 → m' < B 136 13 → B 188 m = 2 → B 188 m' = 2 → B 180 m = B 180 m' → B 192 (B 180 m) ≠ 2 → B 164 (B 184 m) = B 164 (B 184 m') → B 160 (B 184 m) = B 160 (B 184 m') → B 184 m = B 184 m') ∧ ∀ u, u < B 136 7 → B 192 (B 160 u) ≠ 2 → B 164 u ≤ B 204 (B 160 u)
def rl_F (A B : wx_S) : Prop := (A 0 4 = 4294967295 ∧ ∀ s, s < 4 → B 192 s ≠ 2) ∨ (A 0 4 < 4 ∧ B 192 (A 0 4) = 2 ∧ ∀ s, s < 4 → s ≠ A 0 4 → B 192 s ≠ 2)
theorem rl_F_one {A B : wx_S} (h : rl_F A B) : ∃ f, ∀ s, s < 4 → s ≠ f → B 192 s ≠ 2 := by
  rcases h with h | h
  · exact ⟨0, fun s hs _ => h.2 s hs⟩
  · exact ⟨A 0 4, h.2.2⟩
/-- of one author and round one vertex is delivered: three of four, one faulty -/
theorem rl_U_of {A B : wx_S} {r : Nat} (hr : r < 4) (hH : rl_H B) (hF : rl_F A B) (h16 : ∀ u, u < B 136 7 → B 236 (90 * r + u) < 16) : rl_U B r := fun u v hu hv h1 h2 h3 h4 => by
  obtain ⟨f, hf⟩ := rl_F_one hF
  have one : ∀ q, q < 4 → q ≠ f → B 236 (90 * r + u) / 2 ^ q % 2 = 1 → B 236 (90 * r + v) / 2 ^ q % 2 = 1 → u = v := fun q hq hqf a1 a2 => by
    obtain ⟨m, m1, m2, m3, m4⟩ := hH.2.1 r u q hr hu hq a1
    obtain ⟨k, k1, k2, k3, k4⟩ := hH.2.1 r v q hr hv hq a2
    have z := hH.2.2.2.1 m k m1 k1 m2 k2 (by rw [m3, k3]) (by rw [m3]; exact hf q hq hqf) (by rw [m4, k4]; exact h3) (by rw [m4, k4]; exact h4)
    rw [m4, k4] at z
    exact z
  refine Classical.byContradiction (fun hne => ?_)
  generalize B 236 (90 * r + u) = x at *
  generalize B 236 (90 * r + v) = y at *
  have c0 : 0 ≠ f → ¬ (x % 2 = 1 ∧ y % 2 = 1) := fun e z => hne (one 0 (by decide) e (by rw [Nat.pow_zero, Nat.div_one]; exact z.1) (by rw [Nat.pow_zero, Nat.div_one]; exact z.2))
  have c1 : 1 ≠ f → ¬ (x / 2 % 2 = 1 ∧ y / 2 % 2 = 1) := fun e z => hne (one 1 (by decide) e z.1 z.2)
  have c2 : 2 ≠ f → ¬ (x / 4 % 2 = 1 ∧ y / 4 % 2 = 1) := fun e z => hne (one 2 (by decide) e z.1 z.2)
  have c3 : 3 ≠ f → ¬ (x / 8 % 2 = 1 ∧ y / 8 % 2 = 1) := fun e z => hne (one 3 (by decide) e z.1 z.2)
  unfold zn_ones at h1 h2
  clear one hf hH
  omega
