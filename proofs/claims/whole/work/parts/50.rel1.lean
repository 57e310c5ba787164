/-! The relation between the class's cells (read in A) and the reference's cells (read in B). -/
def rl_T (A B : wx_S) : Prop := A 4 3 = B 136 1 ∧ ∀ t, t < B 136 1 → A 8 t = B 140 t ∧ A 12 t = B 144 t ∧ A 16 t = B 148 t
def rl_V (A B : wx_S) : Prop := A 20 5 = B 136 7 ∧ ∀ u, u < B 136 7 → A 24 u = B 160 u ∧ A 28 u = B 164 u ∧ A 32 u = B 168 u ∧ A 36 u = B 172 u ∧ A 40 u = B 176 u
def rl_M (A B : wx_S) : Prop := A 44 3 = B 136 13 ∧ ∀ k, k < B 136 13 → A 48 k = B 188 k ∧ A 52 k = B 180 k ∧ A 56 k = B 184 k
/-- the book of a node that lives -/
def rl_Bk (A B : wx_S) (r : Nat) : Prop := A (112 + r) 2 = B 248 r ∧ A (112 + r) 3 = zm_msk B r (B 248 r) ∧ (∀ k, k < B 248 r → A (116 + r) k = B 244 (40 * r + k)) ∧ ∀ a, a < 4 → A (120 + r) a = B 252 (4 * r + a)
theorem rl_T_ext {A B A' B' : wx_S} (eA : ∀ c k, c < 20 → A' c k = A c k) (eB : ∀ c k, c = 136 ∨ c = 140 ∨ c = 144 ∨ c = 148 → B' c k = B c k) (h : rl_T A B) : rl_T A' B' := by
  refine ⟨by rw [eA _ _ (by decide), eB _ _ (by omega)]; exact h.1, fun t ht => ?_⟩
  rw [eB _ _ (by omega)] at ht
  have g := h.2 t ht
  rw [eA _ _ (by decide), eA _ _ (by decide), eA _ _ (by decide), eB _ _ (by omega), eB _ _ (by omega), eB _ _ (by omega)]
  exact g
theorem rl_V_ext {A B A' B' : wx_S} (eA : ∀ c k, 20 ≤ c → c < 44 → A' c k = A c k) (eB : ∀ c k, c = 136 ∨ (160 ≤ c ∧ c ≤ 176) → B' c k = B c k) (h : rl_V A B) : rl_V A' B' := by
  refine ⟨by rw [eA _ _ (by decide) (by decide), eB _ _ (by omega)]; exact h.1, fun t ht => ?_⟩
  rw [eB _ _ (by omega)] at ht
  have g := h.2 t ht
  rw [eA _ _ (by decide) (by decide), eA _ _ (by decide) (by decide), eA _ _ (by decide) (by decide), eA _ _ (by decide) (by decide), eA _ _ (by decide) (by decide), eB _ _ (by omega), eB _ _ (by omega), eB _ _ (by omega), eB _ _ (by omega), eB _ _ (by omega)]
  exact g
theorem rl_place {A B : wx_S} {r t : Nat} (hT : rl_T A B) (hB : zm_ok B r) (ht : t < B 136 1 ∨ t = 4294967295) (h : rl_Bk A B r) : rl_Bk (zc_place A r t) (zm_place B r t) r := by
  rcases ht with ht | ht
  · have h40 : B 136 1 ≤ 40 := hB.1.2.1
    obtain ⟨e1, e2, e3⟩ := hT.2 t ht
    have hv := hB.1.2.2.2 t ht
    have b1 := h.2.2.2 _ hv.1
    have b2 := h.2.2.2 _ hv.2.1
    have hm := zm_hs_iff B r t (by omega) (B 248 r)
    unfold zc_place zm_place
    rw [e1, e2, e3, h.2.1, b1, b2, h.1]
    by_cases hb : zm_msk B r (B 248 r) / 2 ^ t % 2 = 1
    · rw [if_pos (Or.inr hb), if_pos (hm.mpr hb)]
      exact h
    · rw [if_neg (by omega), if_neg (fun q => hb (hm.mp q))]
      have k1 : ∀ {Y : wx_S}, (∀ k, Y 244 k = wx_u B 244 (40 * r + B 248 r) t 244 k) → zm_msk Y r (B 248 r + 1) = zm_msk B r (B 248 r) ||| 2 ^ t := fun {Y} hY => by
        rw [zm_msk, zm_msk_ext (X := B) (Y := Y) _ (fun k hk => by rw [hY, wx_u_nk (by omega)]), hY, wx_u_eq]
      split
      · refine ⟨by simp [wx_u], ?_, fun k hk => ?_, fun a ha => ?_⟩
        · rw [show ∀ P Q R : wx_S, (wx_u (wx_u (wx_u (wx_u P 244 (40 * r + B 248 r) t) 248 r (B 248 r + 1)) 252 (4 * r + B 140 t) (B 252 (4 * r + B 140 t) - B 148 t)) 252 (4 * r + B 144 t) (B 252 (4 * r + B 144 t) + B 148 t)) 248 r = B 248 r + 1 from fun P Q R => by simp [wx_u], k1 (fun k => by simp [wx_u])]
          · simp [wx_u]
          · exact B
          · exact B
        · have hk' : k < B 248 r + 1 := by simpa [wx_u] using hk
          by_cases hkn : k = B 248 r
          · simp [wx_u, hkn]
          · have g := h.2.2.1 k (by omega)
            simp [wx_u, hkn, g]
        · have g := h.2.2.2 a ha
          simp [wx_u, g]
      · refine ⟨by simp [wx_u], ?_, fun k hk => ?_, fun a ha => ?_⟩
        · rw [show (wx_u (wx_u B 244 (40 * r + B 248 r) t) 248 r (B 248 r + 1)) 248 r = B 248 r + 1 by simp [wx_u], k1 (fun k => by simp [wx_u])]
          simp [wx_u]
        · have hk' : k < B 248 r + 1 := by simpa [wx_u] using hk
          by_cases hkn : k = B 248 r
          · simp [wx_u, hkn]
          · have g := h.2.2.1 k (by omega)
            simp [wx_u, hkn, g]
        · have g := h.2.2.2 a ha
          simp [wx_u, g]
  · rw [zc_place, if_pos (Or.inl ht), zm_place, ht, if_pos (zm_hs_N _ _ _)]
    exact h
