/-! the DAG of a node, and what lies under a vertex of it -/
def rl_D (A B : wx_S) (r : Nat) : Prop := (∀ w a, 1 ≤ w → w ≤ 14 → a < 4 → A (104 + r) (w * 4 + a) = if B 228 (60 * r + 4 * w + a) = 0 then 4294967295 else B 228 (60 * r + 4 * w + a) - 1) ∧ (∀ a, a < 4 → A (104 + r) (15 * 4 + a) = 4294967295) ∧ (∀ w, 1 ≤ w → w ≤ 14 → A (108 + r) w = zm_th B r w 4) ∧ A (108 + r) 0 = 0 ∧ A (100 + r) 3 = zm_sz B r 15
/-- what stands in the DAG stands at its place -/
def rl_I (B : wx_S) (r : Nat) : Prop := ∀ w a, 1 ≤ w → w ≤ 14 → a < 4 → B 228 (60 * r + 4 * w + a) ≠ 0 → B 164 (B 228 (60 * r + 4 * w + a) - 1) = w ∧ B 160 (B 228 (60 * r + 4 * w + a) - 1) = a
theorem rl_th_ext {X Y : wx_S} {r w : Nat} (e : ∀ k, Y 228 k = X 228 k) : ∀ i, zm_th Y r w i = zm_th X r w i
  | 0 => rfl
  | i + 1 => by rw [zm_th, zm_th, rl_th_ext e i, e]
theorem rl_sz_ext {X Y : wx_S} {r : Nat} (e : ∀ k, Y 228 k = X 228 k) : ∀ w, zm_sz Y r w = zm_sz X r w
  | 0 => rfl
  | w + 1 => by rw [zm_sz, zm_sz, rl_sz_ext e w, rl_th_ext e]
theorem rl_D_ext {A B A' B' : wx_S} {r : Nat} (eA : ∀ c k, c = 104 + r ∨ c = 108 + r ∨ c = 100 + r → A' c k = A c k) (eB : ∀ k, B' 228 k = B 228 k) (h : rl_D A B r) : rl_D A' B' r := by
  refine ⟨fun w a h1 h2 h3 => ?_, fun a h1 => ?_, fun w h1 h2 => ?_, ?_, ?_⟩
  · rw [eA _ _ (by omega), eB]; exact h.1 w a h1 h2 h3
  · rw [eA _ _ (by omega)]; exact h.2.1 a h1
  · rw [eA _ _ (by omega), rl_th_ext eB]; exact h.2.2.1 w h1 h2
  · rw [eA _ _ (by omega)]; exact h.2.2.2.1
  · rw [eA _ _ (by omega), rl_sz_ext eB]; exact h.2.2.2.2
theorem rl_I_ext {X Y : wx_S} {r : Nat} (e : ∀ c k, c = 228 ∨ c = 164 ∨ c = 160 → Y c k = X c k) (h : rl_I X r) : rl_I Y r := fun w a h1 h2 h3 h4 => by
  rw [e _ _ (by omega)] at h4
  rw [e 228 _ (by omega), e _ _ (by omega), e _ _ (by omega)]
  exact h w a h1 h2 h3 h4
theorem rl_D_le {B : wx_S} {r w a : Nat} (hr : r < 4) (hD : zm_D B) (hw : w ≤ 14) (ha : a < 4) : B 228 (60 * r + 4 * w + a) ≤ B 136 7 := hD _ (by omega)
/-- the parents of what stands in round w with authors au -/
def rl_pr (B : wx_S) (r au w : Nat) : Nat → Nat
  | 0 => 0
  | i + 1 => if B 228 (60 * r + 4 * w + i) ≠ 0 ∧ au / 2 ^ i % 2 = 1 then rl_pr B r au w i ||| B 168 (B 228 (60 * r + 4 * w + i) - 1) else rl_pr B r au w i
theorem rl_par {A B : wx_S} {r au w : Nat} (hr : r < 4) (hV : rl_V A B) (hD : rl_D A B r) (hd : zm_D B) (h9 : B 136 7 ≤ 90) (h1 : 1 ≤ w) (hw : w ≤ 14) : ∀ i, i ≤ 4 → zc_par A r au w i = rl_pr B r au w i
  | 0, _ => rfl
  | i + 1, hi => by
    rw [zc_par, rl_pr, rl_par hr hV hD hd h9 h1 hw i (by omega), hD.1 w i h1 hw (by omega)]
    have g := rl_D_le hr hd hw (show i < 4 by omega)
    by_cases h0 : B 228 (60 * r + 4 * w + i) = 0
    · rw [if_pos h0, if_neg (fun q => q.1 rfl), if_neg (fun q => q.1 h0)]
    · rw [if_neg h0]
      have g2 := hV.2 (B 228 (60 * r + 4 * w + i) - 1) (by omega)
      by_cases hb : au / 2 ^ i % 2 = 1
      · rw [if_pos ⟨by omega, hb⟩, if_pos ⟨h0, hb⟩, g2.2.2.1]
      · rw [if_neg (fun q => hb q.2), if_neg (fun q => hb q.2)]
/-- the set reached, j rounds below the vertex of round w and author a -/
def rl_rc (B : wx_S) (r w a : Nat) : Nat → Nat
  | 0 => 2 ^ a
  | j + 1 => rl_pr B r (rl_rc B r w a j) (w - j) 4
theorem rl_pr_ext {X Y : wx_S} {r au w : Nat} (e : ∀ c k, c = 228 ∨ c = 168 → Y c k = X c k) : ∀ i, rl_pr Y r au w i = rl_pr X r au w i
  | 0 => rfl
  | i + 1 => by rw [rl_pr, rl_pr, rl_pr_ext e i, e _ _ (by omega), e _ _ (by omega)]
theorem rl_rc_ext {X Y : wx_S} {r w a : Nat} (e : ∀ c k, c = 228 ∨ c = 168 → Y c k = X c k) : ∀ j, rl_rc Y r w a j = rl_rc X r w a j
  | 0 => rfl
  | j + 1 => by rw [rl_rc, rl_rc, rl_rc_ext e j, rl_pr_ext e]
theorem rl_parX {X Y : wx_S} {r au w : Nat} (e : ∀ c k, c = 104 + r ∨ c = 32 → Y c k = X c k) : ∀ i, zc_par Y r au w i = zc_par X r au w i
  | 0 => rfl
  | i + 1 => by rw [zc_par, zc_par, rl_parX e i, e _ _ (Or.inl rfl), e _ _ (Or.inr rfl)]
theorem rl_dn {A B : wx_S} {r w a : Nat} (hr : r < 4) (hV : rl_V A B) (hD : rl_D A B r) (hd : zm_D B) (h9 : B 136 7 ≤ 90) (hw : w ≤ 14) : ∀ j, j < w → ∀ i, i ≤ j → zc_dn A r w a j (132 + r) (w - i) = rl_rc B r w a i
  | 0, _, i, hi => by
    have e : i = 0 := by omega
    subst e
    rw [zc_dn, Nat.sub_zero, wx_u_eq, rl_rc]
  | j + 1, hj, i, hi => by
    rw [zc_dn]
    by_cases h : i = j + 1
    · subst h
      rw [show w - (j + 1) = w - 1 - j by omega, wx_u_eq, rl_parX (X := A) (fun c k hc => zc_dn_oth A r w a k (by omega) j), rl_dn hr hV hD hd h9 hw j (by omega) j (Nat.le_refl _), rl_par hr hV hD hd h9 (by omega) (by omega) 4 (Nat.le_refl _), rl_rc]
    · rw [wx_u_nk (by omega)]
      exact rl_dn hr hV hD hd h9 hw j (by omega) i (by omega)
theorem rl_rp {Z : wx_S} {r k : Nat} (hR : zm_R Z r k (Z 256 k)) (h0 : Z 256 (k - 1) = 0) : ∀ i, i ≤ 4 → zm_rp Z r k i = rl_pr Z r (Z 256 k) k i
  | 0, _ => by rw [zm_rp, rl_pr]; exact h0
  | i + 1, hi => by
    rw [zm_rp, rl_pr, rl_rp hR h0 i (by omega)]
    by_cases hb : Z 256 k / 2 ^ i % 2 = 1
    · rw [if_pos hb, if_pos ⟨hR.2 i (by omega) hb, hb⟩]
    · rw [if_neg hb, if_neg (fun q => hb q.2)]
theorem rl_sw {X : wx_S} {r w a : Nat} (hr : r < 4) (ha : a < 4) (hw1 : 1 ≤ w) (hw : w ≤ 14) (hV : zm_V X) (hD : zm_D X) (hC : zm_C X r) (hl : X 228 (60 * r + 4 * w + a) ≠ 0) : ∀ j, j < w → ∀ i, i ≤ j → zm_sw (wx_u (zz_fill X 256 16 0) 256 w (2 ^ a)) r w j 256 (w - i) = rl_rc X r w a i
  | 0, _, i, hi => by
    have e : i = 0 := by omega
    subst e
    rw [zm_sw, Nat.sub_zero, wx_u_eq, rl_rc]
  | j + 1, hj, i, hi => by
    rw [zm_sw]
    by_cases h : i = j + 1
    · subst h
      have s := zm_sI_all hr ha hw1 hw hV hD hC hl j (by omega)
      have ih := rl_sw hr ha hw1 hw hV hD hC hl j (by omega) j (Nat.le_refl _)
      rw [show w - (j + 1) = w - j - 1 by omega, wx_u_eq, rl_rp (zm_R_ext (fun i => zm_sw_oth _ r w _ (by decide) j) s.1) (s.2 _ (by omega)) 4 (Nat.le_refl _), ih, rl_rc, rl_pr_ext (X := X)]
      intro c k hc
      rw [zm_sw_oth _ r w _ (by omega) j, wx_u_nc (by omega)]
      simp only [zz_fill]
      rw [if_neg (by omega)]
    · rw [wx_u_nk (by omega)]
      exact rl_sw hr ha hw1 hw hV hD hC hl j (by omega) i (by omega)
theorem rl_spread {X : wx_S} {r w a : Nat} (hr : r < 4) (ha : a < 4) (hw1 : 1 ≤ w) (hw : w ≤ 14) (hV : zm_V X) (hD : zm_D X) (hC : zm_C X r) (hl : X 228 (60 * r + 4 * w + a) ≠ 0) {k : Nat} (h1 : 1 ≤ k) (hk : k ≤ w) : zm_spread X r w a 256 k = rl_rc X r w a (w - k) := by
  have g := rl_sw hr ha hw1 hw hV hD hC hl (w - 1) (by omega) (w - k) (by omega)
  rw [show w - (w - k) = k by omega] at g
  exact g
