/-! the chain of leaders, and a commit -/
theorem rl_c2 {A Y : wx_S} {r f l : Nat} (hr : r < 4) (hT : rl_T A Y) (hV : rl_V A Y) (hB : zm_ok Y r) (hC : zm_C Y r) (hD : rl_D A Y r) (hI : rl_I Y r) (hK : rl_K A Y r) (bk : rl_Bk A Y r) (hf : ∀ k, f / 2 ^ k % 2 = 1 → zm_L Y r k) : ∀ i, rl_Bk (zc_cm A r f l i) (zm_c2 Y r f l i) r ∧ rl_K (zc_cm A r f l i) (zm_c2 Y r f l i) r
  | 0 => ⟨bk, hK⟩
  | i + 1 => by
    obtain ⟨b1, k1⟩ := rl_c2 hr hT hV hB hC hD hI hK bk hf i
    have ok := zm_c2_ok (l := l) hr hB hC hf i
    have eB : ∀ {c : Nat} q, c ≠ 240 → c ≠ 244 → c ≠ 248 → c ≠ 252 → c ≠ 256 → zm_c2 Y r f l i c q = Y c q := fun q a1 a2 a3 a4 a5 => zm_c2_oth Y r f l q a1 a2 a3 a4 a5 i
    have eA : ∀ {c : Nat} q, c ≠ 112 + r → c ≠ 116 + r → c ≠ 120 + r → c ≠ 128 + r → c ≠ 132 + r → zc_cm A r f l i c q = A c q := fun q a1 a2 a3 a4 a5 => zc_cm_oth A r f l q a1 a2 a3 a4 a5 i
    rw [zc_cm, zm_c2]
    by_cases hb : f / 2 ^ (l + 2 + 2 * i) % 2 = 1
    · rw [if_pos hb, if_pos hb]
      have hL := hf _ hb
      refine rl_emit hr hL.1 hL.2.1 (rl_T_ext (fun c q hc => eA q (by omega) (by omega) (by omega) (by omega) (by omega)) (fun c q hc => eB q (by omega) (by omega) (by omega) (by omega) (by omega)) hT) (rl_V_ext (fun c q h1 h2 => eA q (by omega) (by omega) (by omega) (by omega) (by omega)) (fun c q hc => eB q (by omega) (by omega) (by omega) (by omega) (by omega)) hV) ok (zm_C_ext (fun c q hc => eB q (by omega) (by omega) (by omega) (by omega) (by omega)) hC) (rl_D_ext (fun c q hc => eA q (by omega) (by omega) (by omega) (by omega) (by omega)) (fun q => eB q (by decide) (by decide) (by decide) (by decide) (by decide)) hD) (rl_I_ext (fun c q hc => eB q (by omega) (by omega) (by omega) (by omega) (by omega)) hI) k1 b1 ?_
      rw [eB _ (by decide) (by decide) (by decide) (by decide) (by decide)]
      exact hL.2.2
    · rw [if_neg hb, if_neg hb]
      exact ⟨b1, k1⟩
theorem rl_lu_odd (A : wx_S) (r w i : Nat) (h : (w - 1 - i) % 2 = 1) : zc_lu A r w (i + 1) = ((zc_lu A r w i).1, zc_par A r (zc_lu A r w i).2 (w - i) 4) := by
  rw [zc_lu, if_neg (fun q => by omega)]
theorem rl_ch {A B : wx_S} {r w : Nat} (hr : r < 4) (hV : rl_V A B) (hB : zm_ok B r) (hC : zm_C B r) (hD : rl_D A B r) (hl : zm_L B r w) (he : w % 2 = 0) : ∀ j, 2 * j < w → (zc_lu A r w (2 * j)).1 = (zm_ch B r w j).1 ∧ (zc_lu A r w (2 * j)).2 = rl_rc B r (zm_ch B r w j).2.1 ((zm_ch B r w j).2.1 / 2 % 4) ((zm_ch B r w j).2.1 - (w - 2 * j))
  | 0, _ => by
    refine ⟨rfl, ?_⟩
    show 2 ^ (w / 2 % 4) = rl_rc B r w (w / 2 % 4) (w - (w - 0))
    rw [Nat.sub_zero, Nat.sub_self, rl_rc]
  | j + 1, hj => by
    obtain ⟨i1, i2⟩ := rl_ch hr hV hB hC hD hl he j (by omega)
    obtain ⟨c1, c2, c3, c4, c5⟩ := zm_chI_all hr hB hC hl j (by omega)
    have hw14 : w ≤ 14 := hl.2.1
    have p1 : zc_lu A r w (2 * j + 1) = ((zm_ch B r w j).1, rl_rc B r (zm_ch B r w j).2.1 ((zm_ch B r w j).2.1 / 2 % 4) ((zm_ch B r w j).2.1 - (w - 2 * j) + 1)) := by
      rw [rl_lu_odd A r w (2 * j) (by omega), i1, i2, rl_par hr hV hD hB.2.1 hB.1.1 (by omega) (by omega) 4 (Nat.le_refl _), rl_rc, show (zm_ch B r w j).2.1 - ((zm_ch B r w j).2.1 - (w - 2 * j)) = w - 2 * j by omega]
    have p2 : zc_par A r (zc_lu A r w (2 * j + 1)).2 (w - (2 * j + 1)) 4 = rl_rc B r (zm_ch B r w j).2.1 ((zm_ch B r w j).2.1 / 2 % 4) ((zm_ch B r w j).2.1 - (w - 2 - 2 * j)) := by
      rw [p1, rl_par hr hV hD hB.2.1 hB.1.1 (by omega) (by omega) 4 (Nat.le_refl _), show (zm_ch B r w j).2.1 - (w - 2 - 2 * j) = (zm_ch B r w j).2.1 - (w - 2 * j) + 1 + 1 by omega]
      conv => rhs; rw [rl_rc]
      rw [show (zm_ch B r w j).2.1 - ((zm_ch B r w j).2.1 - (w - 2 * j) + 1) = w - (2 * j + 1) by omega]
    have e228 : ∀ c k, c = 228 ∨ c = 168 → (zm_ch B r w j).2.2 c k = B c k := fun c k hc => zm_ch_oth B r w k (by omega) j
    have p3 : zm_spread (zm_ch B r w j).2.2 r (zm_ch B r w j).2.1 ((zm_ch B r w j).2.1 / 2 % 4) 256 (w - 2 - 2 * j) = rl_rc B r (zm_ch B r w j).2.1 ((zm_ch B r w j).2.1 / 2 % 4) ((zm_ch B r w j).2.1 - (w - 2 - 2 * j)) := by
      rw [rl_spread hr (by omega) c2.1 c2.2.1 c1.1 c1.2.1 (zm_C_ext (fun c k hc => e228 c k (by omega)) hC) (by rw [e228 _ _ (by omega)]; exact c2.2.2) (by omega) (by omega), rl_rc_ext e228]
    rw [show 2 * (j + 1) = 2 * j + 1 + 1 by omega, zc_lu, zm_ch, p2, p3, show w - 1 - (2 * j + 1) = w - 2 - 2 * j by omega]
    by_cases hb : rl_rc B r (zm_ch B r w j).2.1 ((zm_ch B r w j).2.1 / 2 % 4) ((zm_ch B r w j).2.1 - (w - 2 - 2 * j)) / 2 ^ ((w - 2 - 2 * j) / 2 % 4) % 2 = 1
    · rw [if_pos ⟨by omega, hb⟩, if_pos hb, p1]
      refine ⟨rfl, ?_⟩
      show 2 ^ ((w - 2 - 2 * j) / 2 % 4) = rl_rc B r (w - 2 - 2 * j) ((w - 2 - 2 * j) / 2 % 4) (w - 2 - 2 * j - (w - (2 * j + 1 + 1)))
      rw [show w - 2 - 2 * j - (w - (2 * j + 1 + 1)) = 0 by omega, rl_rc]
    · rw [if_neg (fun q => hb q.2), if_neg hb, p1]
      refine ⟨rfl, ?_⟩
      show rl_rc B r (zm_ch B r w j).2.1 ((zm_ch B r w j).2.1 / 2 % 4) ((zm_ch B r w j).2.1 - (w - 2 - 2 * j)) = rl_rc B r (zm_ch B r w j).2.1 ((zm_ch B r w j).2.1 / 2 % 4) ((zm_ch B r w j).2.1 - (w - (2 * j + 1 + 1)))
      rw [show w - (2 * j + 1 + 1) = w - 2 - 2 * j by omega]
theorem rl_commit {A B : wx_S} {r w : Nat} (hr : r < 4) (hT : rl_T A B) (hV : rl_V A B) (hB : zm_ok B r) (hC : zm_C B r) (hD : rl_D A B r) (hI : rl_I B r) (hK : rl_K A B r) (bk : rl_Bk A B r) (hl : zm_L B r w) (he : w % 2 = 0) (el : A (124 + r) 5 = B 224 r) (h2 : B 224 r % 2 = 0) (h3 : B 224 r + 2 ≤ w) : rl_Bk (zc_commit A r w) (zm_commit B r w) r ∧ rl_K (zc_commit A r w) (zm_commit B r w) r := by
  have hg : 2 * zm_gap B r w < w := by unfold zm_gap; omega
  have g1 := rl_ch hr hV hB hC hD hl he (zm_gap B r w) hg
  have eh : zc_ch A r w = (zm_ch B r w (zm_gap B r w)).1 := by
    rw [zc_ch, el, show w - 1 - B 224 r = 2 * zm_gap B r w + 1 by unfold zm_gap; omega, rl_lu_odd _ _ _ _ (by unfold zm_gap; omega)]
    exact g1.1
  obtain ⟨c1, c2, c3, c4, c5⟩ := zm_chI_all hr hB hC hl (zm_gap B r w) hg
  have e : ∀ {c : Nat} k, c ≠ 256 → (zm_ch B r w (zm_gap B r w)).2.2 c k = B c k := fun k hc => zm_ch_oth B r w k hc _
  rw [zc_commit, zm_commit, eh, el]
  have q := rl_c2 (A := A) (Y := (zm_ch B r w (zm_gap B r w)).2.2) (f := (zm_ch B r w (zm_gap B r w)).1) (l := B 224 r) hr (rl_T_ext (fun _ _ _ => rfl) (fun c k hc => e k (by omega)) hT) (rl_V_ext (fun _ _ _ _ => rfl) (fun c k hc => e k (by omega)) hV) c1 (zm_C_ext (fun c k hc => e k (by omega)) hC) (rl_D_ext (fun _ _ _ => rfl) (fun k => e k (by decide)) hD) (rl_I_ext (fun c k hc => e k (by omega)) hI) (rl_K_ext (fun _ => rfl) (fun c k hc => e k (by omega)) hK) (rl_Bk_ext (fun _ _ _ => rfl) (fun c k hc => e k (by omega)) bk) (fun k hk => by have z := c5 k hk; exact ⟨z.1, z.2.1, by rw [e _ (by decide)]; exact z.2.2⟩) ((w - B 224 r) / 2)
  exact ⟨rl_Bk_ext (fun c k hc => wx_u_nc (by omega)) (fun c k hc => wx_u_nc (by omega)) q.1, rl_K_ext (fun k => wx_u_nc (by omega)) (fun c k hc => wx_u_nc (by omega)) q.2⟩
