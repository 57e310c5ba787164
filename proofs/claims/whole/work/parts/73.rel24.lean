theorem rl_msk_lt {B : wx_S} {r : Nat} : ∀ n, (∀ k, k < n → B 244 (40 * r + k) < 40) → zm_msk B r n < 2 ^ 40
  | 0, _ => by rw [zm_msk]; decide
  | n + 1, h => by
    rw [zm_msk]
    exact Nat.or_lt_two_pow (rl_msk_lt n (fun k hk => h k (by omega))) (zn_p40 (h n (by omega)))
theorem rl_zcok {A B : wx_S} {r : Nat} (hr : r < 4) (h : rl_R A B) (hcl : rl_cl A) (hup : B 192 r = 1) : zc_ok A r := by
  have ok := rl_Gok h hr
  have h7 := (h.2 r hr).1.2.2.2.2.2.2.1
  have hY := (h.2 r hr).2
  have e7 := h.1.2.1.1
  have b := hY.2.1 (by rw [rl_dead]; omega)
  have zB := hY.2.2
  have c := hcl.2 r hr
  refine ⟨rl_zcV h, ⟨fun k hk => ?_, fun w hw => ?_⟩, ?_, ?_, ?_⟩
  · by_cases h4 : k < 4
    · exact Or.inr (c.1 k h4)
    · by_cases h60 : 60 ≤ k
      · have := h7.2.1 (k - 60) (by omega)
        rw [show 15 * 4 + (k - 60) = k by omega] at this
        exact Or.inr this
      · have d := h7.1 (k / 4) (k % 4) (by omega) (by omega) (by omega)
        have l := rl_D_le hr ok.2.1 (show k / 4 ≤ 14 by omega) (show k % 4 < 4 by omega)
        rw [show k / 4 * 4 + k % 4 = k by omega] at d
        rw [d, e7]
        split
        · exact Or.inr rfl
        · exact Or.inl (by omega)
  · by_cases h15 : w = 15
    · rw [h15, c.2]; decide
    · rw [rl_set h7 (by omega)]; exact zm_th_lt B r w 4 (Nat.le_refl _)
  · rw [b.2.1]; exact rl_msk_lt _ zB.2.1
  · rw [b.1, b.2.1]; exact zB.1
  · have z := zB.2.2
    have b0 := b.2.2.2 0 (by decide)
    rw [Nat.add_zero] at b0
    rw [b0, b.2.2.2 1 (by decide), b.2.2.2 2 (by decide), b.2.2.2 3 (by decide)]
    exact z
/-- room on the board: at most one ADVANCE in an act -/
def rl_ph (B : wx_S) (r : Nat) : Prop := B 136 13 ≤ 800 ∨ (B 136 13 ≤ 801 ∧ B 204 r ≠ 0 ∧ B 228 (60 * r + 4 * B 204 r + r) = 0 ∧ ∀ u, u < B 136 7 → B 164 u = B 204 r → B 160 u = r → zn_ones (B 236 (90 * r + u)) < 3)
theorem rl_ph_adv {B : wx_S} {r : Nat} (h : rl_ph B r) (ha : zm_adv B r) : B 136 13 ≤ 800 := by
  rcases h with h | ⟨_, h1, h2, _⟩
  · exact h
  · exfalso
    rcases ha.2.2 with z | z
    · exact h1 z.1
    · exact ((rl_th_bit B r (B 204 r) r 4).mp z.2.1).2.2 h2
theorem rl_zmI0 {A B : wx_S} {r : Nat} (hr : r < 4) (h : rl_R A B) (hp : rl_ph B r) : zm_I0 B r := by
  have ok := rl_Gok h hr
  obtain ⟨h1, h2, _, _, _, _, _, _, ⟨_, _, _, h12⟩, _⟩ := (h.2 r hr).1
  have G8 := h.1.2.2.2.2.2.2.2.1
  refine ⟨ok, h12, fun k hk => ?_, h1.2.2.2.2.2.2.2.2.1, h1.2.2.2.2.1.2, by have := h1.2.2.2.1.2; omega, ?_, fun t ht => ⟨(G8 t ht).1, (G8 t ht).2.1⟩, fun ha _ => by have := rl_ph_adv hp ha; omega, by have := h1.2.1.2; omega⟩
  · have p := ((h.2 (k / 90) (by omega)).1.2.2.2.2.1 (k % 90) (by omega)).2.1.2
    rw [show 90 * (k / 90) + k % 90 = k by omega] at p
    exact p
  · rcases h2 with z | z <;> omega
theorem rl_zcI0 {A B : wx_S} {r : Nat} (hr : r < 4) (h : rl_R A B) (hcl : rl_cl A) (hup : B 192 r = 1) (hp : rl_ph B r) : zc_I0 A r := by
  obtain ⟨h1, h2, h3, _, _, h6, _⟩ := (h.2 r hr).1
  have h40 : B 136 1 ≤ 40 := h.1.2.2.2.2.1.2.1
  have ql := rl_qle h3
  have e7 := h.1.2.1.1
  have e13 := h.1.2.2.1.1
  refine ⟨rl_zcok hr h hcl hup, h6.1, fun i hi => by rw [e7]; exact h6.2.1 i hi, hcl.1, ?_, h1.1, ?_, ?_, ?_, h1.2.2.2.2.2.2.1, ⟨by omega, h3.1⟩, fun hm _ => ?_, ?_⟩
  · rw [h1.2.2.2.2.2.2.2.1]; exact h1.2.2.2.2.2.2.2.2.1
  · rw [h1.2.2.2.2.1.1]; exact h1.2.2.2.2.1.2
  · rw [h1.2.2.2.1.1]; have := h1.2.2.2.1.2; omega
  · rcases h2 with z | z <;> omega
  · have := rl_ph_adv hp ((rl_may hr h).mp hm)
    omega
  · rw [h1.2.1.1]; have := h1.2.1.2; omega
