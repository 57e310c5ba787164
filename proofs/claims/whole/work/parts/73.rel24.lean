theorem rl_msk_lt {B : wx_S} {r : Nat} : ∀ n, (∀ k, k < n → B 244 (40 * r + k) < 40) → zm_msk B r n < 2 ^ 40
  | 0, _ => by rw [zm_msk]; decide
  | n + 1, h => by
    rw [zm_msk]
    exact Nat.or_lt_two_pow (rl_msk_lt n (fun k hk => h k (by omega))) (zn_p40 (h n (by omega)))
theorem rl_zcok {A B : wx_S} {r : Nat} (hr : r < 4) (h : rl_R A B) (hcl : rl_cl A) : zc_ok A r := by
  have ok := rl_Gok h hr
  have h7 := (h.2 r hr).1.2.2.2.2.2.2.1
  have hY := (h.2 r hr).2
  have e7 := h.1.2.1.1
  have zB := hY.2.2
  have c := hcl.2 r hr
  refine ⟨rl_zcV h, ⟨fun k hk => ?_, fun w hw => ?_⟩, ?_⟩
  · by_cases h4 : k < 4
    · exact Or.inr (c.1 k h4)
    · by_cases h60 : 60 ≤ k
      · have := h7.2.1 (k - 60) (by omega)
        rw [show 15 * 4 + (k - 60) = k by omega] at this
        exact Or.inr this
      · have d := h7.1 (k / 4) (k % 4) (by omega) (by omega) (by omega)
        have l := rl_D_le hr ok.2.1 (show k / 4 ≤ 14 by omega) (show k % 4 < 4 by omega)
        rw [show k / 4 * 4 + k % 4 = k by omega] at d
        rw [d, e7]
        split
        · exact Or.inr rfl
        · exact Or.inl (by omega)
  · by_cases h15 : w = 15
    · rw [h15, c.2]; decide
    · rw [rl_set h7 (by omega)]; exact zm_th_lt B r w 4 (Nat.le_refl _)
  · by_cases hd : rl_dead B r
    · have q := hY.1 hd
      refine ⟨by rw [q.2.1]; decide, by rw [q.1, q.2.1, zn_pop0], ?_⟩
      rw [(q.2.2.2 0 (by decide)).1, (q.2.2.2 1 (by decide)).1, (q.2.2.2 2 (by decide)).1, (q.2.2.2 3 (by decide)).1]
      decide
    · have b := hY.2.1 hd
      refine ⟨by rw [b.2.1]; exact rl_msk_lt _ zB.2.1, by rw [b.1, b.2.1]; exact zB.1, ?_⟩
      have z := zB.2.2
      have b0 := b.2.2.2 0 (by decide)
      rw [Nat.add_zero] at b0
      rw [b0, b.2.2.2 1 (by decide), b.2.2.2 2 (by decide), b.2.2.2 3 (by decide)]
      exact z
/-- room on the board: at most one ADVANCE in an act -/
def rl_ph (B : wx_S) (r : Nat) : Prop := B 136 13 ≤ 800 ∨ (B 136 13 ≤ 801 ∧ B 204 r ≠ 0 ∧ B 228 (60 * r + 4 * B 204 r + r) = 0 ∧ ∀ u, u < B 136 7 → B 164 u = B 204 r → B 160 u = r → zn_ones (B 236 (90 * r + u)) < 3)
theorem rl_ph_adv {B : wx_S} {r : Nat} (h : rl_ph B r) (ha : zm_adv B r) : B 136 13 ≤ 800 := by
  rcases h with h | ⟨_, h1, h2, _⟩
  · exact h
  · exfalso
    rcases ha.2.2 with z | z
    · exact h1 z.1
    · exact ((rl_th_bit B r (B 204 r) r 4).mp z.2.1).2.2 h2
theorem rl_zmI0 {A B : wx_S} {r : Nat} (hr : r < 4) (h : rl_R A B) (hp : rl_ph B r) : zm_I0 B r := by
  have ok := rl_Gok h hr
  obtain ⟨h1, h2, _, _, _, _, _, _, ⟨_, _, _, h12⟩, _⟩ := (h.2 r hr).1
  have G8 := h.1.2.2.2.2.2.2.2.1
  refine ⟨ok, h12, fun k hk => ?_, h1.2.2.2.2.2.2.2.2.1, h1.2.2.2.2.1.2, by have := h1.2.2.2.1.2; omega, ?_, fun t ht => ⟨(G8 t ht).1, (G8 t ht).2.1⟩, fun ha _ => by have := rl_ph_adv hp ha; omega, by have := h1.2.1.2; omega⟩
  · have p := ((h.2 (k / 90) (by omega)).1.2.2.2.2.1 (k % 90) (by omega)).2.1.2
    rw [show 90 * (k / 90) + k % 90 = k by omega] at p
    exact p
  · rcases h2 with z | z <;> omega
theorem rl_zcI0 {A B : wx_S} {r : Nat} (hr : r < 4) (h : rl_R A B) (hcl : rl_cl A) (hp : rl_ph B r) : zc_I0 A r := by
  obtain ⟨h1, h2, h3, _, _, h6, _⟩ := (h.2 r hr).1
  have h40 : B 136 1 ≤ 40 := h.1.2.2.2.2.1.2.1
  have ql := rl_qle h3
  have e7 := h.1.2.1.1
  have e13 := h.1.2.2.1.1
  refine ⟨rl_zcok hr h hcl, h6.1, fun i hi => by rw [e7]; exact h6.2.1 i hi, hcl.1, ?_, h1.1, ?_, ?_, ?_, h1.2.2.2.2.2.2.1, ⟨by omega, h3.1⟩, fun hm _ => ?_, ?_⟩
  · rw [h1.2.2.2.2.2.2.2.1]; exact h1.2.2.2.2.2.2.2.2.1
  · rw [h1.2.2.2.2.1.1]; exact h1.2.2.2.2.1.2
  · rw [h1.2.2.2.1.1]; have := h1.2.2.2.1.2; omega
  · rcases h2 with z | z <;> omega
  · have := rl_ph_adv hp ((rl_may hr h).mp hm)
    omega
  · rw [h1.2.1.1]; have := h1.2.1.2; omega
/-- the room is kept by a step -/
theorem rl_ph_step {A B Y : wx_S} {r : Nat} (hr : r < 4) (h : rl_R A B) (hup : B 192 r = 1) (hp : rl_ph B r) (e : zm_step B r = some Y) : rl_ph Y r := by
  have ok := rl_Gok h hr
  unfold zm_step at e
  split at e
  · rename_i hn
    cases e
    have sp := rl_ins_spec B r (B 136 7) ok.1.1
    have i1 : zm_ins B r (B 136 7) < B 136 7 ∧ zm_may B r (zm_ins B r (B 136 7)) := by
      rcases sp with z | z
      · exact absurd z.1 hn
      · exact ⟨z.1, z.2.1⟩
    have v := ok.1.2.2.1 _ i1.1
    rcases hp with p | ⟨p1, p2, p3, p4⟩
    · exact Or.inl (by rw [wx_u_nc (by decide)]; exact p)
    · refine Or.inr ?_
      rw [wx_u_nc (c' := 136) (by decide), wx_u_nc (c' := 204) (by decide)]
      refine ⟨p1, p2, ?_, fun u hu a1 a2 => ?_⟩
      · rw [wx_u_nk]
        · exact p3
        · intro q
          have e1 : B 164 (zm_ins B r (B 136 7)) = B 204 r := by omega
          have e2 : B 160 (zm_ins B r (B 136 7)) = r := by omega
          have := p4 _ i1.1 e1 e2
          have := i1.2.1
          omega
      · rw [wx_u_nc (by decide)] at hu a1 a2
        rw [wx_u_nc (by decide)]
        exact p4 u hu a1 a2
  · split at e
    · rename_i hn
      cases e
      have h1 := (h.2 r hr).1.1
      obtain ⟨_, _, _, _, _, _, _, _, ⟨h9, _, h11, h12⟩, _⟩ := (h.2 r hr).1
      rcases zm_cs_all B r with hc | ⟨k, k1, k2, k3⟩
      · exact absurd hc hn
      · obtain ⟨_, _, _, oth⟩ := rl_cmB hr ok h12 h9 h11 (w := zm_com B r) ⟨by omega, by omega, by rw [k1]; exact k3.1⟩ (by omega)
        have eB : ∀ {c : Nat} (k : Nat), c ≠ 240 → c ≠ 244 → c ≠ 248 → c ≠ 252 → c ≠ 256 → c ≠ 224 → zm_commit B r (zm_com B r) c k = B c k := fun k a1 a2 a3 a4 a5 a6 => by rw [oth _ k a1 a2 a3 a4 a5]; exact wx_u_nc a6
        unfold rl_ph
        simp only [show ∀ k, zm_commit B r (zm_com B r) 136 k = B 136 k from fun k => eB k (by decide) (by decide) (by decide) (by decide) (by decide) (by decide), show ∀ k, zm_commit B r (zm_com B r) 204 k = B 204 k from fun k => eB k (by decide) (by decide) (by decide) (by decide) (by decide) (by decide), show ∀ k, zm_commit B r (zm_com B r) 228 k = B 228 k from fun k => eB k (by decide) (by decide) (by decide) (by decide) (by decide) (by decide), show ∀ k, zm_commit B r (zm_com B r) 164 k = B 164 k from fun k => eB k (by decide) (by decide) (by decide) (by decide) (by decide) (by decide), show ∀ k, zm_commit B r (zm_com B r) 160 k = B 160 k from fun k => eB k (by decide) (by decide) (by decide) (by decide) (by decide) (by decide), show ∀ k, zm_commit B r (zm_com B r) 236 k = B 236 k from fun k => eB k (by decide) (by decide) (by decide) (by decide) (by decide) (by decide)]
        exact hp
    · split at e
      · rename_i ha
        cases e
        have p8 := rl_ph_adv hp ha
        unfold zm_advance
        split
        · exact Or.inl (by rw [zm_fa_oth _ _ _ (by decide) (by decide) (by decide) (by decide) (by decide) (by decide) (by decide) (by decide) (by decide) (by decide) (by decide)]; exact p8)
        · have hV9 := ok.1.1
          have a1 := ha.1
          have a2 := ha.2.1
          obtain ⟨_, _, _, _, hP, _, _, _, ⟨h9, _, _, _⟩, _⟩ := (h.2 r hr).1
          have H5 := h.1.2.2.2.2.2.2.2.2.2.2.2.2
          have oW : ∀ {c : Nat} k, c ≠ 200 → c ≠ 196 → zm_wrote B r c k = B c k := fun k b1 b2 => zm_wrote_oth B r k b1 b2
          rw [zm_made_eq]
          generalize zm_q (zm_wrote B r) r 0 = one
          generalize zm_two (zm_wrote B r) r = two
          generalize zm_th B r (B 204 r) 4 = set
          rw [oW (c := 204) _ (by decide) (by decide), oW (c := 136) _ (by decide) (by decide)]
          have oV : ∀ {c : Nat} k, c ≠ 156 → c ≠ 200 → c ≠ 196 → c ≠ 204 → wx_u (rl_m1 (rl_m1 (zm_wrote B r) one) two) 204 r (B 204 r + 1) c k = B c k := fun k b1 b2 b3 b4 => by rw [wx_u_nc b4, rl_m1_oth _ _ _ b1, rl_m1_oth _ _ _ b1, oW k b2 b3]
          have o204 : wx_u (rl_m1 (rl_m1 (zm_wrote B r) one) two) 204 r (B 204 r + 1) 204 r = B 204 r + 1 := wx_u_eq _ _ _ _
          generalize wx_u (rl_m1 (rl_m1 (zm_wrote B r) one) two) 204 r (B 204 r + 1) = V at oV o204 ⊢
          obtain ⟨m2, m3⟩ := zm_mk V r (B 204 r + 1) set one two
          have m1 : ∀ c i, c ≠ 160 → c ≠ 164 → c ≠ 168 → c ≠ 172 → c ≠ 176 → ¬ (c = 136 ∧ i = 7) → zm_make V r (B 204 r + 1) set one two c i = V c i := fun c i b1 b2 b3 b4 b5 b6 => zm_make_oth V _ _ _ _ _ b1 b2 b3 b4 b5 b6
          obtain ⟨s1, s2, _⟩ := zm_sa (zm_make V r (B 204 r + 1) set one two) r (B 136 7) 0
          have v7 : V 136 7 = B 136 7 := oV _ (by decide) (by decide) (by decide) (by decide)
          have big : ∀ u, u < B 136 7 → B 164 u = B 204 r + 1 → B 160 u = r → False := fun u hu b1 b2 => by
            have z := H5 u hu (by rw [b2]; omega)
            rw [b2] at z
            omega
          refine Or.inr ?_
          rw [wx_u_nc (c' := 136) (by decide), wx_u_nc (c' := 136) (by decide), wx_u_nc (c' := 204) (by decide), wx_u_nc (c' := 228) (by decide), s2, m1 136 13 (by decide) (by decide) (by decide) (by decide) (by decide) (by omega), oV _ (by decide) (by decide) (by decide) (by decide), s1 204 _ (by decide) (by decide) (by decide) (by omega), m1 204 _ (by decide) (by decide) (by decide) (by decide) (by decide) (by omega), o204, s1 228 _ (by decide) (by decide) (by decide) (by omega), m1 228 _ (by decide) (by decide) (by decide) (by decide) (by decide) (by omega), oV (c := 228) _ (by decide) (by decide) (by decide) (by decide), s1 136 7 (by decide) (by decide) (by decide) (by omega), m2, v7]
          refine ⟨by omega, by omega, Classical.byContradiction (fun hD => ?_), fun u hu b1 b2 => ?_⟩
          · have g := h9 (B 204 r + 1) r (by omega) (by omega) hr hD
            have l := rl_D_le hr ok.2.1 (show B 204 r + 1 ≤ 14 by omega) hr
            exact big _ (by omega) g.1 g.2
          · rw [wx_u_nc (by decide), s1 _ _ (by decide) (by decide) (by decide) (by omega)] at b1 b2
            rw [(m3 u).2.1, v7] at b1
            rw [(m3 u).1, v7] at b2
            rw [wx_u_nc (by decide), s1 _ _ (by decide) (by decide) (by decide) (by omega), m1 _ _ (by decide) (by decide) (by decide) (by decide) (by decide) (by omega), oV _ (by decide) (by decide) (by decide) (by decide)]
            by_cases hun : u = B 136 7
            · rw [(hP u (by omega)).2.2 (by omega)]; decide
            · rw [if_neg hun, oV _ (by decide) (by decide) (by decide) (by decide)] at b1 b2
              exact absurd (big u (by omega) b1 b2) id
      · cases e
