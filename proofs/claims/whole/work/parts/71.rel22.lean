/-! what the calls answer -/
theorem rl_ql {A B : wx_S} {r : Nat} (hQ : rl_Q A B r) : ∀ t, t ≤ B 136 1 → ∃ j, j ≤ A (68 + r) 1 ∧ (∀ i, i < A (68 + r) 1 → (A (72 + r) i < t ↔ i < j)) ∧ zm_ql B r t = j - A (68 + r) 2
  | 0, _ => ⟨0, Nat.zero_le _, fun i _ => by omega, by rw [zm_ql, Nat.zero_sub]⟩
  | t + 1, ht => by
    obtain ⟨j, j1, j2, j3⟩ := rl_ql hQ t (by omega)
    obtain ⟨q1, q2, q3, q4, q5⟩ := hQ
    rw [zm_ql]
    by_cases ho : B 152 t = r
    · obtain ⟨i, hi, e⟩ := q4 t (by omega) ho
      have hij : i = j := by
        have n1 : ¬ i < j := fun z => by have := (j2 i hi).mpr z; omega
        refine Classical.byContradiction (fun hne => ?_)
        have hji : j < i := by omega
        have := (j2 j (by omega))
        have l := q3 j i hji hi
        have : A (72 + r) j < t := by omega
        have := (j2 j (by omega)).mp this
        omega
      subst hij
      have p := q5 i hi
      rw [e] at p
      refine ⟨i + 1, by omega, fun k hk => ?_, ?_⟩
      · constructor
        · intro hl
          by_cases hki : k = i
          · omega
          · have hne : A (72 + r) k ≠ t := fun z => by
              by_cases hlt : k < i
              · have := q3 k i hlt hi; omega
              · have := q3 i k (by omega) hk; omega
            have := (j2 k hk).mp (by omega)
            omega
        · intro hl
          by_cases hki : k = i
          · rw [hki]; omega
          · have := (j2 k hk).mpr (by omega); omega
      · by_cases hp : B 156 t = 0
        · rw [if_pos ⟨ho, hp⟩, j3]
          have := p.mp hp
          omega
        · rw [if_neg (fun z => hp z.2), j3]
          have : ¬ A (68 + r) 2 ≤ i := fun z => hp (p.mpr z)
          omega
    · rw [if_neg (fun z => ho z.1)]
      refine ⟨j, j1, fun k hk => ?_, j3⟩
      have z := q2 k hk
      have hne : A (72 + r) k ≠ t := fun y => ho (by rw [← y]; exact z.2)
      have := j2 k hk
      constructor
      · intro hl; exact this.mp (by omega)
      · intro hl; have := this.mpr hl; omega
theorem rl_qlen {A B : wx_S} {r : Nat} (hQ : rl_Q A B r) : zm_ql B r (B 136 1) = A (68 + r) 1 - A (68 + r) 2 := by
  obtain ⟨j, j1, j2, j3⟩ := rl_ql hQ (B 136 1) (Nat.le_refl _)
  have : j = A (68 + r) 1 := by
    refine Classical.byContradiction (fun hne => ?_)
    have := (j2 j (by omega)).mp (hQ.2.1 j (by omega)).1
    omega
  rw [j3, this]
theorem rl_qle {A B : wx_S} {r : Nat} (hQ : rl_Q A B r) : A (68 + r) 1 ≤ B 136 1 :=
  zz_pig (B 136 1) (A (68 + r) 1) (fun i => A (72 + r) i) (fun i hi => (hQ.2.1 i hi).1) (fun i j hi hj e => by
    change A (72 + r) i = A (72 + r) j at e
    by_cases h1 : i < j
    · have := hQ.2.2.1 i j h1 hj; omega
    · by_cases h2 : j < i
      · have := hQ.2.2.1 j i h2 hi; omega
      · omega)
theorem rl_dag {A B : wx_S} {r a w : Nat} (h : rl_R A B) (hr : r < 4) (h1 : 1 ≤ w) (hw : w ≤ 14) (ha : a < 4) : A (104 + r) (w * 4 + a) = if B 228 (60 * r + 4 * w + a) = 0 then 4294967295 else B 228 (60 * r + 4 * w + a) - 1 := (h.2 r hr).1.2.2.2.2.2.2.1.1 w a h1 hw ha
theorem rl_pos {A B : wx_S} {r : Nat} (h : rl_R A B) (hr : r < 4) : A (112 + r) 2 = B 248 r ∧ ∀ k, k < B 248 r → A (116 + r) k = B 244 (40 * r + k) := by
  have hY := (h.2 r hr).2
  by_cases hd : rl_dead B r
  · have q := hY.1 hd
    exact ⟨by rw [q.1, q.2.2.1], fun k hk => by rw [q.2.2.1] at hk; omega⟩
  · have q := hY.2.1 hd
    exact ⟨q.1, q.2.2.1⟩
theorem rl_bal {A B : wx_S} {r a : Nat} (h : rl_R A B) (hr : r < 4) (ha : a < 4) : A (120 + r) a = if rl_dead B r then 0 else B 252 (4 * r + a) := by
  have hY := (h.2 r hr).2
  by_cases hd : rl_dead B r
  · rw [if_pos hd]; exact ((hY.1 hd).2.2.2 a ha).1
  · rw [if_neg hd]; exact (hY.2.1 hd).2.2.2 a ha
theorem rl_msg {A B : wx_S} (h : rl_R A B) (k q : Nat) : zc_msg A k q = zm_msg B k q := by
  have M := h.1.2.2.1
  unfold zc_msg zm_msg
  rw [M.1]
  by_cases hk : k < B 136 13
  · have m := M.2 k hk
    rw [if_pos hk, m.1, m.2.1, m.2.2]
    by_cases h0 : q = 0
    · rw [if_pos h0, if_pos ⟨hk, by omega⟩, if_pos h0]
    · by_cases h1 : q = 1
      · rw [if_neg h0, if_pos h1, if_pos ⟨hk, by omega⟩, if_neg h0, if_pos h1]
      · by_cases h2 : q = 2
        · rw [if_neg h0, if_neg h1, if_pos h2, if_pos ⟨hk, by omega⟩, if_neg h0, if_neg h1]
        · rw [if_neg h0, if_neg h1, if_neg h2, if_neg (by omega)]
  · rw [if_neg hk, if_neg (fun z => hk z.1)]
theorem rl_vtx {A B : wx_S} (h : rl_R A B) (k q : Nat) : zc_vtx A k q = zm_vtx B k q := by
  have V := h.1.2.1
  unfold zc_vtx zm_vtx
  rw [V.1]
  by_cases hk : k < B 136 7
  · have m := V.2 k hk
    rw [if_pos hk, m.1, m.2.1, m.2.2.1, m.2.2.2.1, m.2.2.2.2]
    by_cases h5 : q ≤ 4
    · rw [if_pos (show k < B 136 7 ∧ q ≤ 4 from ⟨hk, h5⟩)]
      rcases (show q = 0 ∨ q = 1 ∨ q = 2 ∨ q = 3 ∨ q = 4 by omega) with e | e | e | e | e <;> subst e <;> rfl
    · rw [if_neg (show ¬ (k < B 136 7 ∧ q ≤ 4) from fun z => h5 z.2), if_neg (by omega), if_neg (by omega), if_neg (by omega), if_neg (by omega), if_neg (by omega)]
  · rw [if_neg hk, if_neg (fun z => hk z.1)]
