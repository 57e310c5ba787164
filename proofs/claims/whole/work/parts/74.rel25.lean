/-! the contracts of act, under the relation -/
def rl_IA (r : Nat) (X : wx_S) : Prop := ∃ B, rl_R X B ∧ rl_cl X ∧ rl_ph B r
def rl_IB (r : Nat) (X : wx_S) : Prop := ∃ A, rl_R A X ∧ rl_ph X r
theorem rl_IA0 {r : Nat} (hr : r < 4) : ∀ X, rl_IA r X → zc_I0 X r := fun X ⟨_, h, hc, hp⟩ => rl_zcI0 hr h hc hp
theorem rl_IB0 {r : Nat} (hr : r < 4) : ∀ X, rl_IB r X → zm_I0 X r := fun X ⟨_, h, hp⟩ => rl_zmI0 hr h hp
theorem rl_IAs {r : Nat} (hr : r < 4) : ∀ X Y, rl_IA r X → X (64 + r) 8 = 1 → zc_step X r = some Y → rl_IA r Y := fun X Y ⟨B, h, hc, hp⟩ hu e => by
  have hup : B 192 r = 1 := by rw [← rl_up hr h]; exact hu
  rcases rl_step hr h hup with ⟨e1, _⟩ | ⟨A', B', e1, e2, h'⟩
  · rw [e1] at e; cases e
  · rw [e1] at e
    cases e
    exact ⟨B', h', rl_cl_step hr h hc e1, rl_ph_step hr h hup hp e2⟩
theorem rl_IBs {r : Nat} (hr : r < 4) : ∀ X Y, rl_IB r X → X 192 r = 1 → zm_step X r = some Y → rl_IB r Y := fun X Y ⟨A, h, hp⟩ hup e => by
  rcases rl_step hr h hup with ⟨_, e2⟩ | ⟨A', B', _, e2, h'⟩
  · rw [e2] at e; cases e
  · have p := rl_ph_step hr h hup hp e
    rw [e2] at e
    cases e
    exact ⟨A', h', p⟩
/-- what waits has different places: there is room -/
theorem rl_hw {A B : wx_S} {r : Nat} (hr : r < 4) (h : rl_R A B) : A (84 + r) 3 < 90 := by
  have ok := rl_Gok h hr
  obtain ⟨_, _, _, _, _, ⟨w1, w2, w3, w4⟩, _, _, ⟨_, hU, _, _⟩, _⟩ := (h.2 r hr).1
  have p := zz_pig 60 (A (84 + r) 3) (fun i => rl_key B (A (96 + r) i)) (fun i hi => by
    have v := ok.1.2.2.1 _ (w2 i hi)
    show 4 * B 164 (A (96 + r) i) + B 160 (A (96 + r) i) < 60
    omega) (fun i j hi hj e => by
    have v := ok.1.2.2.1 _ (w2 i hi)
    have v' := ok.1.2.2.1 _ (w2 j hj)
    change 4 * B 164 (A (96 + r) i) + B 160 (A (96 + r) i) = 4 * B 164 (A (96 + r) j) + B 160 (A (96 + r) j) at e
    exact w3 i j hi hj (hU _ _ (w2 i hi) (w2 j hj) ((w4 _ (w2 i hi)).mp ⟨i, hi, rfl⟩).1 ((w4 _ (w2 j hj)).mp ⟨j, hj, rfl⟩).1 (by clear w4; omega) (by clear w4; omega)))
  clear w4
  omega
theorem rl_zcN {A B : wx_S} {r : Nat} (hr : r < 4) (h : rl_R A B) : zc_N A r := by
  obtain ⟨h1, h2, _, h4, h5, _⟩ := (h.2 r hr).1
  refine ⟨h1.1, ?_, h1.2.2.2.2.2.2.1, fun a ha => (h4 a ha).1, fun u hu => ?_⟩
  · rcases h2 with z | z <;> omega
  · have z := h5 u hu
    rw [z.1.1, z.1.2]
    exact z.2.1
