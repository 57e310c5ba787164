/-! the contracts of act, under the relation -/
def rl_IA (r : Nat) (X : wx_S) : Prop := ∃ B, rl_R X B ∧ rl_cl X ∧ rl_ph B r
def rl_IB (r : Nat) (X : wx_S) : Prop := ∃ A, rl_R A X ∧ rl_ph X r
theorem rl_IA0 {r : Nat} (hr : r < 4) : ∀ X, rl_IA r X → zc_I0 X r := fun X ⟨_, h, hc, hp⟩ => rl_zcI0 hr h hc hp
theorem rl_IB0 {r : Nat} (hr : r < 4) : ∀ X, rl_IB r X → zm_I0 X r := fun X ⟨_, h, hp⟩ => rl_zmI0 hr h hp
theorem rl_IAs {r : Nat} (hr : r < 4) : ∀ X Y, rl_IA r X → X (64 + r) 8 = 1 → zc_step X r = some Y → rl_IA r Y := fun X Y ⟨B, h, hc, hp⟩ hu e => by
  have hup : B 192 r = 1 := by rw [← rl_up hr h]; exact hu
  rcases rl_step hr h hup with ⟨e1, _⟩ | ⟨A', B', e1, e2, h'⟩
  · rw [e1] at e; cases e
  · rw [e1] at e
    cases e
    exact ⟨B', h', rl_cl_step hr h hc e1, rl_ph_step hr h hup hp e2⟩
theorem rl_IBs {r : Nat} (hr : r < 4) : ∀ X Y, rl_IB r X → X 192 r = 1 → zm_step X r = some Y → rl_IB r Y := fun X Y ⟨A, h, hp⟩ hup e => by
  rcases rl_step hr h hup with ⟨_, e2⟩ | ⟨A', B', _, e2, h'⟩
  · rw [e2] at e; cases e
  · have p := rl_ph_step hr h hup hp e
    rw [e2] at e
    cases e
    exact ⟨A', h', p⟩
