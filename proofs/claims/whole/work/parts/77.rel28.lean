/-! marks of the reference are 0 or 1 -/
def rl_mo (B : wx_S) : Prop := (∀ i, B 208 i ≤ 1 ∧ B 212 i ≤ 1) ∧ B 136 34 ≤ 1
theorem rl_mo_ext {B B' : wx_S} (e : ∀ c k, c = 208 ∨ c = 212 → B' c k = B c k) (e2 : B' 136 34 = B 136 34) (h : rl_mo B) : rl_mo B' := ⟨fun i => by rw [e _ _ (by omega), e _ _ (by omega)]; exact h.1 i, by rw [e2]; exact h.2⟩
theorem rl_mo_u {B : wx_S} {q i v : Nat} (h1 : q ≠ 208) (h2 : q ≠ 212) (h3 : ¬ (136 = q ∧ 34 = i)) (h : rl_mo B) : rl_mo (wx_u B q i v) := rl_mo_ext (fun c k hc => wx_u_nc (by omega)) (wx_u_ne h3) h
theorem rl_mo_1 {B : wx_S} {q i : Nat} (hq : q = 208 ∨ q = 212) (h : rl_mo B) : rl_mo (wx_u B q i 1) := by
  refine ⟨fun k => ?_, by rw [wx_u_nc (by omega)]; exact h.2⟩
  have z := h.1 k
  simp only [wx_u]
  constructor
  · split
    · exact Nat.le_refl _
    · exact z.1
  · split
    · exact Nat.le_refl _
    · exact z.2
theorem rl_mo_fa {B : wx_S} {r : Nat} (h : rl_mo B) : rl_mo (zm_fall B r) := rl_mo_ext (fun c k hc => zm_fa_oth B r k (by omega) (by omega) (by omega) (by omega) (by omega) (by omega) (by omega) (by omega) (by omega) (by omega) (by omega)) (zm_fa_oth B r _ (by decide) (by decide) (by decide) (by decide) (by decide) (by decide) (by decide) (by decide) (by decide) (by decide) (by decide)) h
theorem rl_mo_wr {B : wx_S} {r : Nat} (h : rl_mo B) : rl_mo (zm_wrote B r) := rl_mo_ext (fun c k hc => zm_wrote_oth B r k (by omega) (by omega)) (zm_wrote_oth B r _ (by decide) (by decide)) h
theorem rl_mo_say {B : wx_S} {q u k : Nat} (h : rl_mo B) : rl_mo (zm_say B q u k) := rl_mo_ext (fun c i hc => (zm_sa B q u k).1 c i (by omega) (by omega) (by omega) (by omega)) ((zm_sa B q u k).1 _ _ (by decide) (by decide) (by decide) (by decide)) h
theorem rl_mo_mk {B : wx_S} {a w q f u : Nat} (h : rl_mo B) : rl_mo (zm_make B a w q f u) := rl_mo_ext (fun c i hc => zm_make_oth B a w q f u (by omega) (by omega) (by omega) (by omega) (by omega) (by omega)) (zm_make_oth B a w q f u (by decide) (by decide) (by decide) (by decide) (by decide) (by decide)) h
theorem rl_mo_made {B : wx_S} {r set one two : Nat} (h : rl_mo B) : rl_mo (zm_made B r set one two) := by
  rw [zm_made_eq]
  refine rl_mo_u (by decide) (by decide) (by omega) (rl_mo_say (rl_mo_mk (rl_mo_u (by decide) (by decide) (by omega) ?_)))
  exact rl_mo_ext (fun c k hc => by rw [rl_m1_oth _ _ _ (by omega), rl_m1_oth _ _ _ (by omega)]) (by rw [rl_m1_oth _ _ _ (by decide), rl_m1_oth _ _ _ (by decide)]) h
theorem rl_mo_step {B Y : wx_S} {r : Nat} (h : rl_mo B) (e : zm_step B r = some Y) : rl_mo Y := by
  unfold zm_step at e
  split at e
  · cases e; exact rl_mo_u (by decide) (by decide) (by omega) h
  · split at e
    · cases e
      exact rl_mo_ext (fun c k hc => by rw [zm_commit, wx_u_nc (by omega), zm_c2_oth _ _ _ _ _ (by omega) (by omega) (by omega) (by omega) (by omega), zm_ch_oth _ _ _ _ (by omega)]) (by rw [zm_commit, wx_u_nc (by decide), zm_c2_oth _ _ _ _ _ (by decide) (by decide) (by decide) (by decide) (by decide), zm_ch_oth _ _ _ _ (by decide)]) h
    · split at e
      · cases e
        unfold zm_advance
        split
        · exact rl_mo_fa h
        · exact rl_mo_made (rl_mo_wr h)
      · cases e
theorem rl_mo_actF {r : Nat} : ∀ n B, rl_mo B → rl_mo (zm_actF r n B)
  | 0, B, h => h
  | n + 1, B, h => by
    rw [zm_actF]
    split
    · cases e : zm_step B r with
      | none => exact h
      | some Y => exact rl_mo_actF n Y (rl_mo_step h e)
    · exact h
theorem rl_mo_ans {B : wx_S} {r b k u : Nat} (hb : b = 208 ∨ b = 212) (h : rl_mo B) : rl_mo (zm_ans B r b k u) := by
  unfold zm_ans
  split
  · exact rl_mo_fa h
  · exact rl_mo_say (rl_mo_1 hb (rl_mo_wr h))
theorem rl_mo_rdy {B : wx_S} {r u : Nat} (h : rl_mo B) : rl_mo (zm_rdy B r u) := by
  unfold zm_rdy
  split
  · exact rl_mo_ans (Or.inr rfl) h
  · exact h
theorem rl_mo_tk {B : wx_S} {r m : Nat} (h : rl_mo B) : rl_mo (zm_tk B r m) := by
  have n1 : ∀ u q, rl_mo (zm_nE B r u q) := fun u q => rl_mo_u (by decide) (by decide) (by omega) h
  have n2 : ∀ u q, rl_mo (zm_nR B r u q) := fun u q => rl_mo_u (by decide) (by decide) (by omega) h
  unfold zm_tk
  split
  · unfold zm_tkS
    split
    · exact rl_mo_ans (Or.inl rfl) h
    · exact h
  · split
    · unfold zm_tkE
      split
      · exact rl_mo_rdy (n1 _ _)
      · exact n1 _ _
    · unfold zm_tkR
      split
      · exact rl_mo_rdy (n2 _ _)
      · exact n2 _ _
