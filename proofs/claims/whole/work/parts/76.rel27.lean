/-! the reference's calls leave the class's cells -/
def rl_fB (B B' : wx_S) : Prop := ∀ c k, (c < 136 ∨ 260 ≤ c ∨ (c = 136 ∧ k = 0)) → B' c k = B c k
theorem rl_fB_id {B : wx_S} : rl_fB B B := fun _ _ _ => rfl
theorem rl_fB_tr {A B C : wx_S} (h : rl_fB A B) (g : rl_fB B C) : rl_fB A C := fun c k hc => (g c k hc).trans (h c k hc)
theorem rl_fB_u {B : wx_S} {q i v : Nat} (h : 136 < q ∧ q < 260) : rl_fB B (wx_u B q i v) := fun c k hc => wx_u_nc (by omega)
theorem rl_fB_fa {B : wx_S} {r : Nat} : rl_fB B (zm_fall B r) := fun c k hc => zm_fa_oth B r k (by omega) (by omega) (by omega) (by omega) (by omega) (by omega) (by omega) (by omega) (by omega) (by omega) (by omega)
theorem rl_fB_wr {B : wx_S} {r : Nat} : rl_fB B (zm_wrote B r) := fun c k hc => zm_wrote_oth B r k (by omega) (by omega)
theorem rl_fB_say {B : wx_S} {q u k : Nat} : rl_fB B (zm_say B q u k) := fun c i hc => (zm_sa B q u k).1 c i (by omega) (by omega) (by omega) (by omega)
theorem rl_fB_mk {B : wx_S} {a w q f u : Nat} : rl_fB B (zm_make B a w q f u) := fun c i hc => zm_make_oth B a w q f u (by omega) (by omega) (by omega) (by omega) (by omega) (by omega)
theorem rl_fB_m1 {B : wx_S} {x : Nat} : rl_fB B (rl_m1 B x) := fun c k hc => rl_m1_oth B x k (by omega)
theorem rl_fB_made {B : wx_S} {r set one two : Nat} : rl_fB B (zm_made B r set one two) := by
  rw [zm_made_eq]
  exact rl_fB_tr (rl_fB_tr (rl_fB_tr (rl_fB_tr (rl_fB_tr rl_fB_m1 rl_fB_m1) (rl_fB_u (by decide))) rl_fB_mk) rl_fB_say) (rl_fB_u (by decide))
theorem rl_fB_com {B : wx_S} {r w : Nat} : rl_fB B (zm_commit B r w) := fun c k hc => by
  rw [zm_commit, wx_u_nc (by omega), zm_c2_oth _ _ _ _ _ (by omega) (by omega) (by omega) (by omega) (by omega), zm_ch_oth _ _ _ _ (by omega)]
theorem rl_fB_step {B Y : wx_S} {r : Nat} (e : zm_step B r = some Y) : rl_fB B Y := by
  unfold zm_step at e
  split at e
  · cases e; exact rl_fB_u (by decide)
  · split at e
    · cases e; exact rl_fB_com
    · split at e
      · cases e
        unfold zm_advance
        split
        · exact rl_fB_fa
        · exact rl_fB_tr rl_fB_wr rl_fB_made
      · cases e
theorem rl_fB_actF {r : Nat} : ∀ n B, rl_fB B (zm_actF r n B)
  | 0, B => rl_fB_id
  | n + 1, B => by
    rw [zm_actF]
    split
    · cases e : zm_step B r with
      | none => exact rl_fB_id
      | some Y => exact rl_fB_tr (rl_fB_step e) (rl_fB_actF n Y)
    · exact rl_fB_id
theorem rl_fB_act {B : wx_S} {r : Nat} : rl_fB B (zm_act B r) := rl_fB_actF 1000 B
theorem rl_fB_ans {B : wx_S} {r b k u : Nat} (hb : 136 < b ∧ b < 260) : rl_fB B (zm_ans B r b k u) := by
  unfold zm_ans
  split
  · exact rl_fB_fa
  · exact rl_fB_tr (rl_fB_tr rl_fB_wr (rl_fB_u hb)) rl_fB_say
theorem rl_fB_rdy {B : wx_S} {r u : Nat} : rl_fB B (zm_rdy B r u) := by
  unfold zm_rdy
  split
  · exact rl_fB_ans (by decide)
  · exact rl_fB_id
theorem rl_fB_tk {B : wx_S} {r m : Nat} : rl_fB B (zm_tk B r m) := by
  have n1 : ∀ u q, rl_fB B (zm_nE B r u q) := fun u q => rl_fB_u (by decide)
  have n2 : ∀ u q, rl_fB B (zm_nR B r u q) := fun u q => rl_fB_u (by decide)
  unfold zm_tk
  split
  · unfold zm_tkS
    split
    · exact rl_fB_ans (by decide)
    · exact rl_fB_id
  · split
    · unfold zm_tkE
      split
      · exact rl_fB_tr (n1 _ _) rl_fB_rdy
      · exact n1 _ _
    · unfold zm_tkR
      split
      · exact rl_fB_tr (n2 _ _) rl_fB_rdy
      · exact n2 _ _
theorem rl_fB_take {B : wx_S} {r m : Nat} : rl_fB B (zm_take B r m) := rl_fB_tr rl_fB_tk rl_fB_act
theorem rl_fB_pm {r : Nat} : ∀ n B, rl_fB B (zm_pm r n B).2
  | 0, B => rl_fB_id
  | n + 1, B => by
    rw [zm_pm]
    split
    · exact rl_fB_tr (rl_fB_tr (rl_fB_u (by decide)) rl_fB_take) (rl_fB_pm n (zm_pmS B r))
    · exact rl_fB_id
