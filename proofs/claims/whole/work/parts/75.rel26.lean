/-! the class's calls leave the reference's cells -/
def rl_fA (A A' : wx_S) : Prop := ∀ c k, 136 ≤ c → A' c k = A c k
theorem rl_fA_tr {A B C : wx_S} (h : rl_fA A B) (g : rl_fA B C) : rl_fA A C := fun c k hc => (g c k hc).trans (h c k hc)
theorem rl_fA_u {A : wx_S} {q i v : Nat} (h : q < 136) : rl_fA A (wx_u A q i v) := fun c k hc => wx_u_nc (by omega)
theorem rl_fA_gd {A : wx_S} {r : Nat} (hr : r < 4) : rl_fA A (zc_goDown A r) := fun c k hc => zc_gd_oth A r k (by omega) (by omega) (by omega) (by omega) (by omega) (by omega) (by omega) (by omega) (by omega) (by omega) (by omega)
theorem rl_fA_wr {A : wx_S} {r : Nat} (hr : r < 4) : rl_fA A (zc_wrote A r) := fun c k hc => zc_wrote_oth A r k (by omega) (by omega)
theorem rl_fA_po {A : wx_S} {k q u : Nat} : rl_fA A (zc_post A k q u) := fun c i hc => (zc_po A k q u).1 c i (by omega) (by omega) (by omega) (by omega)
theorem rl_fA_va {A : wx_S} {a w q f u : Nat} : rl_fA A (zc_vadd A a w q f u) := fun c i hc => zc_vadd_oth A a w q f u (by omega)
theorem rl_fA_made {A : wx_S} {r : Nat} (hr : r < 4) : rl_fA A (zc_made A r) := by
  unfold zc_made
  refine rl_fA_tr ?_ (rl_fA_u (by omega))
  refine rl_fA_tr ?_ rl_fA_po
  refine rl_fA_tr ?_ rl_fA_va
  exact fun c k hc => by rw [wx_u_nc (by omega), zc_qX_oth _ _ (by omega), zc_qX_oth _ _ (by omega)]
theorem rl_fA_step {A Y : wx_S} {r : Nat} (hr : r < 4) (e : zc_step A r = some Y) : rl_fA A Y := by
  unfold zc_step at e
  split at e
  · cases e
    exact fun c k hc => zc_ins_oth A r _ k (by omega) (by omega) (by omega) (by omega) (by omega)
  · split at e
    · cases e
      exact fun c k hc => zc_commit_oth A r _ k (by omega) (by omega) (by omega) (by omega) (by omega) (by omega)
    · split at e
      · cases e
        unfold zc_advance
        split
        · exact rl_fA_gd hr
        · exact rl_fA_tr (rl_fA_wr hr) (rl_fA_made hr)
      · cases e
theorem rl_fA_actF {r : Nat} (hr : r < 4) : ∀ n A, rl_fA A (zc_actF r n A)
  | 0, A => fun _ _ _ => rfl
  | n + 1, A => by
    rw [zc_actF]
    split
    · cases e : zc_step A r with
      | none => exact fun _ _ _ => rfl
      | some Y => exact rl_fA_tr (rl_fA_step hr e) (rl_fA_actF hr n Y)
    · exact fun _ _ _ => rfl
theorem rl_fA_act {A : wx_S} {r : Nat} (hr : r < 4) : rl_fA A (zc_act A r) := rl_fA_actF hr 1000 A
theorem rl_fA_ans {A : wx_S} {r b k u : Nat} (hr : r < 4) (hb : b < 136) : rl_fA A (zc_ans A r b k u) := by
  unfold zc_ans
  split
  · exact rl_fA_gd hr
  · exact rl_fA_tr (rl_fA_tr (rl_fA_wr hr) (rl_fA_u hb)) rl_fA_po
theorem rl_fA_bec {A : wx_S} {r u : Nat} (hr : r < 4) : rl_fA A (zc_bec A r u) := by
  unfold zc_bec
  split
  · exact fun _ _ _ => rfl
  · exact rl_fA_ans hr (by omega)
theorem rl_fA_tk {A : wx_S} {r m : Nat} (hr : r < 4) : rl_fA A (zc_tk A r m) := by
  have n1 : ∀ u q, rl_fA A (zc_nE A r u q) := fun u q c k hc => zc_nE_oth A r u q k (by omega)
  have n2 : ∀ u q, rl_fA A (zc_nR A r u q) := fun u q c k hc => zc_nR_oth A r u q k (by omega) (by omega) (by omega)
  unfold zc_tk
  split
  · unfold zc_tkS
    split
    · exact rl_fA_ans hr (by omega)
    · exact fun _ _ _ => rfl
  · split
    · unfold zc_tkE
      split
      · exact n1 _ _
      · exact rl_fA_tr (n1 _ _) (rl_fA_bec hr)
    · unfold zc_tkR
      split
      · exact n2 _ _
      · exact rl_fA_tr (n2 _ _) (rl_fA_bec hr)
theorem rl_fA_take {A : wx_S} {r m : Nat} (hr : r < 4) : rl_fA A (zc_take A r m) := rl_fA_tr (rl_fA_tk hr) (rl_fA_act hr)
theorem rl_fA_pm {r : Nat} (hr : r < 4) : ∀ n A, rl_fA A (zc_pm r n A).2
  | 0, A => fun _ _ _ => rfl
  | n + 1, A => by
    rw [zc_pm]
    split
    · exact rl_fA_tr (rl_fA_tr (rl_fA_u (by omega)) (rl_fA_take hr)) (rl_fA_pm hr n (zc_pmS A r))
    · exact fun _ _ _ => rfl
