/-! both halves in one world -/
theorem rl_all_B {A B B' : wx_S} (h : rl_all A B) (e : rl_fA B B') : rl_all A B' :=
  ⟨rl_R_ext h.1 (fun _ _ _ => rfl) (fun c k hc _ _ _ => e c k hc) (fun c k hc _ => e c k (by omega)), h.2.1, rl_mo_ext (fun c k hc => e c k (by omega)) (e _ _ (by decide)) h.2.2.1, by rw [e _ _ (by decide)]; exact h.2.2.2⟩
theorem rl_all_A {A A' B : wx_S} (h : rl_all A B) (e : rl_fB A A') : rl_all A' B :=
  ⟨rl_R_ext h.1 (fun c k hc => e c k hc) (fun _ _ _ _ _ _ => rfl) (fun _ _ _ _ => rfl), rl_cl_ext (fun c k hc => e c k (by omega)) h.2.1, h.2.2.1, h.2.2.2⟩
theorem rl_all_thr {A B : wx_S} (v : Nat) (h : rl_all A B) : rl_all A (wx_u B 136 0 v) := ⟨rl_thr v h.1, h.2.1, rl_mo_ext (fun c k hc => wx_u_nc (by omega)) (wx_u_nk (by decide)) h.2.2.1, by rw [wx_u_nk (by decide)]; exact h.2.2.2⟩
/-- a call of the class, and then the same call of the reference -/
theorem rl_join {X X1 X2 : wx_S} (h : rl_all X X1 → rl_all X1 X2) (h0 : rl_all X X) (f : rl_fA X X1) (g : rl_fB X1 X2) : rl_all X2 X2 := rl_all_A (h (rl_all_B h0 f)) g
