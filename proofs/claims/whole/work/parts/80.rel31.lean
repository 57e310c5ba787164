/-! both halves in one world -/
theorem rl_all_B {A B B' : wx_S} (h : rl_all A B) (e : ∀ c k, 136 ≤ c → c < 256 → B' c k = B c k) : rl_all A B' :=
  ⟨rl_R_ext h.1 (fun _ _ _ => rfl) (fun c k h1 h2 _ _ => e c k h1 h2) (fun c k h1 h2 => e c k (by omega) h2), h.2.1, rl_mo_ext (fun c k hc => e c k (by omega) (by omega)) (e _ _ (by decide) (by decide)) h.2.2.1, by rw [e _ _ (by decide) (by decide)]; exact h.2.2.2⟩
theorem rl_all_A {A A' B : wx_S} (h : rl_all A B) (e : ∀ c k, c < 136 → A' c k = A c k) : rl_all A' B :=
  ⟨rl_R_ext h.1 e (fun _ _ _ _ _ _ => rfl) (fun _ _ _ _ => rfl), rl_cl_ext (fun c k hc => e c k (by omega)) h.2.1, h.2.2.1, h.2.2.2⟩
theorem rl_all_thr {A B : wx_S} (v : Nat) (h : rl_all A B) : rl_all A (wx_u B 136 0 v) := ⟨rl_thr v h.1, h.2.1, rl_mo_ext (fun c k hc => wx_u_nc (by omega)) (wx_u_nk (by decide)) h.2.2.1, by rw [wx_u_nk (by decide)]; exact h.2.2.2⟩
/-- a call of the class, and then the same call of the reference: the same answer; out's cell may have changed between them -/
def rl_pair (rt : Option FieldType) (as : List Value) (yA : MethodName) (cA : ByteArray) (nA dA : Nat) (yB : MethodName) (cB : ByteArray) (nB dB : Nat) (X : wx_S) : Prop :=
  ∃ (v : Nat) (X1 : wx_S), (rt = some .boolean → v ≤ 1) ∧ nw_M wd_all yA cA nA rt dA 0 0 (.ref 0 :: as) X (fun w X' => w = some (.int (nI v)) ∧ X' = X1) ∧ (∀ k, X1 260 k = X 260 k) ∧ ∀ Y : wx_S, (∀ c k, c ≠ 260 → Y c k = X1 c k) → ∃ X2 : wx_S, nw_M wd_all yB cB nB rt dB 0 0 (.ref 136 :: as) Y (fun w X' => w = some (.int (nI v)) ∧ X' = X2) ∧ X2 136 0 = 0 ∧ (∀ k, X2 260 k = Y 260 k) ∧ rl_all X2 X2
theorem rl_mk {rt : Option FieldType} {as : List Value} {yA : MethodName} {cA : ByteArray} {nA dA : Nat} {yB : MethodName} {cB : ByteArray} {nB dB : Nat} {X : wx_S} (v : Nat) (X1 : wx_S) (h0 : rl_all X X) (hv : rt = some .boolean → v ≤ 1) (hA : nw_M wd_all yA cA nA rt dA 0 0 (.ref 0 :: as) X (fun w X' => w = some (.int (nI v)) ∧ X' = X1)) (fA : rl_fA X X1)
    (hB : ∀ Y : wx_S, rl_all X Y → rl_all X (wx_u Y 136 0 0) → ∃ X2 : wx_S, nw_M wd_all yB cB nB rt dB 0 0 (.ref 136 :: as) Y (fun w X' => w = some (.int (nI v)) ∧ X' = X2) ∧ rl_fB (wx_u Y 136 0 0) X2 ∧ rl_all X1 X2) : rl_pair rt as yA cA nA dA yB cB nB dB X := by
  refine ⟨v, X1, hv, hA, fun k => fA _ _ (by decide), fun Y hY => ?_⟩
  have hXY : rl_all X Y := rl_all_B h0 (fun c k h1 h2 => (hY c k (by omega)).trans (fA c k h1))
  obtain ⟨X2, m2, f2, a2⟩ := hB Y hXY (rl_all_thr 0 hXY)
  refine ⟨X2, m2, ?_, fun k => ?_, rl_all_A a2 (fun c k hc => ?_)⟩
  · rw [f2 _ _ (Or.inr (Or.inr ⟨rfl, rfl⟩)), wx_u_eq]
  · rw [f2 _ _ (Or.inr (Or.inl (by decide))), wx_u_nc (by decide)]
  · rw [f2 _ _ (Or.inl hc), wx_u_nc (by omega), hY _ _ (by omega)]
