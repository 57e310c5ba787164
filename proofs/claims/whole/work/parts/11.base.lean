/-! contracts over numbers out of walks -/
theorem nw_of {ids : List Nat} {y : MethodName} {cc : ByteArray} {nL : Nat} {ret : Option FieldType} {d mc ms : Nat} {av : List Value} {X : wx_S} {Q : Option Value → wx_S → Prop} (ls0 : List (Option Value)) (hy : plainName y.cls = true) (hcat : av.all cw_c1 = true) (hlen : av.length ≤ nL) (h0 : cw_in av nL = ls0)
    (h : ∀ (p : Program) (l : Launch) (e : Env) (s : State) (m : MethodId) (args : Array Value) (below : List Frame) (meth : Method) (c : Code) (A : Nat → Prop) (g : wd_G), cw_C p s m args meth c A ids g cc nL y.cls ret →
      cw_W p l e (cw_rm d mc ms) s m args below meth c A ids g 0 0 (cw_G below args s A ids g mc ms (fun v σ' τ' => ∃ X' : wx_S, σ' = wx_e X' ∧ τ' = wx_l X' ∧ Q v X')) nL 0 ls0 [] (wx_e X) (wx_l X)) : nw_M ids y cc nL ret d mc ms av X Q := by
  subst h0
  exact cw_M.of hy hcat hlen h
theorem nw_zn : ∀ {k : Nat}, k < 2 → narrow .boolean (.int (nI k)) = .int (nI k) := by
  have h : ∀ k, k < 2 → narrow .boolean (.int (nI k)) = .int (nI k) := by decide +kernel
  exact fun {k} hk => h k hk
theorem nw_zf : ∀ {k : Nat}, k < 2 → fits .boolean (.int (nI k)) = true := by
  have h : ∀ k, k < 2 → fits .boolean (.int (nI k)) = true := by decide +kernel
  exact fun {k} hk => h k hk
/-- a truth as a number -/
abbrev zb_n (b : Prop) [Decidable b] : Nat := if b then 1 else 0
theorem zb_lt (b : Prop) [Decidable b] : zb_n b < 2 := by unfold zb_n; split <;> omega
theorem zb_t {b : Prop} [Decidable b] (h : b) : nI 1 = nI (zb_n b) := by rw [zb_n, if_pos h]
theorem zb_f {b : Prop} [Decidable b] (h : ¬ b) : nI 0 = nI (zb_n b) := by rw [zb_n, if_neg h]
