theorem zm_comF_spec (X : wx_S) (r : Nat) : ∀ n w, zm_comF X r w n = 0 ∨ ∃ k, zm_comF X r w n = w + 2 * k ∧ w + 2 * k < 14 ∧ zm_cmC X r (w + 2 * k)
  | 0, w => Or.inl rfl
  | n + 1, w => by
    rw [zm_comF]
    by_cases h1 : 14 ≤ w
    · rw [if_pos h1]; exact Or.inl rfl
    · rw [if_neg h1]
      by_cases h2 : zm_cmC X r w
      · rw [if_pos h2]; exact Or.inr ⟨0, rfl, by omega, h2⟩
      · rw [if_neg h2]
        rcases zm_comF_spec X r n (w + 2) with h | ⟨k, h3, h4, h5⟩
        · exact Or.inl h
        · exact Or.inr ⟨k + 1, by rw [h3]; omega, by omega, by rw [show w + 2 * (k + 1) = w + 2 + 2 * k by omega]; exact h5⟩
def zm_cs (X : wx_S) (r : Nat) : Prop := zm_com X r = 0 ∨ ∃ k, zm_com X r = X 224 r + 2 + 2 * k ∧ X 224 r + 2 + 2 * k < 14 ∧ zm_cmC X r (X 224 r + 2 + 2 * k)
theorem zm_cs_all (X : wx_S) (r : Nat) : zm_cs X r := zm_comF_spec X r 8 (X 224 r + 2)
theorem zm_cs_lt {X : wx_S} {r : Nat} (h : zm_cs X r) : zm_com X r < 14 := by
  rcases h with h | ⟨k, h1, h2, _⟩
  · rw [h]; decide
  · rw [h1]; exact h2
/-- what the reference's act needs -/
def zm_I0 (X : wx_S) (r : Nat) : Prop := zm_ok X r ∧ zm_C X r ∧ (∀ k, k < 360 → X 236 k < 16) ∧ X 224 r ≤ 14 ∧ X 204 r ≤ 14 ∧ X 216 r < 2147483648 ∧ X 200 r < 4294967296 ∧ (∀ t, t < 40 → X 152 t < 4294967296 ∧ X 156 t < 4294967296) ∧ (zm_adv X r → X 200 r ≠ 0 → X 136 13 < 840) ∧ X 192 r < 4294967296
def zm_step (X : wx_S) (r : Nat) : Option wx_S :=
  if (zm_ins X r (X 136 7)) ≠ 4294967295 then some (wx_u X 228 (60 * r + 4 * X 164 (zm_ins X r (X 136 7)) + X 160 (zm_ins X r (X 136 7))) ((zm_ins X r (X 136 7)) + 1))
  else if (zm_com X r) ≠ 0 then some (zm_commit X r (zm_com X r))
  else if zm_adv X r then some (zm_advance X r) else none
def zm_actF (r : Nat) : Nat → wx_S → wx_S
  | 0, X => X
  | n + 1, X => if X 192 r = 1 then (match zm_step X r with | some Y => zm_actF r n Y | none => X) else X
def zm_act (X : wx_S) (r : Nat) : wx_S := zm_actF r 1000 X
set_option maxRecDepth 100000 in
set_option maxHeartbeats 4000000 in
theorem lp_Mo_act {p : Program} {l : Launch} {e : Env} {s : State} {m : MethodId} {args : Array Value} {below : List Frame} {meth : Method} {c : Code} {A : Nat → Prop} {g : wd_G} {G : State → Prop} (r : Nat) (hr : r < 4) (I : wx_S → Prop) (hI : ∀ X, I X → zm_I0 X r) (hstep : ∀ X Y, I X → X 192 r = 1 → zm_step X r = some Y → I Y) (RES : wx_S) (C : cw_C p s m args meth c A wd_all g cc_Mo_act 5 "DagLedgerModel" none) (hA : ∀ (i : Nat) (z1 z2 : Option Value), cw_W p l e (cw_rm 5 0 0) s m args below meth c A wd_all g 0 0 G 5 99 [some (.ref 136), some (.int (nI r)), some (.int (nI i)), z1, z2] [] (wx_e RES) (wx_l RES)) (hB : ∀ (i : Nat) (z1 z2 : Option Value), cw_W p l e (cw_rm 5 0 0) s m args below meth c A wd_all g 0 0 G 5 92 [some (.ref 136), some (.int (nI r)), some (.int (nI i)), z1, z2] [] (wx_e RES) (wx_l RES)) : ∀ (n i : Nat) (z1 z2 : Option Value) (X : wx_S), i + n = 1000 → I X → zm_actF r n X = RES → cw_W p l e (cw_rm 5 0 0) s m args below meth c A wd_all g 0 0 G 5 2 [some (.ref 136), some (.int (nI r)), some (.int (nI i)), z1, z2] [] (wx_e X) (wx_l X) := by
  intro n
  induction n with
  | zero =>
    intro i z1 z2 X hi hX hres
    refine cw_iload_n C dd_Mo_act_2 rfl ?_
    refine cw_sipush (v := nI 1000) C dd_Mo_act_3 (by decide +kernel) ?_
    refine nw_icmp_ge (tgt := 99) C dd_Mo_act_6 (by decide) (by first | omega | (simp [wx_u] <;> omega)) (by first | omega | (simp [wx_u] <;> omega)) (fun h6 => ?_) (fun h6 => ?_)
    · exact nw_eqX hres (hA i _ _)
    · exact absurd h6 (by omega)
  | succ n ih =>
    intro i z1 z2 X hi hX hres
    have h0 := hI X hX
    have q1 := zm_ins_lt X r (X 136 7)
    have q0 := h0.1.1.1
    have q2 := zm_cs_all X r
    have q3 := zm_cs_lt q2
    refine cw_iload_n C dd_Mo_act_2 rfl ?_
    refine cw_sipush (v := nI 1000) C dd_Mo_act_3 (by decide +kernel) ?_
    refine nw_icmp_ge (tgt := 99) C dd_Mo_act_6 (by decide) (by first | omega | (simp [wx_u] <;> omega)) (by first | omega | (simp [wx_u] <;> omega)) (fun h6 => ?_) (fun h6 => ?_)
    · exact absurd h6 (by omega)
    · refine cw_aload_n C dd_Mo_act_9 rfl ?_
      refine cw_getr (q' := 192) C wc_34 kF_Mo_50 is_34 (by decide) rfl dd_Mo_act_10 rfl ?_
      refine cw_iload_n C dd_Mo_act_13 rfl ?_
      refine nw_iald C is_48 (by first | omega | (simp [wx_u] <;> omega)) (by decide) dd_Mo_act_14 ?_
      refine cw_iconst (v := nI 1) C dd_Mo_act_15 (by decide +kernel) ?_
      refine nw_icmp_ne (tgt := 99) C dd_Mo_act_16 (by decide) h0.2.2.2.2.2.2.2.2.2 (by first | omega | (simp [wx_u] <;> omega)) (fun h16 => ?_) (fun h16 => ?_)
      · exact nw_eqX (by rw [← hres, zm_actF, if_neg h16]) (hA i _ _)
      · refine cw_aload_n C dd_Mo_act_19 rfl ?_
        refine cw_iload_n C dd_Mo_act_20 rfl ?_
        refine cw_callV (As := [_]) C kV_Mo_137 wc_34 is_34 dd_Mo_act_21 rfl rfl (Nat.le_of_ble_eq_true rfl) ⟨(Nat.le_of_ble_eq_true rfl), (Nat.le_of_ble_eq_true rfl)⟩ ⟨(Nat.le_of_ble_eq_true rfl), (Nat.le_of_ble_eq_true rfl)⟩ (mm_Mo_insertable X r hr h0.1.1 h0.1.2.1 h0.2.2.1) (nw_ki ?_)
        refine cw_istore_n C dd_Mo_act_24 (Nat.le_of_ble_eq_true rfl) ?_
        refine cw_iload_n C dd_Mo_act_25 rfl ?_
        refine nw_if_ge (tgt := 37) C dd_Mo_act_26 (by decide) (by omega) (fun h26 => ?_) (fun h26 => ?_)
        · refine cw_iconst (v := nI 0) C dd_Mo_act_37 (by decide +kernel) ?_
          refine cw_istore C dd_Mo_act_38 (Nat.le_of_ble_eq_true rfl) ?_
          refine cw_iload_n C dd_Mo_act_40 rfl ?_
          refine nw_if_lt (tgt := 61) C dd_Mo_act_41 (by decide) (by omega) (fun h41 => ?_) (fun h41 => ?_)
          · exact absurd h41 (by omega)
          · have g1 := h0.1.1.2.2.1 (zm_ins X r (X 136 7)) (by omega)
            refine cw_aload_n C dd_Mo_act_44 rfl ?_
            refine cw_getr (q' := 228) C wc_34 kF_Mo_77 is_34 (by decide) rfl dd_Mo_act_45 rfl ?_
            refine cw_aload_n C dd_Mo_act_48 rfl ?_
            refine cw_iload_n C dd_Mo_act_49 rfl ?_
            refine cw_iload_n C dd_Mo_act_50 rfl ?_
            refine cw_callV (As := [_, _]) C kV_Mo_123 wc_34 is_34 dd_Mo_act_51 rfl rfl (Nat.le_of_ble_eq_true rfl) ⟨(Nat.le_of_ble_eq_true rfl), (Nat.le_of_ble_eq_true rfl)⟩ ⟨(Nat.le_of_ble_eq_true rfl), (Nat.le_of_ble_eq_true rfl)⟩ (mm_Mo_spot X r _ (by omega)) (nw_ki ?_)
            refine cw_iload_n C dd_Mo_act_54 rfl ?_
            refine cw_iconst (v := nI 1) C dd_Mo_act_55 (by decide +kernel) ?_
            refine nw_iadd C dd_Mo_act_56 ?_
            refine nw_iast C is_57 (by omega) (by decide) dd_Mo_act_57 ?_
            have hs : zm_step X r = some (wx_u X 228 (60 * r + 4 * X 164 (zm_ins X r (X 136 7)) + X 160 (zm_ins X r (X 136 7))) ((zm_ins X r (X 136 7)) + 1)) := if_pos (by omega)
            refine cw_goto (tgt := 93) C dd_Mo_act_58 (by decide) ?_
            refine nw_iinc (b := 1) C dd_Mo_act_93 (by decide +kernel) rfl (Nat.le_of_ble_eq_true rfl) ?_
            refine cw_goto (tgt := 2) C dd_Mo_act_96 (by decide) ?_
            exact ih (i + 1) _ _ _ (by omega) (hstep X _ hX h16 hs) (by rw [← hres, zm_actF, if_pos h16, hs])
        · refine cw_aload_n C dd_Mo_act_29 rfl ?_
          refine cw_iload_n C dd_Mo_act_30 rfl ?_
          refine cw_callV (As := [_]) C kV_Mo_140 wc_34 is_34 dd_Mo_act_31 rfl rfl (Nat.le_of_ble_eq_true rfl) ⟨(Nat.le_of_ble_eq_true rfl), (Nat.le_of_ble_eq_true rfl)⟩ ⟨(Nat.le_of_ble_eq_true rfl), (Nat.le_of_ble_eq_true rfl)⟩ (mm_Mo_committable X r hr h0.1.1 h0.1.2.1 h0.2.2.2.1) (nw_ki ?_)
          refine cw_goto (tgt := 38) C dd_Mo_act_34 (by decide) ?_
          refine cw_istore C dd_Mo_act_38 (Nat.le_of_ble_eq_true rfl) ?_
          refine cw_iload_n C dd_Mo_act_40 rfl ?_
          refine nw_if_lt (tgt := 61) C dd_Mo_act_41 (by decide) (by omega) (fun h41 => ?_) (fun h41 => ?_)
          · refine cw_iload C dd_Mo_act_61 rfl ?_
            refine nw_if_le (tgt := 76) C dd_Mo_act_63 (by decide) (by omega) (fun h63 => ?_) (fun h63 => ?_)
            · refine cw_aload_n C dd_Mo_act_76 rfl ?_
              refine cw_iload_n C dd_Mo_act_77 rfl ?_
              refine cw_callV (As := [_]) C kV_Mo_147 wc_34 is_34 dd_Mo_act_78 rfl rfl (Nat.le_of_ble_eq_true rfl) ⟨(Nat.le_of_ble_eq_true rfl), (Nat.le_of_ble_eq_true rfl)⟩ ⟨(Nat.le_of_ble_eq_true rfl), (Nat.le_of_ble_eq_true rfl)⟩ (mm_Mo_advances X r hr h0.1.1 h0.1.2.1 h0.2.2.2.2.1 h0.2.2.2.2.2.1) (nw_ki ?_)
              refine nw_zeq (tgt := 92) C dd_Mo_act_81 (by decide) (fun h81 => ?_) (fun h81 => ?_)
              · exact nw_eqX (by rw [← hres, zm_actF, if_pos h16, zm_step, if_neg (by omega), if_neg (by omega), if_neg h81]) (hB i _ _)
              · refine cw_aload_n C dd_Mo_act_84 rfl ?_
                refine cw_iload_n C dd_Mo_act_85 rfl ?_
                refine cw_callV (As := [_]) C kV_Mo_150 wc_34 is_34 dd_Mo_act_86 rfl rfl (Nat.le_of_ble_eq_true rfl) ⟨(Nat.le_of_ble_eq_true rfl), (Nat.le_of_ble_eq_true rfl)⟩ ⟨(Nat.le_of_ble_eq_true rfl), (Nat.le_of_ble_eq_true rfl)⟩ (mm_Mo_advance X r hr h0.1.1 h0.1.2.1 h0.2.2.2.2.1 h0.2.2.2.2.2.1 h0.2.2.2.2.2.2.1 h0.2.2.2.2.2.2.2.1 (by have := h81.1; omega) (h0.2.2.2.2.2.2.2.2.1 h81)) (nw_kv ?_)
                have hs : zm_step X r = some (zm_advance X r) := by
                  rw [zm_step, if_neg (by omega), if_neg (by omega), if_pos h81]
                refine cw_goto (tgt := 93) C dd_Mo_act_89 (by decide) ?_
                refine nw_iinc (b := 1) C dd_Mo_act_93 (by decide +kernel) rfl (Nat.le_of_ble_eq_true rfl) ?_
                refine cw_goto (tgt := 2) C dd_Mo_act_96 (by decide) ?_
                exact ih (i + 1) _ _ _ (by omega) (hstep X _ hX h16 hs) (by rw [← hres, zm_actF, if_pos h16, hs])
            · refine cw_aload_n C dd_Mo_act_66 rfl ?_
              refine cw_iload_n C dd_Mo_act_67 rfl ?_
              refine cw_iload C dd_Mo_act_68 rfl ?_
              obtain ⟨k0, p1, p2, p3⟩ := q2.resolve_left (by omega)
              rw [← p1] at p2 p3
              refine cw_callV (As := [_, _]) C kV_Mo_143 wc_34 is_34 dd_Mo_act_70 rfl rfl (Nat.le_of_ble_eq_true rfl) ⟨(Nat.le_of_ble_eq_true rfl), (Nat.le_of_ble_eq_true rfl)⟩ ⟨(Nat.le_of_ble_eq_true rfl), (Nat.le_of_ble_eq_true rfl)⟩ (mm_Mo_commit X r hr _ h0.1 h0.2.1 ⟨by omega, by omega, p3.1⟩ (by omega) (by omega)) (nw_kv ?_)
              have hs : zm_step X r = some (zm_commit X r (zm_com X r)) := by
                rw [zm_step, if_neg (by omega), if_pos (by omega)]
              refine cw_goto (tgt := 93) C dd_Mo_act_73 (by decide) ?_
              refine nw_iinc (b := 1) C dd_Mo_act_93 (by decide +kernel) rfl (Nat.le_of_ble_eq_true rfl) ?_
              refine cw_goto (tgt := 2) C dd_Mo_act_96 (by decide) ?_
              exact ih (i + 1) _ _ _ (by omega) (hstep X _ hX h16 hs) (by rw [← hres, zm_actF, if_pos h16, hs])
          · exact absurd h41 (by omega)
set_option maxRecDepth 100000 in
set_option maxHeartbeats 4000000 in
theorem mm_Mo_act (X : wx_S) (r : Nat) (hr : r < 4) (I : wx_S → Prop) (hI : ∀ X, I X → zm_I0 X r) (hstep : ∀ X Y, I X → X 192 r = 1 → zm_step X r = some Y → I Y) (hX : I X) : nw_M wd_all yy_Mo_act cc_Mo_act 5 none 5 0 0 [.ref 136, .int (nI r)] X (fun v X' => v = none ∧ X' = zm_act X r) := by
  refine nw_of [some (.ref 136), some (.int (nI r)), none, none, none] (by decide +kernel) rfl (Nat.le_of_ble_eq_true rfl) rfl ?_
  intro p l e s m args below meth c A g C
  refine cw_iconst (v := nI 0) C dd_Mo_act_0 (by decide +kernel) ?_
  refine cw_istore_n C dd_Mo_act_1 (Nat.le_of_ble_eq_true rfl) ?_
  refine lp_Mo_act r hr I hI hstep (zm_act X r) C (fun i z1 z2 => ?_) (fun i z1 z2 => ?_) 1000 0 _ _ X (by omega) hX rfl
  · exact cw_vreturn C dd_Mo_act_99 (Nat.le_of_ble_eq_true rfl) (Nat.le_of_ble_eq_true rfl) ⟨_, rfl, rfl, ⟨rfl, rfl⟩⟩
  · exact cw_vreturn C dd_Mo_act_92 (Nat.le_of_ble_eq_true rfl) (Nat.le_of_ble_eq_true rfl) ⟨_, rfl, rfl, ⟨rfl, rfl⟩⟩
