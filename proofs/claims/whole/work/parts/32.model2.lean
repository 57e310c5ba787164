/-- transfers and vertices of the reference -/
def zm_V (X : wx_S) : Prop := X 136 7 ≤ 90 ∧ X 136 1 ≤ 40 ∧ (∀ u, u < X 136 7 → X 160 u < 4 ∧ 1 ≤ X 164 u ∧ X 164 u ≤ 14 ∧ X 168 u < 16 ∧ (X 172 u < X 136 1 ∨ X 172 u = 4294967295) ∧ (X 176 u < X 136 1 ∨ X 176 u = 4294967295)) ∧ ∀ t, t < X 136 1 → X 140 t < 4 ∧ X 144 t < 4 ∧ X 148 t ≤ 1000 ∧ X 140 t ≠ X 144 t
/-- the DAGs: 0, or a vertex's number and one -/
def zm_D (X : wx_S) : Prop := ∀ k, k < 240 → X 228 k ≤ X 136 7
theorem zm_D_lt {X : wx_S} (hV : zm_V X) (h : zm_D X) : ∀ k, k < 240 → X 228 k < 2147483648 := fun k hk => by
  have := h k hk
  have := hV.1
  omega
abbrev zm_may (X : wx_S) (r u : Nat) : Prop := 3 ≤ zn_ones (X 236 (90 * r + u)) ∧ X 228 (60 * r + 4 * X 164 u + X 160 u) = 0 ∧ zm_wf X u ∧ X 168 u &&& (zm_th X r (X 164 u - 1) 4 ^^^ 4294967295) = 0
def zm_ins (X : wx_S) (r : Nat) : Nat → Nat
  | 0 => 4294967295
  | i + 1 => if zm_may X r i ∧ (zm_ins X r i = 4294967295 ∨ 4 * X 164 i + X 160 i < 4 * X 164 (zm_ins X r i) + X 160 (zm_ins X r i)) then i else zm_ins X r i
theorem zm_ins_lt (X : wx_S) (r : Nat) : ∀ i, zm_ins X r i < i ∨ zm_ins X r i = 4294967295
  | 0 => Or.inr rfl
  | i + 1 => by
    have := zm_ins_lt X r i
    simp only [zm_ins]
    split <;> omega
set_option maxRecDepth 100000 in
set_option maxHeartbeats 4000000 in
theorem lp_Mo_insertable {p : Program} {l : Launch} {e : Env} {s : State} {m : MethodId} {args : Array Value} {below : List Frame} {meth : Method} {c : Code} {A : Nat → Prop} {g : wd_G} {G : State → Prop} (X : wx_S) (r : Nat) (hr : r < 4) (hV : zm_V X) (hD : zm_D X) (hrd : ∀ k, k < 360 → X 236 k < 16) (C : cw_C p s m args meth c A wd_all g cc_Mo_insertable 5 "DagLedgerModel" (some .int))  (hend : ∀ z : Option Value, cw_W p l e (cw_rm 3 0 0) s m args below meth c A wd_all g 0 0 G 5 134 [some (.ref 136), some (.int (nI r)), some (.int (nI (zm_ins X r ((X 136 7))))), some (.int (nI ((X 136 7)))), z] [] (wx_e X) (wx_l X)) : ∀ (j i : Nat) (z : Option Value), i + j = (X 136 7) → cw_W p l e (cw_rm 3 0 0) s m args below meth c A wd_all g 0 0 G 5 4 [some (.ref 136), some (.int (nI r)), some (.int (nI (zm_ins X r (i)))), some (.int (nI (i))), z] [] (wx_e X) (wx_l X) := by
  intro j
  induction j with
  | zero =>
    intro i z hij
    have g0 := hV.1
    refine cw_iload_n C dd_Mo_insertable_4 rfl ?_
    refine cw_aload_n C dd_Mo_insertable_5 rfl ?_
    refine nw_geti C wc_34 kF_Mo_153 is_34 (by decide) rfl dd_Mo_insertable_6 ?_
    refine nw_icmp_ge (tgt := 134) C dd_Mo_insertable_9 (by decide) (by first | omega | (simp [wx_u] <;> omega)) (by first | omega | (simp [wx_u] <;> omega)) (fun h9 => ?_) (fun h9 => ?_)
    · have hi : i = (X 136 7) := by omega
      rw [hi]
      exact hend z
    · exact absurd h9 (by omega)
  | succ j ih =>
    intro i z hij
    have g0 := hV.1
    have g2 := hV.2.2.1 i (by omega)
    have g3 := zm_ins_lt X r i
    have g4 := hrd (90 * r + i) (by omega)
    have g5 := zn_ones_le (X 236 (90 * r + i))
    have g6 := hD (60 * r + 4 * X 164 i + X 160 i) (by omega)
    refine cw_iload_n C dd_Mo_insertable_4 rfl ?_
    refine cw_aload_n C dd_Mo_insertable_5 rfl ?_
    refine nw_geti C wc_34 kF_Mo_153 is_34 (by decide) rfl dd_Mo_insertable_6 ?_
    refine nw_icmp_ge (tgt := 134) C dd_Mo_insertable_9 (by decide) (by first | omega | (simp [wx_u] <;> omega)) (by first | omega | (simp [wx_u] <;> omega)) (fun h9 => ?_) (fun h9 => ?_)
    · exact absurd h9 (by omega)
    · refine cw_aload_n C dd_Mo_insertable_12 rfl ?_
      refine cw_getr (q' := 236) C wc_34 kF_Mo_83 is_34 (by decide) rfl dd_Mo_insertable_13 rfl ?_
      refine cw_bipush (v := nI 90) C dd_Mo_insertable_16 (by decide +kernel) ?_
      refine cw_iload_n C dd_Mo_insertable_18 rfl ?_
      refine nw_imul C dd_Mo_insertable_19 ?_
      refine cw_iload_n C dd_Mo_insertable_20 rfl ?_
      refine nw_iadd C dd_Mo_insertable_21 ?_
      refine nw_iald C is_59 (by first | omega | (simp [wx_u] <;> omega)) (by decide) dd_Mo_insertable_22 ?_
      refine cw_callS (As := [_]) C kS_Mo_115 dd_Mo_insertable_23 rfl rfl (Nat.le_of_ble_eq_true rfl) ⟨(Nat.le_of_ble_eq_true rfl), (Nat.le_of_ble_eq_true rfl)⟩ ⟨(Nat.le_of_ble_eq_true rfl), (Nat.le_of_ble_eq_true rfl)⟩ (mm_Mo_ones X _ (by omega)) (nw_ki ?_)
      refine cw_iconst (v := nI 3) C dd_Mo_insertable_26 (by decide +kernel) ?_
      refine nw_icmp_lt (tgt := 81) C dd_Mo_insertable_27 (by decide) (by first | omega | (simp [wx_u] <;> omega)) (by first | omega | (simp [wx_u] <;> omega)) (fun h27 => ?_) (fun h27 => ?_)
      · refine cw_iconst (v := nI 0) C dd_Mo_insertable_81 (by decide +kernel) ?_
        refine cw_istore C dd_Mo_insertable_82 (Nat.le_of_ble_eq_true rfl) ?_
        refine cw_iload C dd_Mo_insertable_84 rfl ?_
        refine nw_if_eq (tgt := 128) C dd_Mo_insertable_86 (by decide) (by decide) (fun h86 => ?_) (fun h86 => ?_)
        · refine nw_iinc (b := 1) C dd_Mo_insertable_128 (by decide +kernel) rfl (Nat.le_of_ble_eq_true rfl) ?_
          refine cw_goto (tgt := 4) C dd_Mo_insertable_131 (by decide) ?_
          have k9 := ih (i + 1)
          rw [show zm_ins X r (i + 1) = zm_ins X r i from if_neg (fun z => absurd z.1.1 (by omega))] at k9
          exact k9 _ (by omega)
        · exact absurd rfl h86
      · refine cw_aload_n C dd_Mo_insertable_30 rfl ?_
        refine cw_getr (q' := 228) C wc_34 kF_Mo_77 is_34 (by decide) rfl dd_Mo_insertable_31 rfl ?_
        refine cw_aload_n C dd_Mo_insertable_34 rfl ?_
        refine cw_iload_n C dd_Mo_insertable_35 rfl ?_
        refine cw_iload_n C dd_Mo_insertable_36 rfl ?_
        refine cw_callV (As := [_, _]) C kV_Mo_123 wc_34 is_34 dd_Mo_insertable_37 rfl rfl (Nat.le_of_ble_eq_true rfl) ⟨(Nat.le_of_ble_eq_true rfl), (Nat.le_of_ble_eq_true rfl)⟩ ⟨(Nat.le_of_ble_eq_true rfl), (Nat.le_of_ble_eq_true rfl)⟩ (mm_Mo_spot X r i (by omega)) (nw_ki ?_)
        refine nw_iald C is_57 (by first | omega | (simp [wx_u] <;> omega)) (by decide) dd_Mo_insertable_40 ?_
        refine nw_if_ne (tgt := 81) C dd_Mo_insertable_41 (by decide) (by first | omega | (simp [wx_u] <;> omega)) (fun h41 => ?_) (fun h41 => ?_)
        · refine cw_iconst (v := nI 0) C dd_Mo_insertable_81 (by decide +kernel) ?_
          refine cw_istore C dd_Mo_insertable_82 (Nat.le_of_ble_eq_true rfl) ?_
          refine cw_iload C dd_Mo_insertable_84 rfl ?_
          refine nw_if_eq (tgt := 128) C dd_Mo_insertable_86 (by decide) (by decide) (fun h86 => ?_) (fun h86 => ?_)
          · refine nw_iinc (b := 1) C dd_Mo_insertable_128 (by decide +kernel) rfl (Nat.le_of_ble_eq_true rfl) ?_
            refine cw_goto (tgt := 4) C dd_Mo_insertable_131 (by decide) ?_
            have k9 := ih (i + 1)
            rw [show zm_ins X r (i + 1) = zm_ins X r i from if_neg (fun z => h41 z.1.2.1)] at k9
            exact k9 _ (by omega)
          · exact absurd rfl h86
        · refine cw_aload_n C dd_Mo_insertable_44 rfl ?_
          refine cw_iload_n C dd_Mo_insertable_45 rfl ?_
          refine cw_callV (As := [_]) C kV_Mo_119 wc_34 is_34 dd_Mo_insertable_46 rfl rfl (Nat.le_of_ble_eq_true rfl) ⟨(Nat.le_of_ble_eq_true rfl), (Nat.le_of_ble_eq_true rfl)⟩ ⟨(Nat.le_of_ble_eq_true rfl), (Nat.le_of_ble_eq_true rfl)⟩ (mm_Mo_formed X i (by omega) (by omega) g2.2.2.2.1) (nw_ki ?_)
          refine nw_zeq (tgt := 81) C dd_Mo_insertable_49 (by decide) (fun h49 => ?_) (fun h49 => ?_)
          · refine cw_iconst (v := nI 0) C dd_Mo_insertable_81 (by decide +kernel) ?_
            refine cw_istore C dd_Mo_insertable_82 (Nat.le_of_ble_eq_true rfl) ?_
            refine cw_iload C dd_Mo_insertable_84 rfl ?_
            refine nw_if_eq (tgt := 128) C dd_Mo_insertable_86 (by decide) (by decide) (fun h86 => ?_) (fun h86 => ?_)
            · refine nw_iinc (b := 1) C dd_Mo_insertable_128 (by decide +kernel) rfl (Nat.le_of_ble_eq_true rfl) ?_
              refine cw_goto (tgt := 4) C dd_Mo_insertable_131 (by decide) ?_
              have k9 := ih (i + 1)
              rw [show zm_ins X r (i + 1) = zm_ins X r i from if_neg (fun z => h49 z.1.2.2.1)] at k9
              exact k9 _ (by omega)
            · exact absurd rfl h86
          · refine cw_aload_n C dd_Mo_insertable_52 rfl ?_
            refine cw_getr (q' := 168) C wc_34 kF_Mo_32 is_34 (by decide) rfl dd_Mo_insertable_53 rfl ?_
            refine cw_iload_n C dd_Mo_insertable_56 rfl ?_
            refine nw_iald C is_42 (by first | omega | (simp [wx_u] <;> omega)) (by decide) dd_Mo_insertable_57 ?_
            refine cw_aload_n C dd_Mo_insertable_58 rfl ?_
            refine cw_iload_n C dd_Mo_insertable_59 rfl ?_
            refine cw_aload_n C dd_Mo_insertable_60 rfl ?_
            refine cw_getr (q' := 164) C wc_34 kF_Mo_29 is_34 (by decide) rfl dd_Mo_insertable_61 rfl ?_
            refine cw_iload_n C dd_Mo_insertable_64 rfl ?_
            refine nw_iald C is_41 (by first | omega | (simp [wx_u] <;> omega)) (by decide) dd_Mo_insertable_65 ?_
            refine cw_iconst (v := nI 1) C dd_Mo_insertable_66 (by decide +kernel) ?_
            refine nw_isub C dd_Mo_insertable_67 (by first | omega | (simp [wx_u] <;> omega)) ?_
            refine cw_callV (As := [_, _]) C kV_Mo_156 wc_34 is_34 dd_Mo_insertable_68 rfl rfl (Nat.le_of_ble_eq_true rfl) ⟨(Nat.le_of_ble_eq_true rfl), (Nat.le_of_ble_eq_true rfl)⟩ ⟨(Nat.le_of_ble_eq_true rfl), (Nat.le_of_ble_eq_true rfl)⟩ (mm_Mo_there X r hr (X 164 i - 1) (by omega) (zm_D_lt hV hD)) (nw_ki ?_)
            refine cw_iconst (v := nI 4294967295) C dd_Mo_insertable_71 (by decide +kernel) ?_
            refine nw_ixor C dd_Mo_insertable_72 ?_
            refine nw_iand C dd_Mo_insertable_73 ?_
            refine nw_if_ne (tgt := 81) C dd_Mo_insertable_74 (by decide) (Nat.lt_trans (zn_and_lt g2.2.2.2.1) (by decide)) (fun h74 => ?_) (fun h74 => ?_)
            · refine cw_iconst (v := nI 0) C dd_Mo_insertable_81 (by decide +kernel) ?_
              refine cw_istore C dd_Mo_insertable_82 (Nat.le_of_ble_eq_true rfl) ?_
              refine cw_iload C dd_Mo_insertable_84 rfl ?_
              refine nw_if_eq (tgt := 128) C dd_Mo_insertable_86 (by decide) (by decide) (fun h86 => ?_) (fun h86 => ?_)
              · refine nw_iinc (b := 1) C dd_Mo_insertable_128 (by decide +kernel) rfl (Nat.le_of_ble_eq_true rfl) ?_
                refine cw_goto (tgt := 4) C dd_Mo_insertable_131 (by decide) ?_
                have k9 := ih (i + 1)
                rw [show zm_ins X r (i + 1) = zm_ins X r i from if_neg (fun z => h74 z.1.2.2.2)] at k9
                exact k9 _ (by omega)
              · exact absurd rfl h86
            · refine cw_iconst (v := nI 1) C dd_Mo_insertable_77 (by decide +kernel) ?_
              refine cw_goto (tgt := 82) C dd_Mo_insertable_78 (by decide) ?_
              refine cw_istore C dd_Mo_insertable_82 (Nat.le_of_ble_eq_true rfl) ?_
              refine cw_iload C dd_Mo_insertable_84 rfl ?_
              refine nw_if_eq (tgt := 128) C dd_Mo_insertable_86 (by decide) (by decide) (fun h86 => ?_) (fun h86 => ?_)
              · exact absurd h86 (by decide)
              · refine cw_iload_n C dd_Mo_insertable_89 rfl ?_
                refine nw_if_lt (tgt := 126) C dd_Mo_insertable_90 (by decide) (by first | omega | (simp [wx_u] <;> omega)) (fun h90 => ?_) (fun h90 => ?_)
                · refine cw_iload_n C dd_Mo_insertable_126 rfl ?_
                  refine cw_istore_n C dd_Mo_insertable_127 (Nat.le_of_ble_eq_true rfl) ?_
                  refine nw_iinc (b := 1) C dd_Mo_insertable_128 (by decide +kernel) rfl (Nat.le_of_ble_eq_true rfl) ?_
                  refine cw_goto (tgt := 4) C dd_Mo_insertable_131 (by decide) ?_
                  have k9 := ih (i + 1)
                  rw [show zm_ins X r (i + 1) = i from if_pos ⟨⟨by omega, h41, h49, h74⟩, Or.inl (by omega)⟩] at k9
                  exact k9 _ (by omega)
                · have g7 := hV.2.2.1 (zm_ins X r i) (by omega)
                  refine cw_iconst (v := nI 4) C dd_Mo_insertable_93 (by decide +kernel) ?_
                  refine cw_aload_n C dd_Mo_insertable_94 rfl ?_
                  refine cw_getr (q' := 164) C wc_34 kF_Mo_29 is_34 (by decide) rfl dd_Mo_insertable_95 rfl ?_
                  refine cw_iload_n C dd_Mo_insertable_98 rfl ?_
                  refine nw_iald C is_41 (by first | omega | (simp [wx_u] <;> omega)) (by decide) dd_Mo_insertable_99 ?_
                  refine nw_imul C dd_Mo_insertable_100 ?_
                  refine cw_aload_n C dd_Mo_insertable_101 rfl ?_
                  refine cw_getr (q' := 160) C wc_34 kF_Mo_26 is_34 (by decide) rfl dd_Mo_insertable_102 rfl ?_
                  refine cw_iload_n C dd_Mo_insertable_105 rfl ?_
                  refine nw_iald C is_40 (by first | omega | (simp [wx_u] <;> omega)) (by decide) dd_Mo_insertable_106 ?_
                  refine nw_iadd C dd_Mo_insertable_107 ?_
                  refine cw_iconst (v := nI 4) C dd_Mo_insertable_108 (by decide +kernel) ?_
                  refine cw_aload_n C dd_Mo_insertable_109 rfl ?_
                  refine cw_getr (q' := 164) C wc_34 kF_Mo_29 is_34 (by decide) rfl dd_Mo_insertable_110 rfl ?_
                  refine cw_iload_n C dd_Mo_insertable_113 rfl ?_
                  refine nw_iald C is_41 (by first | omega | (simp [wx_u] <;> omega)) (by decide) dd_Mo_insertable_114 ?_
                  refine nw_imul C dd_Mo_insertable_115 ?_
                  refine cw_aload_n C dd_Mo_insertable_116 rfl ?_
                  refine cw_getr (q' := 160) C wc_34 kF_Mo_26 is_34 (by decide) rfl dd_Mo_insertable_117 rfl ?_
                  refine cw_iload_n C dd_Mo_insertable_120 rfl ?_
                  refine nw_iald C is_40 (by first | omega | (simp [wx_u] <;> omega)) (by decide) dd_Mo_insertable_121 ?_
                  refine nw_iadd C dd_Mo_insertable_122 ?_
                  refine nw_icmp_ge (tgt := 128) C dd_Mo_insertable_123 (by decide) (by first | omega | (simp [wx_u] <;> omega)) (by first | omega | (simp [wx_u] <;> omega)) (fun h123 => ?_) (fun h123 => ?_)
                  · refine nw_iinc (b := 1) C dd_Mo_insertable_128 (by decide +kernel) rfl (Nat.le_of_ble_eq_true rfl) ?_
                    refine cw_goto (tgt := 4) C dd_Mo_insertable_131 (by decide) ?_
                    have k9 := ih (i + 1)
                    rw [show zm_ins X r (i + 1) = zm_ins X r i from if_neg (fun z => z.2.elim (fun y => by omega) (fun y => by omega))] at k9
                    exact k9 _ (by omega)
                  · refine cw_iload_n C dd_Mo_insertable_126 rfl ?_
                    refine cw_istore_n C dd_Mo_insertable_127 (Nat.le_of_ble_eq_true rfl) ?_
                    refine nw_iinc (b := 1) C dd_Mo_insertable_128 (by decide +kernel) rfl (Nat.le_of_ble_eq_true rfl) ?_
                    refine cw_goto (tgt := 4) C dd_Mo_insertable_131 (by decide) ?_
                    have k9 := ih (i + 1)
                    rw [show zm_ins X r (i + 1) = i from if_pos ⟨⟨by omega, h41, h49, h74⟩, Or.inr (by omega)⟩] at k9
                    exact k9 _ (by omega)
set_option maxRecDepth 100000 in
set_option maxHeartbeats 4000000 in
theorem mm_Mo_insertable (X : wx_S) (r : Nat) (hr : r < 4) (hV : zm_V X) (hD : zm_D X) (hrd : ∀ k, k < 360 → X 236 k < 16) : nw_M wd_all yy_Mo_insertable cc_Mo_insertable 5 (some .int) 3 0 0 [.ref 136, .int (nI r)] X (fun v X' => v = some (.int (nI (zm_ins X r (X 136 7)))) ∧ X' = X) := by
  refine nw_of [some (.ref 136), some (.int (nI r)), none, none, none] (by decide +kernel) rfl (Nat.le_of_ble_eq_true rfl) rfl ?_
  intro p l e s m args below meth c A g C
  refine cw_iconst (v := nI 4294967295) C dd_Mo_insertable_0 (by decide +kernel) ?_
  refine cw_istore_n C dd_Mo_insertable_1 (Nat.le_of_ble_eq_true rfl) ?_
  refine cw_iconst (v := nI 0) C dd_Mo_insertable_2 (by decide +kernel) ?_
  refine cw_istore_n C dd_Mo_insertable_3 (Nat.le_of_ble_eq_true rfl) ?_
  refine lp_Mo_insertable X r hr hV hD hrd C ?_ (X 136 7) 0 _ (by omega)
  intro z
  refine cw_iload_n C dd_Mo_insertable_134 rfl ?_
  exact cw_ireturn C dd_Mo_insertable_135 (Nat.le_of_ble_eq_true rfl) (Nat.le_of_ble_eq_true rfl) ⟨_, rfl, rfl, ⟨by first | rfl | simp [wx_u], by first | rfl | simp [wx_u]⟩⟩
set_option maxRecDepth 100000 in
set_option maxHeartbeats 4000000 in
theorem mm_Mo_hasLeader (X : wx_S) (r : Nat) (hr : r < 4) (w : Nat) (hw : w ≤ 14) (hd : ∀ k, k < 240 → X 228 k < 2147483648) : nw_M wd_all yy_Mo_hasLeader cc_Mo_hasLeader 3 (some .boolean) 2 0 0 [.ref 136, .int (nI r), .int (nI w)] X (fun v X' => v = some (.int (nI (zb_n (X 228 (60 * r + 4 * w + w / 2 % 4) ≠ 0)))) ∧ X' = X) := by
  refine nw_of [some (.ref 136), some (.int (nI r)), some (.int (nI w))] (by decide +kernel) rfl (Nat.le_of_ble_eq_true rfl) rfl ?_
  intro p l e s m args below meth c A g C
  have g1 := hd (60 * r + 4 * w + w / 2 % 4) (by omega)
  refine cw_aload_n C dd_Mo_hasLeader_0 rfl ?_
  refine cw_getr (q' := 228) C wc_34 kF_Mo_77 is_34 (by decide) rfl dd_Mo_hasLeader_1 rfl ?_
  refine cw_bipush (v := nI 60) C dd_Mo_hasLeader_4 (by decide +kernel) ?_
  refine cw_iload_n C dd_Mo_hasLeader_6 rfl ?_
  refine nw_imul C dd_Mo_hasLeader_7 ?_
  refine cw_iconst (v := nI 4) C dd_Mo_hasLeader_8 (by decide +kernel) ?_
  refine cw_iload_n C dd_Mo_hasLeader_9 rfl ?_
  refine nw_imul C dd_Mo_hasLeader_10 ?_
  refine nw_iadd C dd_Mo_hasLeader_11 ?_
  refine cw_iload_n C dd_Mo_hasLeader_12 rfl ?_
  refine cw_callS (As := [_]) C kS_Mo_159 dd_Mo_hasLeader_13 rfl rfl (Nat.le_of_ble_eq_true rfl) ⟨(Nat.le_of_ble_eq_true rfl), (Nat.le_of_ble_eq_true rfl)⟩ ⟨(Nat.le_of_ble_eq_true rfl), (Nat.le_of_ble_eq_true rfl)⟩ (mm_Mo_leader X w (by omega)) (nw_ki ?_)
  refine nw_iadd C dd_Mo_hasLeader_16 ?_
  refine nw_iald C is_57 (by first | omega | (simp [wx_u] <;> omega)) (by decide) dd_Mo_hasLeader_17 ?_
  refine nw_if_le (tgt := 25) C dd_Mo_hasLeader_18 (by decide) (by first | omega | (simp [wx_u] <;> omega)) (fun h18 => ?_) (fun h18 => ?_)
  · refine cw_iconst (v := nI 0) C dd_Mo_hasLeader_25 (by decide +kernel) ?_
    exact cw_zreturn C dd_Mo_hasLeader_26 (nw_zn (by decide)) (Nat.le_of_ble_eq_true rfl) (Nat.le_of_ble_eq_true rfl) ⟨_, rfl, rfl, ⟨by first | exact congrArg (fun z => some (Value.int z)) (zb_t (by first | omega | (simp [wx_u] <;> omega))) | exact congrArg (fun z => some (Value.int z)) (zb_f (by first | omega | (simp [wx_u] <;> omega))), by first | rfl | simp [wx_u]⟩⟩
  · refine cw_iconst (v := nI 1) C dd_Mo_hasLeader_21 (by decide +kernel) ?_
    refine cw_goto (tgt := 26) C dd_Mo_hasLeader_22 (by decide) ?_
    exact cw_zreturn C dd_Mo_hasLeader_26 (nw_zn (by decide)) (Nat.le_of_ble_eq_true rfl) (Nat.le_of_ble_eq_true rfl) ⟨_, rfl, rfl, ⟨by first | exact congrArg (fun z => some (Value.int z)) (zb_t (by first | omega | (simp [wx_u] <;> omega))) | exact congrArg (fun z => some (Value.int z)) (zb_f (by first | omega | (simp [wx_u] <;> omega))), by first | rfl | simp [wx_u]⟩⟩
def zm_on (X : wx_S) (r w : Nat) : Nat → Nat
  | 0 => 0
  | i + 1 => if X 228 (60 * r + 4 * w + 4 + i) ≠ 0 ∧ X 168 (X 228 (60 * r + 4 * w + 4 + i) - 1) / 2 ^ (w / 2 % 4) % 2 = 1 then zm_on X r w i + 1 else zm_on X r w i
theorem zm_on_le (X : wx_S) (r w : Nat) : ∀ i, zm_on X r w i ≤ i
  | 0 => Nat.le_refl _
  | i + 1 => by
    have := zm_on_le X r w i
    simp only [zm_on]
    split <;> omega
abbrev zm_cmC (X : wx_S) (r w : Nat) : Prop := X 228 (60 * r + 4 * w + w / 2 % 4) ≠ 0 ∧ 2 ≤ zm_on X r w 4
def zm_comF (X : wx_S) (r : Nat) : Nat → Nat → Nat
  | _, 0 => 0
  | w, n + 1 => if 14 ≤ w then 0 else if zm_cmC X r w then w else zm_comF X r (w + 2) n
def zm_com (X : wx_S) (r : Nat) : Nat := zm_comF X r (X 224 r + 2) 8
set_option maxRecDepth 100000 in
set_option maxHeartbeats 4000000 in
theorem lp_Mo_committable1 {p : Program} {l : Launch} {e : Env} {s : State} {m : MethodId} {args : Array Value} {below : List Frame} {meth : Method} {c : Code} {A : Nat → Prop} {g : wd_G} {G : State → Prop} (X : wx_S) (r : Nat) (hr : r < 4) (hV : zm_V X) (hD : zm_D X) (w : Nat) (hw : w < 14) (C : cw_C p s m args meth c A wd_all g cc_Mo_committable 6 "DagLedgerModel" (some .int))  (hend : ∀ z : Option Value, cw_W p l e (cw_rm 3 0 0) s m args below meth c A wd_all g 0 0 G 6 85 [some (.ref 136), some (.int (nI r)), some (.int (nI w)), some (.int (nI (zm_on X r w (4)))), some (.int (nI (4))), z] [] (wx_e X) (wx_l X)) : ∀ (j i : Nat) (z : Option Value), i + j = 4 → cw_W p l e (cw_rm 3 0 0) s m args below meth c A wd_all g 0 0 G 6 20 [some (.ref 136), some (.int (nI r)), some (.int (nI w)), some (.int (nI (zm_on X r w (i)))), some (.int (nI (i))), z] [] (wx_e X) (wx_l X) := by
  intro j
  induction j with
  | zero =>
    intro i z hij
    refine cw_iload C dd_Mo_committable_20 rfl ?_
    refine cw_iconst (v := nI 4) C dd_Mo_committable_22 (by decide +kernel) ?_
    refine nw_icmp_ge (tgt := 85) C dd_Mo_committable_23 (by decide) (by first | omega | (simp [wx_u] <;> omega)) (by first | omega | (simp [wx_u] <;> omega)) (fun h23 => ?_) (fun h23 => ?_)
    · have hi : i = 4 := by omega
      rw [hi]
      exact hend z
    · exact absurd h23 (by omega)
  | succ j ih =>
    intro i z hij
    have g1 := hD (60 * r + 4 * w + 4 + i) (by omega)
    have g2 := hV.1
    refine cw_iload C dd_Mo_committable_20 rfl ?_
    refine cw_iconst (v := nI 4) C dd_Mo_committable_22 (by decide +kernel) ?_
    refine nw_icmp_ge (tgt := 85) C dd_Mo_committable_23 (by decide) (by first | omega | (simp [wx_u] <;> omega)) (by first | omega | (simp [wx_u] <;> omega)) (fun h23 => ?_) (fun h23 => ?_)
    · exact absurd h23 (by omega)
    · refine cw_aload_n C dd_Mo_committable_26 rfl ?_
      refine cw_getr (q' := 228) C wc_34 kF_Mo_77 is_34 (by decide) rfl dd_Mo_committable_27 rfl ?_
      refine cw_bipush (v := nI 60) C dd_Mo_committable_30 (by decide +kernel) ?_
      refine cw_iload_n C dd_Mo_committable_32 rfl ?_
      refine nw_imul C dd_Mo_committable_33 ?_
      refine cw_iconst (v := nI 4) C dd_Mo_committable_34 (by decide +kernel) ?_
      refine cw_iload_n C dd_Mo_committable_35 rfl ?_
      refine nw_imul C dd_Mo_committable_36 ?_
      refine nw_iadd C dd_Mo_committable_37 ?_
      refine cw_iconst (v := nI 4) C dd_Mo_committable_38 (by decide +kernel) ?_
      refine nw_iadd C dd_Mo_committable_39 ?_
      refine cw_iload C dd_Mo_committable_40 rfl ?_
      refine nw_iadd C dd_Mo_committable_42 ?_
      refine nw_iald C is_57 (by first | omega | (simp [wx_u] <;> omega)) (by decide) dd_Mo_committable_43 ?_
      refine cw_iconst (v := nI 1) C dd_Mo_committable_44 (by decide +kernel) ?_
      refine nw_idec C dd_Mo_committable_45 ?_
      refine cw_istore C dd_Mo_committable_46 (Nat.le_of_ble_eq_true rfl) ?_
      refine cw_iload_n C dd_Mo_committable_48 rfl ?_
      refine cw_iload C dd_Mo_committable_49 rfl ?_
      refine nw_if_lt (tgt := 76) C dd_Mo_committable_51 (by decide) (by split <;> omega) (fun h51 => ?_) (fun h51 => ?_)
      · refine cw_iconst (v := nI 0) C dd_Mo_committable_76 (by decide +kernel) ?_
        refine nw_iadd C dd_Mo_committable_77 ?_
        refine cw_istore_n C dd_Mo_committable_78 (Nat.le_of_ble_eq_true rfl) ?_
        refine nw_iinc (b := 1) C dd_Mo_committable_79 (by decide +kernel) rfl (Nat.le_of_ble_eq_true rfl) ?_
        refine cw_goto (tgt := 20) C dd_Mo_committable_82 (by decide) ?_
        have k9 := ih (i + 1)
        rw [show zm_on X r w (i + 1) = zm_on X r w i from if_neg (fun q => by rw [if_neg q.1] at h51; omega)] at k9
        exact k9 _ (by omega)
      · have g3 : X 228 (60 * r + 4 * w + 4 + i) ≠ 0 := fun q => by rw [if_pos q] at h51; omega
        rw [if_neg g3]
        have g4 := hV.2.2.1 (X 228 (60 * r + 4 * w + 4 + i) - 1) (by omega)
        refine cw_aload_n C dd_Mo_committable_54 rfl ?_
        refine cw_getr (q' := 168) C wc_34 kF_Mo_32 is_34 (by decide) rfl dd_Mo_committable_55 rfl ?_
        refine cw_iload C dd_Mo_committable_58 rfl ?_
        refine nw_iald C is_42 (by first | omega | (simp [wx_u] <;> omega)) (by decide) dd_Mo_committable_60 ?_
        refine cw_iload_n C dd_Mo_committable_61 rfl ?_
        refine cw_callS (As := [_]) C kS_Mo_159 dd_Mo_committable_62 rfl rfl (Nat.le_of_ble_eq_true rfl) ⟨(Nat.le_of_ble_eq_true rfl), (Nat.le_of_ble_eq_true rfl)⟩ ⟨(Nat.le_of_ble_eq_true rfl), (Nat.le_of_ble_eq_true rfl)⟩ (mm_Mo_leader X w (by omega)) (nw_ki ?_)
        refine nw_ishr C dd_Mo_committable_65 (by first | omega | (simp [wx_u] <;> omega)) (by first | omega | (simp [wx_u] <;> omega)) ?_
        refine cw_iconst (v := nI 1) C dd_Mo_committable_66 (by decide +kernel) ?_
        refine nw_iand1 C dd_Mo_committable_67 ?_
        refine cw_iconst (v := nI 1) C dd_Mo_committable_68 (by decide +kernel) ?_
        refine nw_icmp_ne (tgt := 76) C dd_Mo_committable_69 (by decide) (by first | omega | (simp [wx_u] <;> omega)) (by first | omega | (simp [wx_u] <;> omega)) (fun h69 => ?_) (fun h69 => ?_)
        · refine cw_iconst (v := nI 0) C dd_Mo_committable_76 (by decide +kernel) ?_
          refine nw_iadd C dd_Mo_committable_77 ?_
          refine cw_istore_n C dd_Mo_committable_78 (Nat.le_of_ble_eq_true rfl) ?_
          refine nw_iinc (b := 1) C dd_Mo_committable_79 (by decide +kernel) rfl (Nat.le_of_ble_eq_true rfl) ?_
          refine cw_goto (tgt := 20) C dd_Mo_committable_82 (by decide) ?_
          have k9 := ih (i + 1)
          rw [show zm_on X r w (i + 1) = zm_on X r w i from if_neg (fun q => h69 q.2)] at k9
          exact k9 _ (by omega)
        · refine cw_iconst (v := nI 1) C dd_Mo_committable_72 (by decide +kernel) ?_
          refine cw_goto (tgt := 77) C dd_Mo_committable_73 (by decide) ?_
          refine nw_iadd C dd_Mo_committable_77 ?_
          refine cw_istore_n C dd_Mo_committable_78 (Nat.le_of_ble_eq_true rfl) ?_
          refine nw_iinc (b := 1) C dd_Mo_committable_79 (by decide +kernel) rfl (Nat.le_of_ble_eq_true rfl) ?_
          refine cw_goto (tgt := 20) C dd_Mo_committable_82 (by decide) ?_
          have k9 := ih (i + 1)
          rw [show zm_on X r w (i + 1) = zm_on X r w i + 1 from if_pos ⟨g3, h69⟩] at k9
          exact k9 _ (by omega)
set_option maxRecDepth 100000 in
set_option maxHeartbeats 4000000 in
theorem lp_Mo_committable {p : Program} {l : Launch} {e : Env} {s : State} {m : MethodId} {args : Array Value} {below : List Frame} {meth : Method} {c : Code} {A : Nat → Prop} {g : wd_G} {G : State → Prop} (X : wx_S) (r : Nat) (hr : r < 4) (hV : zm_V X) (hD : zm_D X) (RES : Nat) (C : cw_C p s m args meth c A wd_all g cc_Mo_committable 6 "DagLedgerModel" (some .int)) (hA : ∀ (w : Nat) (z1 z2 z3 : Option Value), w = RES → cw_W p l e (cw_rm 3 0 0) s m args below meth c A wd_all g 0 0 G 6 99 [some (.ref 136), some (.int (nI r)), some (.int (nI w)), z1, z2, z3] [] (wx_e X) (wx_l X)) (hB : ∀ (w : Nat) (z1 z2 z3 : Option Value), 0 = RES → cw_W p l e (cw_rm 3 0 0) s m args below meth c A wd_all g 0 0 G 6 107 [some (.ref 136), some (.int (nI r)), some (.int (nI w)), z1, z2, z3] [] (wx_e X) (wx_l X)) : ∀ (n w : Nat) (z1 z2 z3 : Option Value), 14 ≤ w + 2 * n ∧ w ≤ 16 → zm_comF X r w n = RES → cw_W p l e (cw_rm 3 0 0) s m args below meth c A wd_all g 0 0 G 6 9 [some (.ref 136), some (.int (nI r)), some (.int (nI w)), z1, z2, z3] [] (wx_e X) (wx_l X) := by
  intro n
  induction n with
  | zero =>
    intro w z1 z2 z3 hw hres
    refine cw_iload_n C dd_Mo_committable_9 rfl ?_
    refine cw_bipush (v := nI 14) C dd_Mo_committable_10 (by decide +kernel) ?_
    refine nw_icmp_ge (tgt := 107) C dd_Mo_committable_12 (by decide) (by first | omega | (simp [wx_u] <;> omega)) (by first | omega | (simp [wx_u] <;> omega)) (fun h12 => ?_) (fun h12 => ?_)
    · exact hB w _ _ _ (by rw [← hres, zm_comF])
    · exact absurd h12 (by omega)
  | succ n ih =>
    intro w z1 z2 z3 hw hres
    refine cw_iload_n C dd_Mo_committable_9 rfl ?_
    refine cw_bipush (v := nI 14) C dd_Mo_committable_10 (by decide +kernel) ?_
    refine nw_icmp_ge (tgt := 107) C dd_Mo_committable_12 (by decide) (by first | omega | (simp [wx_u] <;> omega)) (by first | omega | (simp [wx_u] <;> omega)) (fun h12 => ?_) (fun h12 => ?_)
    · exact hB w _ _ _ (by rw [← hres, zm_comF, if_pos (by omega)])
    · refine cw_iconst (v := nI 0) C dd_Mo_committable_15 (by decide +kernel) ?_
      refine cw_istore_n C dd_Mo_committable_16 (Nat.le_of_ble_eq_true rfl) ?_
      refine cw_iconst (v := nI 0) C dd_Mo_committable_17 (by decide +kernel) ?_
      refine cw_istore C dd_Mo_committable_18 (Nat.le_of_ble_eq_true rfl) ?_
      refine lp_Mo_committable1 X r hr hV hD w (by omega) C ?_ 4 0 _ (by omega)
      intro z
      have g8 := zm_on_le X r w 4
      refine cw_aload_n C dd_Mo_committable_85 rfl ?_
      refine cw_iload_n C dd_Mo_committable_86 rfl ?_
      refine cw_iload_n C dd_Mo_committable_87 rfl ?_
      refine cw_callV (As := [_, _]) C kV_Mo_162 wc_34 is_34 dd_Mo_committable_88 rfl rfl (Nat.le_of_ble_eq_true rfl) ⟨(Nat.le_of_ble_eq_true rfl), (Nat.le_of_ble_eq_true rfl)⟩ ⟨(Nat.le_of_ble_eq_true rfl), (Nat.le_of_ble_eq_true rfl)⟩ (mm_Mo_hasLeader X r hr w (by omega) (zm_D_lt hV hD)) (nw_ki ?_)
      refine nw_zeq (tgt := 101) C dd_Mo_committable_91 (by decide) (fun h91 => ?_) (fun h91 => ?_)
      · refine nw_iinc (b := 2) C dd_Mo_committable_101 (by decide +kernel) rfl (Nat.le_of_ble_eq_true rfl) ?_
        refine cw_goto (tgt := 9) C dd_Mo_committable_104 (by decide) ?_
        refine ih (w + 2) _ _ _ (by omega) ?_
        rw [← hres]
        conv => rhs; rw [zm_comF]
        rw [if_neg (by omega), if_neg (fun q => h91 q.1)]
      · refine cw_iload_n C dd_Mo_committable_94 rfl ?_
        refine cw_iconst (v := nI 2) C dd_Mo_committable_95 (by decide +kernel) ?_
        refine nw_icmp_lt (tgt := 101) C dd_Mo_committable_96 (by decide) (by first | omega | (simp [wx_u] <;> omega)) (by first | omega | (simp [wx_u] <;> omega)) (fun h96 => ?_) (fun h96 => ?_)
        · refine nw_iinc (b := 2) C dd_Mo_committable_101 (by decide +kernel) rfl (Nat.le_of_ble_eq_true rfl) ?_
          refine cw_goto (tgt := 9) C dd_Mo_committable_104 (by decide) ?_
          refine ih (w + 2) _ _ _ (by omega) ?_
          rw [← hres]
          conv => rhs; rw [zm_comF]
          rw [if_neg (by omega), if_neg (fun q => absurd q.2 (by omega))]
        · exact hA w _ _ _ (by rw [← hres, zm_comF, if_neg (by omega), if_pos ⟨h91, h96⟩])
set_option maxRecDepth 100000 in
set_option maxHeartbeats 4000000 in
theorem mm_Mo_committable (X : wx_S) (r : Nat) (hr : r < 4) (hV : zm_V X) (hD : zm_D X) (hl : X 224 r ≤ 14) : nw_M wd_all yy_Mo_committable cc_Mo_committable 6 (some .int) 3 0 0 [.ref 136, .int (nI r)] X (fun v X' => v = some (.int (nI (zm_com X r))) ∧ X' = X) := by
  refine nw_of [some (.ref 136), some (.int (nI r)), none, none, none, none] (by decide +kernel) rfl (Nat.le_of_ble_eq_true rfl) rfl ?_
  intro p l e s m args below meth c A g C
  refine cw_aload_n C dd_Mo_committable_0 rfl ?_
  refine cw_getr (q' := 224) C wc_34 kF_Mo_74 is_34 (by decide) rfl dd_Mo_committable_1 rfl ?_
  refine cw_iload_n C dd_Mo_committable_4 rfl ?_
  refine nw_iald C is_56 (by first | omega | (simp [wx_u] <;> omega)) (by decide) dd_Mo_committable_5 ?_
  refine cw_iconst (v := nI 2) C dd_Mo_committable_6 (by decide +kernel) ?_
  refine nw_iadd C dd_Mo_committable_7 ?_
  refine cw_istore_n C dd_Mo_committable_8 (Nat.le_of_ble_eq_true rfl) ?_
  refine lp_Mo_committable X r hr hV hD (zm_com X r) C (fun w z1 z2 z3 hw => ?_) (fun w z1 z2 z3 hw => ?_) 8 _ _ _ _ (by omega) rfl
  · refine cw_iload_n C dd_Mo_committable_99 rfl ?_
    exact cw_ireturn C dd_Mo_committable_100 (Nat.le_of_ble_eq_true rfl) (Nat.le_of_ble_eq_true rfl) ⟨_, rfl, rfl, ⟨by rw [hw], rfl⟩⟩
  · refine cw_iconst (v := nI 0) C dd_Mo_committable_107 (by decide +kernel) ?_
    exact cw_ireturn C dd_Mo_committable_108 (Nat.le_of_ble_eq_true rfl) (Nat.le_of_ble_eq_true rfl) ⟨_, rfl, rfl, ⟨by rw [hw], rfl⟩⟩
