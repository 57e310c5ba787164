set_option maxRecDepth 100000 in
set_option maxHeartbeats 4000000 in
theorem mm_Mo_node_bad (X : wx_S) (n : Nat) (hn : n < 4294967296) (hb : 4 ≤ n) (q : Nat) : nw_M wd_all yy_Mo_node cc_Mo_node 5 (some .int) 3 0 0 [.ref 136, .int (nI n), .int (nI q)] X (fun v X' => v = some (.int (nI 0)) ∧ X' = wx_u X 136 0 1) := by
  refine nw_of [some (.ref 136), some (.int (nI n)), some (.int (nI q)), none, none] (by decide +kernel) rfl (Nat.le_of_ble_eq_true rfl) rfl ?_
  intro p l e s m args below meth c A g C
  refine cw_aload_n C dd_Mo_node_0 rfl ?_
  refine cw_iload_n C dd_Mo_node_1 rfl ?_
  refine cw_callV (As := [_]) C kV_Mo_190 wc_34 is_34 dd_Mo_node_2 rfl rfl (Nat.le_of_ble_eq_true rfl) ⟨(Nat.le_of_ble_eq_true rfl), (Nat.le_of_ble_eq_true rfl)⟩ ⟨(Nat.le_of_ble_eq_true rfl), (Nat.le_of_ble_eq_true rfl)⟩ (mm_Mo_isNode_bad X n hn hb) (nw_ki ?_)
  refine nw_if_ne (tgt := 10) C dd_Mo_node_5 (by decide) (by decide) (fun h5 => ?_) (fun h5 => ?_)
  · exact absurd rfl h5
  · refine cw_iconst (v := nI 0) C dd_Mo_node_8 (by decide +kernel) ?_
    exact cw_ireturn C dd_Mo_node_9 (Nat.le_of_ble_eq_true rfl) (Nat.le_of_ble_eq_true rfl) ⟨_, rfl, rfl, ⟨rfl, rfl⟩⟩
def zm_sz (X : wx_S) (r : Nat) : Nat → Nat
  | 0 => 0
  | w + 1 => if w = 0 then 0 else zm_sz X r w + zn_ones (zm_th X r w 4)
def zm_ql (X : wx_S) (r : Nat) : Nat → Nat
  | 0 => 0
  | t + 1 => if X 152 t = r ∧ X 156 t = 0 then zm_ql X r t + 1 else zm_ql X r t
set_option maxRecDepth 100000 in
set_option maxHeartbeats 4000000 in
theorem lp_Mo_node5 {p : Program} {l : Launch} {e : Env} {s : State} {m : MethodId} {args : Array Value} {below : List Frame} {meth : Method} {c : Code} {A : Nat → Prop} {g : wd_G} {G : State → Prop} (X : wx_S) (r : Nat) (hr : r < 4) (hd : ∀ k, k < 240 → X 228 k < 2147483648) (C : cw_C p s m args meth c A wd_all g cc_Mo_node 5 "DagLedgerModel" (some .int)) (hA : cw_W p l e (cw_rm 3 0 0) s m args below meth c A wd_all g 0 0 G 5 46 [some (.ref 136), some (.int (nI r)), some (.int (nI 5)), some (.int (nI (zm_sz X r 15))), some (.int (nI 15))] [] (wx_e X) (wx_l X)) : ∀ (n i : Nat), i + n = 15 → 1 ≤ i → cw_W p l e (cw_rm 3 0 0) s m args below meth c A wd_all g 0 0 G 5 20 [some (.ref 136), some (.int (nI r)), some (.int (nI 5)), some (.int (nI (zm_sz X r i))), some (.int (nI i))] [] (wx_e X) (wx_l X) := by
  intro n
  induction n with
  | zero =>
    intro i hi h1
    have e9 : i = 15 := by omega
    subst e9
    refine cw_iload C dd_Mo_node_20 rfl ?_
    refine cw_bipush (v := nI 15) C dd_Mo_node_22 (by decide +kernel) ?_
    refine nw_icmp_ge (tgt := 46) C dd_Mo_node_24 (by decide) (by first | omega | (simp [wx_u] <;> omega)) (by first | omega | (simp [wx_u] <;> omega)) (fun h24 => ?_) (fun h24 => ?_)
    · exact hA
    · exact absurd h24 (by omega)
  | succ n ih =>
    intro i hi h1
    have g1 := zm_th_lt X r i 4 (Nat.le_refl _)
    refine cw_iload C dd_Mo_node_20 rfl ?_
    refine cw_bipush (v := nI 15) C dd_Mo_node_22 (by decide +kernel) ?_
    refine nw_icmp_ge (tgt := 46) C dd_Mo_node_24 (by decide) (by first | omega | (simp [wx_u] <;> omega)) (by first | omega | (simp [wx_u] <;> omega)) (fun h24 => ?_) (fun h24 => ?_)
    · exact absurd h24 (by omega)
    · refine cw_iload_n C dd_Mo_node_27 rfl ?_
      refine cw_aload_n C dd_Mo_node_28 rfl ?_
      refine cw_iload_n C dd_Mo_node_29 rfl ?_
      refine cw_iload C dd_Mo_node_30 rfl ?_
      refine cw_callV (As := [_, _]) C kV_Mo_156 wc_34 is_34 dd_Mo_node_32 rfl rfl (Nat.le_of_ble_eq_true rfl) ⟨(Nat.le_of_ble_eq_true rfl), (Nat.le_of_ble_eq_true rfl)⟩ ⟨(Nat.le_of_ble_eq_true rfl), (Nat.le_of_ble_eq_true rfl)⟩ (mm_Mo_there X r hr i (by omega) hd) (nw_ki ?_)
      refine cw_callS (As := [_]) C kS_Mo_115 dd_Mo_node_35 rfl rfl (Nat.le_of_ble_eq_true rfl) ⟨(Nat.le_of_ble_eq_true rfl), (Nat.le_of_ble_eq_true rfl)⟩ ⟨(Nat.le_of_ble_eq_true rfl), (Nat.le_of_ble_eq_true rfl)⟩ (mm_Mo_ones X _ (by omega)) (nw_ki ?_)
      refine nw_iadd C dd_Mo_node_38 ?_
      refine cw_istore_n C dd_Mo_node_39 (Nat.le_of_ble_eq_true rfl) ?_
      refine nw_iinc (b := 1) C dd_Mo_node_40 (by decide +kernel) rfl (Nat.le_of_ble_eq_true rfl) ?_
      refine cw_goto (tgt := 20) C dd_Mo_node_43 (by decide) ?_
      have k9 := ih (i + 1) (by omega) (by omega)
      rw [zm_sz, if_neg (by omega)] at k9
      exact k9
set_option maxRecDepth 100000 in
set_option maxHeartbeats 4000000 in
theorem lp_Mo_node7 {p : Program} {l : Launch} {e : Env} {s : State} {m : MethodId} {args : Array Value} {below : List Frame} {meth : Method} {c : Code} {A : Nat → Prop} {g : wd_G} {G : State → Prop} (X : wx_S) (r : Nat) (hr : r < 4) (hnn : X 136 1 ≤ 40) (ho : ∀ t, t < 40 → X 152 t < 4294967296 ∧ X 156 t < 4294967296) (C : cw_C p s m args meth c A wd_all g cc_Mo_node 5 "DagLedgerModel" (some .int)) (hA : cw_W p l e (cw_rm 3 0 0) s m args below meth c A wd_all g 0 0 G 5 99 [some (.ref 136), some (.int (nI r)), some (.int (nI 7)), some (.int (nI (zm_ql X r (X 136 1)))), some (.int (nI (X 136 1)))] [] (wx_e X) (wx_l X)) : ∀ (n i : Nat), i + n = X 136 1 → cw_W p l e (cw_rm 3 0 0) s m args below meth c A wd_all g 0 0 G 5 49 [some (.ref 136), some (.int (nI r)), some (.int (nI 7)), some (.int (nI (zm_ql X r i))), some (.int (nI i))] [] (wx_e X) (wx_l X) := by
  intro n
  induction n with
  | zero =>
    intro i hi
    have e9 : i = X 136 1 := by omega
    refine cw_iload C dd_Mo_node_49 rfl ?_
    refine cw_aload_n C dd_Mo_node_51 rfl ?_
    refine nw_geti C wc_34 kF_Mo_176 is_34 (by decide) rfl dd_Mo_node_52 ?_
    refine nw_icmp_ge (tgt := 99) C dd_Mo_node_55 (by decide) (by first | omega | (simp [wx_u] <;> omega)) (by first | omega | (simp [wx_u] <;> omega)) (fun h55 => ?_) (fun h55 => ?_)
    · rw [e9]
      exact hA
    · exact absurd h55 (by omega)
  | succ n ih =>
    intro i hi
    have g1 := ho i (by omega)
    refine cw_iload C dd_Mo_node_49 rfl ?_
    refine cw_aload_n C dd_Mo_node_51 rfl ?_
    refine nw_geti C wc_34 kF_Mo_176 is_34 (by decide) rfl dd_Mo_node_52 ?_
    refine nw_icmp_ge (tgt := 99) C dd_Mo_node_55 (by decide) (by first | omega | (simp [wx_u] <;> omega)) (by first | omega | (simp [wx_u] <;> omega)) (fun h55 => ?_) (fun h55 => ?_)
    · exact absurd h55 (by omega)
    · refine cw_iload_n C dd_Mo_node_58 rfl ?_
      refine cw_bipush (v := nI 7) C dd_Mo_node_59 (by decide +kernel) ?_
      refine nw_icmp_ne (tgt := 99) C dd_Mo_node_61 (by decide) (by first | omega | (simp [wx_u] <;> omega)) (by first | omega | (simp [wx_u] <;> omega)) (fun h61 => ?_) (fun h61 => ?_)
      · exact absurd rfl h61
      · refine cw_iload_n C dd_Mo_node_64 rfl ?_
        refine cw_aload_n C dd_Mo_node_65 rfl ?_
        refine cw_getr (q' := 152) C wc_34 kF_Mo_19 is_34 (by decide) rfl dd_Mo_node_66 rfl ?_
        refine cw_iload C dd_Mo_node_69 rfl ?_
        refine nw_iald C is_38 (by first | omega | (simp [wx_u] <;> omega)) (by decide) dd_Mo_node_71 ?_
        refine cw_iload_n C dd_Mo_node_72 rfl ?_
        refine nw_icmp_ne (tgt := 90) C dd_Mo_node_73 (by decide) (by first | omega | (simp [wx_u] <;> omega)) (by first | omega | (simp [wx_u] <;> omega)) (fun h73 => ?_) (fun h73 => ?_)
        · refine cw_iconst (v := nI 0) C dd_Mo_node_90 (by decide +kernel) ?_
          refine nw_iadd C dd_Mo_node_91 ?_
          refine cw_istore_n C dd_Mo_node_92 (Nat.le_of_ble_eq_true rfl) ?_
          refine nw_iinc (b := 1) C dd_Mo_node_93 (by decide +kernel) rfl (Nat.le_of_ble_eq_true rfl) ?_
          refine cw_goto (tgt := 49) C dd_Mo_node_96 (by decide) ?_
          have k9 := ih (i + 1) (by omega)
          rw [zm_ql, if_neg (fun z => h73 z.1)] at k9
          exact k9
        · refine cw_aload_n C dd_Mo_node_76 rfl ?_
          refine cw_getr (q' := 156) C wc_34 kF_Mo_22 is_34 (by decide) rfl dd_Mo_node_77 rfl ?_
          refine cw_iload C dd_Mo_node_80 rfl ?_
          refine nw_zald C is_39 (by first | omega | (simp [wx_u] <;> omega)) (by decide) dd_Mo_node_82 ?_
          refine nw_if_ne (tgt := 90) C dd_Mo_node_83 (by decide) (by first | omega | (simp [wx_u] <;> omega)) (fun h83 => ?_) (fun h83 => ?_)
          · refine cw_iconst (v := nI 0) C dd_Mo_node_90 (by decide +kernel) ?_
            refine nw_iadd C dd_Mo_node_91 ?_
            refine cw_istore_n C dd_Mo_node_92 (Nat.le_of_ble_eq_true rfl) ?_
            refine nw_iinc (b := 1) C dd_Mo_node_93 (by decide +kernel) rfl (Nat.le_of_ble_eq_true rfl) ?_
            refine cw_goto (tgt := 49) C dd_Mo_node_96 (by decide) ?_
            have k9 := ih (i + 1) (by omega)
            rw [zm_ql, if_neg (fun z => h83 z.2)] at k9
            exact k9
          · refine cw_iconst (v := nI 1) C dd_Mo_node_86 (by decide +kernel) ?_
            refine cw_goto (tgt := 91) C dd_Mo_node_87 (by decide) ?_
            refine nw_iadd C dd_Mo_node_91 ?_
            refine cw_istore_n C dd_Mo_node_92 (Nat.le_of_ble_eq_true rfl) ?_
            refine nw_iinc (b := 1) C dd_Mo_node_93 (by decide +kernel) rfl (Nat.le_of_ble_eq_true rfl) ?_
            refine cw_goto (tgt := 49) C dd_Mo_node_96 (by decide) ?_
            have k9 := ih (i + 1) (by omega)
            rw [zm_ql, if_pos ⟨h73, h83⟩] at k9
            exact k9
set_option maxRecDepth 100000 in
set_option maxHeartbeats 4000000 in
theorem mm_Mo_node5 (X : wx_S) (r : Nat) (hr : r < 4) (hnn : X 136 1 ≤ 40) (hd : ∀ k, k < 240 → X 228 k < 2147483648) : nw_M wd_all yy_Mo_node cc_Mo_node 5 (some .int) 3 0 0 [.ref 136, .int (nI r), .int (nI 5)] X (fun v X' => v = some (.int (nI (zm_sz (wx_u X 136 0 0) r 15))) ∧ X' = (wx_u X 136 0 0)) := by
  refine nw_of [some (.ref 136), some (.int (nI r)), some (.int (nI 5)), none, none] (by decide +kernel) rfl (Nat.le_of_ble_eq_true rfl) rfl ?_
  intro p l e s m args below meth c A g C
  have e1 : wx_u X 136 0 0 136 1 = X 136 1 := wx_u_nk (by decide)
  refine cw_aload_n C dd_Mo_node_0 rfl ?_
  refine cw_iload_n C dd_Mo_node_1 rfl ?_
  refine cw_callV (As := [_]) C kV_Mo_190 wc_34 is_34 dd_Mo_node_2 rfl rfl (Nat.le_of_ble_eq_true rfl) ⟨(Nat.le_of_ble_eq_true rfl), (Nat.le_of_ble_eq_true rfl)⟩ ⟨(Nat.le_of_ble_eq_true rfl), (Nat.le_of_ble_eq_true rfl)⟩ (mm_Mo_isNode X r hr) (nw_ki ?_)
  refine nw_if_ne (tgt := 10) C dd_Mo_node_5 (by decide) (by decide) (fun h5 => ?_) (fun h5 => ?_)
  · refine cw_iconst (v := nI 0) C dd_Mo_node_10 (by decide +kernel) ?_
    refine cw_istore_n C dd_Mo_node_11 (Nat.le_of_ble_eq_true rfl) ?_
    refine cw_iload_n C dd_Mo_node_12 rfl ?_
    refine cw_iconst (v := nI 5) C dd_Mo_node_13 (by decide +kernel) ?_
    refine nw_icmp_ne (tgt := 46) C dd_Mo_node_14 (by decide) (by first | omega | (simp [wx_u] <;> omega)) (by first | omega | (simp [wx_u] <;> omega)) (fun h14 => ?_) (fun h14 => ?_)
    · exact absurd rfl h14
    · refine cw_iconst (v := nI 1) C dd_Mo_node_17 (by decide +kernel) ?_
      refine cw_istore C dd_Mo_node_18 (Nat.le_of_ble_eq_true rfl) ?_
      refine lp_Mo_node5 (wx_u X 136 0 0) r hr (fun k hk => by rw [wx_u_nc (by decide)]; exact hd k hk) C ?_ 14 1 (by omega) (by omega)
      refine cw_iconst (v := nI 0) C dd_Mo_node_46 (by decide +kernel) ?_
      refine cw_istore C dd_Mo_node_47 (Nat.le_of_ble_eq_true rfl) ?_
      refine cw_iload C dd_Mo_node_49 rfl ?_
      refine cw_aload_n C dd_Mo_node_51 rfl ?_
      refine nw_geti C wc_34 kF_Mo_176 is_34 (by decide) rfl dd_Mo_node_52 ?_
      refine nw_icmp_ge (tgt := 99) C dd_Mo_node_55 (by decide) (by decide) (by rw [e1]; omega) (fun h55 => ?_) (fun h55 => ?_)
      · refine cw_iload_n C dd_Mo_node_99 rfl ?_
        refine cw_iconst (v := nI 5) C dd_Mo_node_100 (by decide +kernel) ?_
        refine nw_icmp_eq (tgt := 110) C dd_Mo_node_101 (by decide) (by first | omega | (simp [wx_u] <;> omega)) (by first | omega | (simp [wx_u] <;> omega)) (fun h101 => ?_) (fun h101 => ?_)
        · refine cw_iload_n C dd_Mo_node_110 rfl ?_
          exact cw_ireturn C dd_Mo_node_111 (Nat.le_of_ble_eq_true rfl) (Nat.le_of_ble_eq_true rfl) ⟨_, rfl, rfl, ⟨rfl, rfl⟩⟩
        · exact absurd rfl h101
      · refine cw_iload_n C dd_Mo_node_58 rfl ?_
        refine cw_bipush (v := nI 7) C dd_Mo_node_59 (by decide +kernel) ?_
        refine nw_icmp_ne (tgt := 99) C dd_Mo_node_61 (by decide) (by first | omega | (simp [wx_u] <;> omega)) (by first | omega | (simp [wx_u] <;> omega)) (fun h61 => ?_) (fun h61 => ?_)
        · refine cw_iload_n C dd_Mo_node_99 rfl ?_
          refine cw_iconst (v := nI 5) C dd_Mo_node_100 (by decide +kernel) ?_
          refine nw_icmp_eq (tgt := 110) C dd_Mo_node_101 (by decide) (by first | omega | (simp [wx_u] <;> omega)) (by first | omega | (simp [wx_u] <;> omega)) (fun h101 => ?_) (fun h101 => ?_)
          · refine cw_iload_n C dd_Mo_node_110 rfl ?_
            exact cw_ireturn C dd_Mo_node_111 (Nat.le_of_ble_eq_true rfl) (Nat.le_of_ble_eq_true rfl) ⟨_, rfl, rfl, ⟨rfl, rfl⟩⟩
          · exact absurd rfl h101
        · exact absurd h61 (by decide)
  · exact absurd h5 (by decide)
set_option maxRecDepth 100000 in
set_option maxHeartbeats 4000000 in
theorem mm_Mo_node7 (X : wx_S) (r : Nat) (hr : r < 4) (hnn : X 136 1 ≤ 40) (ho : ∀ t, t < 40 → X 152 t < 4294967296 ∧ X 156 t < 4294967296) : nw_M wd_all yy_Mo_node cc_Mo_node 5 (some .int) 3 0 0 [.ref 136, .int (nI r), .int (nI 7)] X (fun v X' => v = some (.int (nI (zm_ql (wx_u X 136 0 0) r (X 136 1)))) ∧ X' = (wx_u X 136 0 0)) := by
  refine nw_of [some (.ref 136), some (.int (nI r)), some (.int (nI 7)), none, none] (by decide +kernel) rfl (Nat.le_of_ble_eq_true rfl) rfl ?_
  intro p l e s m args below meth c A g C
  have e1 : wx_u X 136 0 0 136 1 = X 136 1 := wx_u_nk (by decide)
  refine cw_aload_n C dd_Mo_node_0 rfl ?_
  refine cw_iload_n C dd_Mo_node_1 rfl ?_
  refine cw_callV (As := [_]) C kV_Mo_190 wc_34 is_34 dd_Mo_node_2 rfl rfl (Nat.le_of_ble_eq_true rfl) ⟨(Nat.le_of_ble_eq_true rfl), (Nat.le_of_ble_eq_true rfl)⟩ ⟨(Nat.le_of_ble_eq_true rfl), (Nat.le_of_ble_eq_true rfl)⟩ (mm_Mo_isNode X r hr) (nw_ki ?_)
  refine nw_if_ne (tgt := 10) C dd_Mo_node_5 (by decide) (by decide) (fun h5 => ?_) (fun h5 => ?_)
  · refine cw_iconst (v := nI 0) C dd_Mo_node_10 (by decide +kernel) ?_
    refine cw_istore_n C dd_Mo_node_11 (Nat.le_of_ble_eq_true rfl) ?_
    refine cw_iload_n C dd_Mo_node_12 rfl ?_
    refine cw_iconst (v := nI 5) C dd_Mo_node_13 (by decide +kernel) ?_
    refine nw_icmp_ne (tgt := 46) C dd_Mo_node_14 (by decide) (by first | omega | (simp [wx_u] <;> omega)) (by first | omega | (simp [wx_u] <;> omega)) (fun h14 => ?_) (fun h14 => ?_)
    · refine cw_iconst (v := nI 0) C dd_Mo_node_46 (by decide +kernel) ?_
      refine cw_istore C dd_Mo_node_47 (Nat.le_of_ble_eq_true rfl) ?_
      refine lp_Mo_node7 (wx_u X 136 0 0) r hr (by rw [e1]; exact hnn) (fun k hk => by rw [wx_u_nc (by decide), wx_u_nc (by decide)]; exact ho k hk) C ?_ (X 136 1) 0 (by rw [e1]; omega)
      rw [e1]
      refine cw_iload_n C dd_Mo_node_99 rfl ?_
      refine cw_iconst (v := nI 5) C dd_Mo_node_100 (by decide +kernel) ?_
      refine nw_icmp_eq (tgt := 110) C dd_Mo_node_101 (by decide) (by first | omega | (simp [wx_u] <;> omega)) (by first | omega | (simp [wx_u] <;> omega)) (fun h101 => ?_) (fun h101 => ?_)
      · exact absurd h101 (by decide)
      · refine cw_iload_n C dd_Mo_node_104 rfl ?_
        refine cw_bipush (v := nI 7) C dd_Mo_node_105 (by decide +kernel) ?_
        refine nw_icmp_ne (tgt := 112) C dd_Mo_node_107 (by decide) (by first | omega | (simp [wx_u] <;> omega)) (by first | omega | (simp [wx_u] <;> omega)) (fun h107 => ?_) (fun h107 => ?_)
        · exact absurd rfl h107
        · refine cw_iload_n C dd_Mo_node_110 rfl ?_
          exact cw_ireturn C dd_Mo_node_111 (Nat.le_of_ble_eq_true rfl) (Nat.le_of_ble_eq_true rfl) ⟨_, rfl, rfl, ⟨rfl, rfl⟩⟩
    · exact absurd h14 (by decide)
  · exact absurd h5 (by decide)
def zm_node (X : wx_S) (r q : Nat) : Nat := if q = 0 then X 192 r else if q = 1 then X 204 r else if q = 2 then X 216 r else if q = 3 then X 220 r else if q = 4 then X 224 r else if q = 6 then X 248 r else if q = 8 then X 196 r else 4294967295
set_option maxRecDepth 100000 in
set_option maxHeartbeats 4000000 in
theorem mm_Mo_node (X : wx_S) (r : Nat) (hr : r < 4) (hnn : X 136 1 ≤ 40) (q : Nat) (hq : q < 4294967296) (h5' : q ≠ 5) (h7' : q ≠ 7) : nw_M wd_all yy_Mo_node cc_Mo_node 5 (some .int) 3 0 0 [.ref 136, .int (nI r), .int (nI q)] X (fun v X' => v = some (.int (nI (zm_node X r q))) ∧ X' = (wx_u X 136 0 0)) := by
  refine nw_of [some (.ref 136), some (.int (nI r)), some (.int (nI q)), none, none] (by decide +kernel) rfl (Nat.le_of_ble_eq_true rfl) rfl ?_
  intro p l e s m args below meth c A g C
  refine cw_aload_n C dd_Mo_node_0 rfl ?_
  refine cw_iload_n C dd_Mo_node_1 rfl ?_
  refine cw_callV (As := [_]) C kV_Mo_190 wc_34 is_34 dd_Mo_node_2 rfl rfl (Nat.le_of_ble_eq_true rfl) ⟨(Nat.le_of_ble_eq_true rfl), (Nat.le_of_ble_eq_true rfl)⟩ ⟨(Nat.le_of_ble_eq_true rfl), (Nat.le_of_ble_eq_true rfl)⟩ (mm_Mo_isNode X r hr) (nw_ki ?_)
  refine nw_if_ne (tgt := 10) C dd_Mo_node_5 (by decide) (by decide) (fun h5 => ?_) (fun h5 => ?_)
  · refine cw_iconst (v := nI 0) C dd_Mo_node_10 (by decide +kernel) ?_
    refine cw_istore_n C dd_Mo_node_11 (Nat.le_of_ble_eq_true rfl) ?_
    refine cw_iload_n C dd_Mo_node_12 rfl ?_
    refine cw_iconst (v := nI 5) C dd_Mo_node_13 (by decide +kernel) ?_
    refine nw_icmp_ne (tgt := 46) C dd_Mo_node_14 (by decide) (by first | omega | (simp [wx_u] <;> omega)) (by first | omega | (simp [wx_u] <;> omega)) (fun h14 => ?_) (fun h14 => ?_)
    · refine cw_iconst (v := nI 0) C dd_Mo_node_46 (by decide +kernel) ?_
      refine cw_istore C dd_Mo_node_47 (Nat.le_of_ble_eq_true rfl) ?_
      refine cw_iload C dd_Mo_node_49 rfl ?_
      refine cw_aload_n C dd_Mo_node_51 rfl ?_
      refine nw_getiv C (X 136 1) wc_34 kF_Mo_176 is_34 (by decide) rfl dd_Mo_node_52 (by repeat (first | rfl | rw [wx_u_eq] | rw [wx_u_nc (by omega)] | rw [wx_u_nk (by omega)])) ?_
      refine nw_icmp_ge (tgt := 99) C dd_Mo_node_55 (by decide) (by first | omega | (simp [wx_u] <;> omega)) (by first | omega | (simp [wx_u] <;> omega)) (fun h55 => ?_) (fun h55 => ?_)
      · refine cw_iload_n C dd_Mo_node_99 rfl ?_
        refine cw_iconst (v := nI 5) C dd_Mo_node_100 (by decide +kernel) ?_
        refine nw_icmp_eq (tgt := 110) C dd_Mo_node_101 (by decide) (by first | omega | (simp [wx_u] <;> omega)) (by first | omega | (simp [wx_u] <;> omega)) (fun h101 => ?_) (fun h101 => ?_)
        · exact absurd h101 h5'
        · refine cw_iload_n C dd_Mo_node_104 rfl ?_
          refine cw_bipush (v := nI 7) C dd_Mo_node_105 (by decide +kernel) ?_
          refine nw_icmp_ne (tgt := 112) C dd_Mo_node_107 (by decide) (by first | omega | (simp [wx_u] <;> omega)) (by first | omega | (simp [wx_u] <;> omega)) (fun h107 => ?_) (fun h107 => ?_)
          · refine cw_iload_n C dd_Mo_node_112 rfl ?_
            refine cw_iconst (v := nI 4) C dd_Mo_node_113 (by decide +kernel) ?_
            refine nw_scmp_ge (tgt := 174) C dd_Mo_node_114 (by decide) (by first | omega | (simp [wx_u] <;> omega)) (by first | omega | (simp [wx_u] <;> omega)) (fun h114 => ?_) (fun h114 => ?_)
            · refine cw_iload_n C dd_Mo_node_174 rfl ?_
              refine cw_iconst (v := nI 4) C dd_Mo_node_175 (by decide +kernel) ?_
              refine nw_icmp_ne (tgt := 188) C dd_Mo_node_176 (by decide) (by first | omega | (simp [wx_u] <;> omega)) (by first | omega | (simp [wx_u] <;> omega)) (fun h176 => ?_) (fun h176 => ?_)
              · refine cw_iload_n C dd_Mo_node_188 rfl ?_
                refine cw_bipush (v := nI 6) C dd_Mo_node_189 (by decide +kernel) ?_
                refine nw_icmp_ne (tgt := 203) C dd_Mo_node_191 (by decide) (by first | omega | (simp [wx_u] <;> omega)) (by first | omega | (simp [wx_u] <;> omega)) (fun h191 => ?_) (fun h191 => ?_)
                · refine cw_iload_n C dd_Mo_node_203 rfl ?_
                  refine cw_bipush (v := nI 8) C dd_Mo_node_204 (by decide +kernel) ?_
                  refine nw_icmp_ne (tgt := 218) C dd_Mo_node_206 (by decide) (by first | omega | (simp [wx_u] <;> omega)) (by first | omega | (simp [wx_u] <;> omega)) (fun h206 => ?_) (fun h206 => ?_)
                  · refine cw_iconst (v := nI 4294967295) C dd_Mo_node_218 (by decide +kernel) ?_
                    exact cw_ireturn C dd_Mo_node_219 (Nat.le_of_ble_eq_true rfl) (Nat.le_of_ble_eq_true rfl) ⟨_, rfl, rfl, ⟨by rw [zm_node, if_neg (by omega), if_neg (by omega), if_neg (by omega), if_neg (by omega), if_neg (by omega), if_neg (by omega), if_neg (by omega)], rfl⟩⟩
                  · refine cw_aload_n C dd_Mo_node_209 rfl ?_
                    refine cw_getr (q' := 196) C wc_34 kF_Mo_53 is_34 (by decide) rfl dd_Mo_node_210 rfl ?_
                    refine cw_iload_n C dd_Mo_node_213 rfl ?_
                    refine nw_ialdv C (X 196 r) is_49 (by first | omega | (simp [wx_u] <;> omega)) (by decide) dd_Mo_node_214 (by repeat (first | rfl | rw [wx_u_eq] | rw [wx_u_nc (by omega)] | rw [wx_u_nk (by omega)])) ?_
                    refine cw_goto (tgt := 219) C dd_Mo_node_215 (by decide) ?_
                    exact cw_ireturn C dd_Mo_node_219 (Nat.le_of_ble_eq_true rfl) (Nat.le_of_ble_eq_true rfl) ⟨_, rfl, rfl, ⟨by rw [zm_node, if_neg (by omega), if_neg (by omega), if_neg (by omega), if_neg (by omega), if_neg (by omega), if_neg (by omega), if_pos (by omega)], rfl⟩⟩
                · refine cw_aload_n C dd_Mo_node_194 rfl ?_
                  refine cw_getr (q' := 248) C wc_34 kF_Mo_92 is_34 (by decide) rfl dd_Mo_node_195 rfl ?_
                  refine cw_iload_n C dd_Mo_node_198 rfl ?_
                  refine nw_ialdv C (X 248 r) is_62 (by first | omega | (simp [wx_u] <;> omega)) (by decide) dd_Mo_node_199 (by repeat (first | rfl | rw [wx_u_eq] | rw [wx_u_nc (by omega)] | rw [wx_u_nk (by omega)])) ?_
                  refine cw_goto (tgt := 219) C dd_Mo_node_200 (by decide) ?_
                  exact cw_ireturn C dd_Mo_node_219 (Nat.le_of_ble_eq_true rfl) (Nat.le_of_ble_eq_true rfl) ⟨_, rfl, rfl, ⟨by rw [zm_node, if_neg (by omega), if_neg (by omega), if_neg (by omega), if_neg (by omega), if_neg (by omega), if_pos (by omega)], rfl⟩⟩
              · refine cw_aload_n C dd_Mo_node_179 rfl ?_
                refine cw_getr (q' := 224) C wc_34 kF_Mo_74 is_34 (by decide) rfl dd_Mo_node_180 rfl ?_
                refine cw_iload_n C dd_Mo_node_183 rfl ?_
                refine nw_ialdv C (X 224 r) is_56 (by first | omega | (simp [wx_u] <;> omega)) (by decide) dd_Mo_node_184 (by repeat (first | rfl | rw [wx_u_eq] | rw [wx_u_nc (by omega)] | rw [wx_u_nk (by omega)])) ?_
                refine cw_goto (tgt := 219) C dd_Mo_node_185 (by decide) ?_
                exact cw_ireturn C dd_Mo_node_219 (Nat.le_of_ble_eq_true rfl) (Nat.le_of_ble_eq_true rfl) ⟨_, rfl, rfl, ⟨by rw [zm_node, if_neg (by omega), if_neg (by omega), if_neg (by omega), if_neg (by omega), if_pos (by omega)], rfl⟩⟩
            · refine cw_iload_n C dd_Mo_node_117 rfl ?_
              refine nw_if_ne (tgt := 130) C dd_Mo_node_118 (by decide) (by first | omega | (simp [wx_u] <;> omega)) (fun h118 => ?_) (fun h118 => ?_)
              · refine cw_iload_n C dd_Mo_node_130 rfl ?_
                refine cw_iconst (v := nI 1) C dd_Mo_node_131 (by decide +kernel) ?_
                refine nw_icmp_ne (tgt := 144) C dd_Mo_node_132 (by decide) (by first | omega | (simp [wx_u] <;> omega)) (by first | omega | (simp [wx_u] <;> omega)) (fun h132 => ?_) (fun h132 => ?_)
                · refine cw_iload_n C dd_Mo_node_144 rfl ?_
                  refine cw_iconst (v := nI 2) C dd_Mo_node_145 (by decide +kernel) ?_
                  refine nw_icmp_ne (tgt := 158) C dd_Mo_node_146 (by decide) (by first | omega | (simp [wx_u] <;> omega)) (by first | omega | (simp [wx_u] <;> omega)) (fun h146 => ?_) (fun h146 => ?_)
                  · refine cw_iload_n C dd_Mo_node_158 rfl ?_
                    refine cw_iconst (v := nI 3) C dd_Mo_node_159 (by decide +kernel) ?_
                    refine nw_icmp_ne (tgt := 172) C dd_Mo_node_160 (by decide) (by first | omega | (simp [wx_u] <;> omega)) (by first | omega | (simp [wx_u] <;> omega)) (fun h160 => ?_) (fun h160 => ?_)
                    · refine cw_iconst (v := nI 4294967295) C dd_Mo_node_172 (by decide +kernel) ?_
                      exact cw_ireturn C dd_Mo_node_173 (Nat.le_of_ble_eq_true rfl) (Nat.le_of_ble_eq_true rfl) ⟨_, rfl, rfl, ⟨by rw [zm_node, if_neg (by omega), if_neg (by omega), if_neg (by omega), if_neg (by omega), if_neg (by omega), if_neg (by omega), if_neg (by omega)], rfl⟩⟩
                    · refine cw_aload_n C dd_Mo_node_163 rfl ?_
                      refine cw_getr (q' := 220) C wc_34 kF_Mo_71 is_34 (by decide) rfl dd_Mo_node_164 rfl ?_
                      refine cw_iload_n C dd_Mo_node_167 rfl ?_
                      refine nw_ialdv C (X 220 r) is_55 (by first | omega | (simp [wx_u] <;> omega)) (by decide) dd_Mo_node_168 (by repeat (first | rfl | rw [wx_u_eq] | rw [wx_u_nc (by omega)] | rw [wx_u_nk (by omega)])) ?_
                      refine cw_goto (tgt := 173) C dd_Mo_node_169 (by decide) ?_
                      exact cw_ireturn C dd_Mo_node_173 (Nat.le_of_ble_eq_true rfl) (Nat.le_of_ble_eq_true rfl) ⟨_, rfl, rfl, ⟨by rw [zm_node, if_neg (by omega), if_neg (by omega), if_neg (by omega), if_pos (by omega)], rfl⟩⟩
                  · refine cw_aload_n C dd_Mo_node_149 rfl ?_
                    refine cw_getr (q' := 216) C wc_34 kF_Mo_68 is_34 (by decide) rfl dd_Mo_node_150 rfl ?_
                    refine cw_iload_n C dd_Mo_node_153 rfl ?_
                    refine nw_ialdv C (X 216 r) is_54 (by first | omega | (simp [wx_u] <;> omega)) (by decide) dd_Mo_node_154 (by repeat (first | rfl | rw [wx_u_eq] | rw [wx_u_nc (by omega)] | rw [wx_u_nk (by omega)])) ?_
                    refine cw_goto (tgt := 173) C dd_Mo_node_155 (by decide) ?_
                    exact cw_ireturn C dd_Mo_node_173 (Nat.le_of_ble_eq_true rfl) (Nat.le_of_ble_eq_true rfl) ⟨_, rfl, rfl, ⟨by rw [zm_node, if_neg (by omega), if_neg (by omega), if_pos (by omega)], rfl⟩⟩
                · refine cw_aload_n C dd_Mo_node_135 rfl ?_
                  refine cw_getr (q' := 204) C wc_34 kF_Mo_59 is_34 (by decide) rfl dd_Mo_node_136 rfl ?_
                  refine cw_iload_n C dd_Mo_node_139 rfl ?_
                  refine nw_ialdv C (X 204 r) is_51 (by first | omega | (simp [wx_u] <;> omega)) (by decide) dd_Mo_node_140 (by repeat (first | rfl | rw [wx_u_eq] | rw [wx_u_nc (by omega)] | rw [wx_u_nk (by omega)])) ?_
                  refine cw_goto (tgt := 173) C dd_Mo_node_141 (by decide) ?_
                  exact cw_ireturn C dd_Mo_node_173 (Nat.le_of_ble_eq_true rfl) (Nat.le_of_ble_eq_true rfl) ⟨_, rfl, rfl, ⟨by rw [zm_node, if_neg (by omega), if_pos (by omega)], rfl⟩⟩
              · refine cw_aload_n C dd_Mo_node_121 rfl ?_
                refine cw_getr (q' := 192) C wc_34 kF_Mo_50 is_34 (by decide) rfl dd_Mo_node_122 rfl ?_
                refine cw_iload_n C dd_Mo_node_125 rfl ?_
                refine nw_ialdv C (X 192 r) is_48 (by first | omega | (simp [wx_u] <;> omega)) (by decide) dd_Mo_node_126 (by repeat (first | rfl | rw [wx_u_eq] | rw [wx_u_nc (by omega)] | rw [wx_u_nk (by omega)])) ?_
                refine cw_goto (tgt := 173) C dd_Mo_node_127 (by decide) ?_
                exact cw_ireturn C dd_Mo_node_173 (Nat.le_of_ble_eq_true rfl) (Nat.le_of_ble_eq_true rfl) ⟨_, rfl, rfl, ⟨by rw [zm_node, if_pos (by omega)], rfl⟩⟩
          · exact absurd h107 h7'
      · refine cw_iload_n C dd_Mo_node_58 rfl ?_
        refine cw_bipush (v := nI 7) C dd_Mo_node_59 (by decide +kernel) ?_
        refine nw_icmp_ne (tgt := 99) C dd_Mo_node_61 (by decide) (by first | omega | (simp [wx_u] <;> omega)) (by first | omega | (simp [wx_u] <;> omega)) (fun h61 => ?_) (fun h61 => ?_)
        · refine cw_iload_n C dd_Mo_node_99 rfl ?_
          refine cw_iconst (v := nI 5) C dd_Mo_node_100 (by decide +kernel) ?_
          refine nw_icmp_eq (tgt := 110) C dd_Mo_node_101 (by decide) (by first | omega | (simp [wx_u] <;> omega)) (by first | omega | (simp [wx_u] <;> omega)) (fun h101 => ?_) (fun h101 => ?_)
          · exact absurd h101 h5'
          · refine cw_iload_n C dd_Mo_node_104 rfl ?_
            refine cw_bipush (v := nI 7) C dd_Mo_node_105 (by decide +kernel) ?_
            refine nw_icmp_ne (tgt := 112) C dd_Mo_node_107 (by decide) (by first | omega | (simp [wx_u] <;> omega)) (by first | omega | (simp [wx_u] <;> omega)) (fun h107 => ?_) (fun h107 => ?_)
            · refine cw_iload_n C dd_Mo_node_112 rfl ?_
              refine cw_iconst (v := nI 4) C dd_Mo_node_113 (by decide +kernel) ?_
              refine nw_scmp_ge (tgt := 174) C dd_Mo_node_114 (by decide) (by first | omega | (simp [wx_u] <;> omega)) (by first | omega | (simp [wx_u] <;> omega)) (fun h114 => ?_) (fun h114 => ?_)
              · refine cw_iload_n C dd_Mo_node_174 rfl ?_
                refine cw_iconst (v := nI 4) C dd_Mo_node_175 (by decide +kernel) ?_
                refine nw_icmp_ne (tgt := 188) C dd_Mo_node_176 (by decide) (by first | omega | (simp [wx_u] <;> omega)) (by first | omega | (simp [wx_u] <;> omega)) (fun h176 => ?_) (fun h176 => ?_)
                · refine cw_iload_n C dd_Mo_node_188 rfl ?_
                  refine cw_bipush (v := nI 6) C dd_Mo_node_189 (by decide +kernel) ?_
                  refine nw_icmp_ne (tgt := 203) C dd_Mo_node_191 (by decide) (by first | omega | (simp [wx_u] <;> omega)) (by first | omega | (simp [wx_u] <;> omega)) (fun h191 => ?_) (fun h191 => ?_)
                  · refine cw_iload_n C dd_Mo_node_203 rfl ?_
                    refine cw_bipush (v := nI 8) C dd_Mo_node_204 (by decide +kernel) ?_
                    refine nw_icmp_ne (tgt := 218) C dd_Mo_node_206 (by decide) (by first | omega | (simp [wx_u] <;> omega)) (by first | omega | (simp [wx_u] <;> omega)) (fun h206 => ?_) (fun h206 => ?_)
                    · refine cw_iconst (v := nI 4294967295) C dd_Mo_node_218 (by decide +kernel) ?_
                      exact cw_ireturn C dd_Mo_node_219 (Nat.le_of_ble_eq_true rfl) (Nat.le_of_ble_eq_true rfl) ⟨_, rfl, rfl, ⟨by rw [zm_node, if_neg (by omega), if_neg (by omega), if_neg (by omega), if_neg (by omega), if_neg (by omega), if_neg (by omega), if_neg (by omega)], rfl⟩⟩
                    · refine cw_aload_n C dd_Mo_node_209 rfl ?_
                      refine cw_getr (q' := 196) C wc_34 kF_Mo_53 is_34 (by decide) rfl dd_Mo_node_210 rfl ?_
                      refine cw_iload_n C dd_Mo_node_213 rfl ?_
                      refine nw_ialdv C (X 196 r) is_49 (by first | omega | (simp [wx_u] <;> omega)) (by decide) dd_Mo_node_214 (by repeat (first | rfl | rw [wx_u_eq] | rw [wx_u_nc (by omega)] | rw [wx_u_nk (by omega)])) ?_
                      refine cw_goto (tgt := 219) C dd_Mo_node_215 (by decide) ?_
                      exact cw_ireturn C dd_Mo_node_219 (Nat.le_of_ble_eq_true rfl) (Nat.le_of_ble_eq_true rfl) ⟨_, rfl, rfl, ⟨by rw [zm_node, if_neg (by omega), if_neg (by omega), if_neg (by omega), if_neg (by omega), if_neg (by omega), if_neg (by omega), if_pos (by omega)], rfl⟩⟩
                  · refine cw_aload_n C dd_Mo_node_194 rfl ?_
                    refine cw_getr (q' := 248) C wc_34 kF_Mo_92 is_34 (by decide) rfl dd_Mo_node_195 rfl ?_
                    refine cw_iload_n C dd_Mo_node_198 rfl ?_
                    refine nw_ialdv C (X 248 r) is_62 (by first | omega | (simp [wx_u] <;> omega)) (by decide) dd_Mo_node_199 (by repeat (first | rfl | rw [wx_u_eq] | rw [wx_u_nc (by omega)] | rw [wx_u_nk (by omega)])) ?_
                    refine cw_goto (tgt := 219) C dd_Mo_node_200 (by decide) ?_
                    exact cw_ireturn C dd_Mo_node_219 (Nat.le_of_ble_eq_true rfl) (Nat.le_of_ble_eq_true rfl) ⟨_, rfl, rfl, ⟨by rw [zm_node, if_neg (by omega), if_neg (by omega), if_neg (by omega), if_neg (by omega), if_neg (by omega), if_pos (by omega)], rfl⟩⟩
                · refine cw_aload_n C dd_Mo_node_179 rfl ?_
                  refine cw_getr (q' := 224) C wc_34 kF_Mo_74 is_34 (by decide) rfl dd_Mo_node_180 rfl ?_
                  refine cw_iload_n C dd_Mo_node_183 rfl ?_
                  refine nw_ialdv C (X 224 r) is_56 (by first | omega | (simp [wx_u] <;> omega)) (by decide) dd_Mo_node_184 (by repeat (first | rfl | rw [wx_u_eq] | rw [wx_u_nc (by omega)] | rw [wx_u_nk (by omega)])) ?_
                  refine cw_goto (tgt := 219) C dd_Mo_node_185 (by decide) ?_
                  exact cw_ireturn C dd_Mo_node_219 (Nat.le_of_ble_eq_true rfl) (Nat.le_of_ble_eq_true rfl) ⟨_, rfl, rfl, ⟨by rw [zm_node, if_neg (by omega), if_neg (by omega), if_neg (by omega), if_neg (by omega), if_pos (by omega)], rfl⟩⟩
              · refine cw_iload_n C dd_Mo_node_117 rfl ?_
                refine nw_if_ne (tgt := 130) C dd_Mo_node_118 (by decide) (by first | omega | (simp [wx_u] <;> omega)) (fun h118 => ?_) (fun h118 => ?_)
                · refine cw_iload_n C dd_Mo_node_130 rfl ?_
                  refine cw_iconst (v := nI 1) C dd_Mo_node_131 (by decide +kernel) ?_
                  refine nw_icmp_ne (tgt := 144) C dd_Mo_node_132 (by decide) (by first | omega | (simp [wx_u] <;> omega)) (by first | omega | (simp [wx_u] <;> omega)) (fun h132 => ?_) (fun h132 => ?_)
                  · refine cw_iload_n C dd_Mo_node_144 rfl ?_
                    refine cw_iconst (v := nI 2) C dd_Mo_node_145 (by decide +kernel) ?_
                    refine nw_icmp_ne (tgt := 158) C dd_Mo_node_146 (by decide) (by first | omega | (simp [wx_u] <;> omega)) (by first | omega | (simp [wx_u] <;> omega)) (fun h146 => ?_) (fun h146 => ?_)
                    · refine cw_iload_n C dd_Mo_node_158 rfl ?_
                      refine cw_iconst (v := nI 3) C dd_Mo_node_159 (by decide +kernel) ?_
                      refine nw_icmp_ne (tgt := 172) C dd_Mo_node_160 (by decide) (by first | omega | (simp [wx_u] <;> omega)) (by first | omega | (simp [wx_u] <;> omega)) (fun h160 => ?_) (fun h160 => ?_)
                      · refine cw_iconst (v := nI 4294967295) C dd_Mo_node_172 (by decide +kernel) ?_
                        exact cw_ireturn C dd_Mo_node_173 (Nat.le_of_ble_eq_true rfl) (Nat.le_of_ble_eq_true rfl) ⟨_, rfl, rfl, ⟨by rw [zm_node, if_neg (by omega), if_neg (by omega), if_neg (by omega), if_neg (by omega), if_neg (by omega), if_neg (by omega), if_neg (by omega)], rfl⟩⟩
                      · refine cw_aload_n C dd_Mo_node_163 rfl ?_
                        refine cw_getr (q' := 220) C wc_34 kF_Mo_71 is_34 (by decide) rfl dd_Mo_node_164 rfl ?_
                        refine cw_iload_n C dd_Mo_node_167 rfl ?_
                        refine nw_ialdv C (X 220 r) is_55 (by first | omega | (simp [wx_u] <;> omega)) (by decide) dd_Mo_node_168 (by repeat (first | rfl | rw [wx_u_eq] | rw [wx_u_nc (by omega)] | rw [wx_u_nk (by omega)])) ?_
                        refine cw_goto (tgt := 173) C dd_Mo_node_169 (by decide) ?_
                        exact cw_ireturn C dd_Mo_node_173 (Nat.le_of_ble_eq_true rfl) (Nat.le_of_ble_eq_true rfl) ⟨_, rfl, rfl, ⟨by rw [zm_node, if_neg (by omega), if_neg (by omega), if_neg (by omega), if_pos (by omega)], rfl⟩⟩
                    · refine cw_aload_n C dd_Mo_node_149 rfl ?_
                      refine cw_getr (q' := 216) C wc_34 kF_Mo_68 is_34 (by decide) rfl dd_Mo_node_150 rfl ?_
                      refine cw_iload_n C dd_Mo_node_153 rfl ?_
                      refine nw_ialdv C (X 216 r) is_54 (by first | omega | (simp [wx_u] <;> omega)) (by decide) dd_Mo_node_154 (by repeat (first | rfl | rw [wx_u_eq] | rw [wx_u_nc (by omega)] | rw [wx_u_nk (by omega)])) ?_
                      refine cw_goto (tgt := 173) C dd_Mo_node_155 (by decide) ?_
                      exact cw_ireturn C dd_Mo_node_173 (Nat.le_of_ble_eq_true rfl) (Nat.le_of_ble_eq_true rfl) ⟨_, rfl, rfl, ⟨by rw [zm_node, if_neg (by omega), if_neg (by omega), if_pos (by omega)], rfl⟩⟩
                  · refine cw_aload_n C dd_Mo_node_135 rfl ?_
                    refine cw_getr (q' := 204) C wc_34 kF_Mo_59 is_34 (by decide) rfl dd_Mo_node_136 rfl ?_
                    refine cw_iload_n C dd_Mo_node_139 rfl ?_
                    refine nw_ialdv C (X 204 r) is_51 (by first | omega | (simp [wx_u] <;> omega)) (by decide) dd_Mo_node_140 (by repeat (first | rfl | rw [wx_u_eq] | rw [wx_u_nc (by omega)] | rw [wx_u_nk (by omega)])) ?_
                    refine cw_goto (tgt := 173) C dd_Mo_node_141 (by decide) ?_
                    exact cw_ireturn C dd_Mo_node_173 (Nat.le_of_ble_eq_true rfl) (Nat.le_of_ble_eq_true rfl) ⟨_, rfl, rfl, ⟨by rw [zm_node, if_neg (by omega), if_pos (by omega)], rfl⟩⟩
                · refine cw_aload_n C dd_Mo_node_121 rfl ?_
                  refine cw_getr (q' := 192) C wc_34 kF_Mo_50 is_34 (by decide) rfl dd_Mo_node_122 rfl ?_
                  refine cw_iload_n C dd_Mo_node_125 rfl ?_
                  refine nw_ialdv C (X 192 r) is_48 (by first | omega | (simp [wx_u] <;> omega)) (by decide) dd_Mo_node_126 (by repeat (first | rfl | rw [wx_u_eq] | rw [wx_u_nc (by omega)] | rw [wx_u_nk (by omega)])) ?_
                  refine cw_goto (tgt := 173) C dd_Mo_node_127 (by decide) ?_
                  exact cw_ireturn C dd_Mo_node_173 (Nat.le_of_ble_eq_true rfl) (Nat.le_of_ble_eq_true rfl) ⟨_, rfl, rfl, ⟨by rw [zm_node, if_pos (by omega)], rfl⟩⟩
            · exact absurd h107 h7'
        · exact absurd h61 h7'
    · exact absurd h14 h5'
  · exact absurd h5 (by decide)
