set_option maxRecDepth 100000 in
set_option maxHeartbeats 4000000 in
theorem lp_Mo_fresh1 {p : Program} {l : Launch} {e : Env} {s : State} {m : MethodId} {args : Array Value} {below : List Frame} {meth : Method} {c : Code} {A : Nat → Prop} {g : wd_G} {G : State → Prop} (X : wx_S) (r : Nat) (hr : r < 4) (C : cw_C p s m args meth c A wd_all g cc_Mo_fresh 3 "DagLedgerModel" none)  (hend : cw_W p l e (cw_rm 1 0 0) s m args below meth c A wd_all g 0 0 G 3 54 [some (.ref 136), some (.int (nI r)), some (.int (nI (60)))] [] (wx_e (zz_fr X 228 (60 * r) (60) 0)) (wx_l (zz_fr X 228 (60 * r) (60) 0))) : ∀ (j i : Nat), i + j = 60 → cw_W p l e (cw_rm 1 0 0) s m args below meth c A wd_all g 0 0 G 3 30 [some (.ref 136), some (.int (nI r)), some (.int (nI (i)))] [] (wx_e (zz_fr X 228 (60 * r) (i) 0)) (wx_l (zz_fr X 228 (60 * r) (i) 0)) := by
  intro j
  induction j with
  | zero =>
    intro i hij
    refine cw_iload_n C dd_Mo_fresh_30 rfl ?_
    refine cw_bipush (v := nI 60) C dd_Mo_fresh_31 (by decide +kernel) ?_
    refine nw_icmp_ge (tgt := 54) C dd_Mo_fresh_33 (by decide) (by first | omega | (simp [wx_u] <;> omega)) (by first | omega | (simp [wx_u] <;> omega)) (fun h33 => ?_) (fun h33 => ?_)
    · have hi : i = 60 := by omega
      rw [hi]
      exact hend
    · exact absurd h33 (by omega)
  | succ j ih =>
    intro i hij
    refine cw_iload_n C dd_Mo_fresh_30 rfl ?_
    refine cw_bipush (v := nI 60) C dd_Mo_fresh_31 (by decide +kernel) ?_
    refine nw_icmp_ge (tgt := 54) C dd_Mo_fresh_33 (by decide) (by first | omega | (simp [wx_u] <;> omega)) (by first | omega | (simp [wx_u] <;> omega)) (fun h33 => ?_) (fun h33 => ?_)
    · exact absurd h33 (by omega)
    · refine cw_aload_n C dd_Mo_fresh_36 rfl ?_
      refine cw_getr (q' := 228) C wc_34 kF_Mo_77 is_34 (by decide) rfl dd_Mo_fresh_37 rfl ?_
      refine cw_bipush (v := nI 60) C dd_Mo_fresh_40 (by decide +kernel) ?_
      refine cw_iload_n C dd_Mo_fresh_42 rfl ?_
      refine nw_imul C dd_Mo_fresh_43 ?_
      refine cw_iload_n C dd_Mo_fresh_44 rfl ?_
      refine nw_iadd C dd_Mo_fresh_45 ?_
      refine cw_iconst (v := nI 0) C dd_Mo_fresh_46 (by decide +kernel) ?_
      refine nw_iast C is_57 (by first | omega | (simp [wx_u] <;> omega)) (by decide) dd_Mo_fresh_47 ?_
      refine nw_iinc (b := 1) C dd_Mo_fresh_48 (by decide +kernel) rfl (Nat.le_of_ble_eq_true rfl) ?_
      refine cw_goto (tgt := 30) C dd_Mo_fresh_51 (by decide) ?_
      exact nw_eqX (zz_fr_s X 228 (60 * r) i 0) (ih (i + 1) (by omega))
set_option maxRecDepth 100000 in
set_option maxHeartbeats 4000000 in
theorem lp_Mo_fresh2 {p : Program} {l : Launch} {e : Env} {s : State} {m : MethodId} {args : Array Value} {below : List Frame} {meth : Method} {c : Code} {A : Nat → Prop} {g : wd_G} {G : State → Prop} (X : wx_S) (r : Nat) (hr : r < 4) (C : cw_C p s m args meth c A wd_all g cc_Mo_fresh 3 "DagLedgerModel" none)  (hend : cw_W p l e (cw_rm 1 0 0) s m args below meth c A wd_all g 0 0 G 3 104 [some (.ref 136), some (.int (nI r)), some (.int (nI (90)))] [] (wx_e (zz_fr (zz_fr (zz_fr X 232 (90 * r) (90) 0) 236 (90 * r) (90) 0) 240 (90 * r) (90) 0)) (wx_l (zz_fr (zz_fr (zz_fr X 232 (90 * r) (90) 0) 236 (90 * r) (90) 0) 240 (90 * r) (90) 0))) : ∀ (j i : Nat), i + j = 90 → cw_W p l e (cw_rm 1 0 0) s m args below meth c A wd_all g 0 0 G 3 56 [some (.ref 136), some (.int (nI r)), some (.int (nI (i)))] [] (wx_e (zz_fr (zz_fr (zz_fr X 232 (90 * r) (i) 0) 236 (90 * r) (i) 0) 240 (90 * r) (i) 0)) (wx_l (zz_fr (zz_fr (zz_fr X 232 (90 * r) (i) 0) 236 (90 * r) (i) 0) 240 (90 * r) (i) 0)) := by
  intro j
  induction j with
  | zero =>
    intro i hij
    refine cw_iload_n C dd_Mo_fresh_56 rfl ?_
    refine cw_bipush (v := nI 90) C dd_Mo_fresh_57 (by decide +kernel) ?_
    refine nw_icmp_ge (tgt := 104) C dd_Mo_fresh_59 (by decide) (by first | omega | (simp [wx_u] <;> omega)) (by first | omega | (simp [wx_u] <;> omega)) (fun h59 => ?_) (fun h59 => ?_)
    · have hi : i = 90 := by omega
      rw [hi]
      exact hend
    · exact absurd h59 (by omega)
  | succ j ih =>
    intro i hij
    refine cw_iload_n C dd_Mo_fresh_56 rfl ?_
    refine cw_bipush (v := nI 90) C dd_Mo_fresh_57 (by decide +kernel) ?_
    refine nw_icmp_ge (tgt := 104) C dd_Mo_fresh_59 (by decide) (by first | omega | (simp [wx_u] <;> omega)) (by first | omega | (simp [wx_u] <;> omega)) (fun h59 => ?_) (fun h59 => ?_)
    · exact absurd h59 (by omega)
    · refine cw_aload_n C dd_Mo_fresh_62 rfl ?_
      refine cw_getr (q' := 232) C wc_34 kF_Mo_80 is_34 (by decide) rfl dd_Mo_fresh_63 rfl ?_
      refine cw_bipush (v := nI 90) C dd_Mo_fresh_66 (by decide +kernel) ?_
      refine cw_iload_n C dd_Mo_fresh_68 rfl ?_
      refine nw_imul C dd_Mo_fresh_69 ?_
      refine cw_iload_n C dd_Mo_fresh_70 rfl ?_
      refine nw_iadd C dd_Mo_fresh_71 ?_
      refine cw_iconst (v := nI 0) C dd_Mo_fresh_72 (by decide +kernel) ?_
      refine nw_iast C is_58 (by first | omega | (simp [wx_u] <;> omega)) (by decide) dd_Mo_fresh_73 ?_
      refine cw_aload_n C dd_Mo_fresh_74 rfl ?_
      refine cw_getr (q' := 236) C wc_34 kF_Mo_83 is_34 (by decide) rfl dd_Mo_fresh_75 rfl ?_
      refine cw_bipush (v := nI 90) C dd_Mo_fresh_78 (by decide +kernel) ?_
      refine cw_iload_n C dd_Mo_fresh_80 rfl ?_
      refine nw_imul C dd_Mo_fresh_81 ?_
      refine cw_iload_n C dd_Mo_fresh_82 rfl ?_
      refine nw_iadd C dd_Mo_fresh_83 ?_
      refine cw_iconst (v := nI 0) C dd_Mo_fresh_84 (by decide +kernel) ?_
      refine nw_iast C is_59 (by first | omega | (simp [wx_u] <;> omega)) (by decide) dd_Mo_fresh_85 ?_
      refine cw_aload_n C dd_Mo_fresh_86 rfl ?_
      refine cw_getr (q' := 240) C wc_34 kF_Mo_86 is_34 (by decide) rfl dd_Mo_fresh_87 rfl ?_
      refine cw_bipush (v := nI 90) C dd_Mo_fresh_90 (by decide +kernel) ?_
      refine cw_iload_n C dd_Mo_fresh_92 rfl ?_
      refine nw_imul C dd_Mo_fresh_93 ?_
      refine cw_iload_n C dd_Mo_fresh_94 rfl ?_
      refine nw_iadd C dd_Mo_fresh_95 ?_
      refine cw_iconst (v := nI 0) C dd_Mo_fresh_96 (by decide +kernel) ?_
      refine nw_zast C is_60 (by first | omega | (simp [wx_u] <;> omega)) (by decide) (by first | omega | (simp [wx_u] <;> omega)) dd_Mo_fresh_97 ?_
      refine nw_iinc (b := 1) C dd_Mo_fresh_98 (by decide +kernel) rfl (Nat.le_of_ble_eq_true rfl) ?_
      refine cw_goto (tgt := 56) C dd_Mo_fresh_101 (by decide) ?_
      exact nw_eqX (by rw [wx_u_fr (c := 232) (q := 240) (by decide), wx_u_fr (c := 232) (q := 236) (by decide), zz_fr_s, wx_u_fr (c := 236) (q := 240) (by decide), zz_fr_s _ 236, zz_fr_s]) (ih (i + 1) (by omega))
set_option maxRecDepth 100000 in
set_option maxHeartbeats 4000000 in
theorem lp_Mo_fresh3 {p : Program} {l : Launch} {e : Env} {s : State} {m : MethodId} {args : Array Value} {below : List Frame} {meth : Method} {c : Code} {A : Nat → Prop} {g : wd_G} {G : State → Prop} (X : wx_S) (r : Nat) (hr : r < 4) (C : cw_C p s m args meth c A wd_all g cc_Mo_fresh 3 "DagLedgerModel" none)  (hend : cw_W p l e (cw_rm 1 0 0) s m args below meth c A wd_all g 0 0 G 3 129 [some (.ref 136), some (.int (nI r)), some (.int (nI (4)))] [] (wx_e (zz_fr X 252 (4 * r) (4) 100)) (wx_l (zz_fr X 252 (4 * r) (4) 100))) : ∀ (j i : Nat), i + j = 4 → cw_W p l e (cw_rm 1 0 0) s m args below meth c A wd_all g 0 0 G 3 106 [some (.ref 136), some (.int (nI r)), some (.int (nI (i)))] [] (wx_e (zz_fr X 252 (4 * r) (i) 100)) (wx_l (zz_fr X 252 (4 * r) (i) 100)) := by
  intro j
  induction j with
  | zero =>
    intro i hij
    refine cw_iload_n C dd_Mo_fresh_106 rfl ?_
    refine cw_iconst (v := nI 4) C dd_Mo_fresh_107 (by decide +kernel) ?_
    refine nw_icmp_ge (tgt := 129) C dd_Mo_fresh_108 (by decide) (by first | omega | (simp [wx_u] <;> omega)) (by first | omega | (simp [wx_u] <;> omega)) (fun h108 => ?_) (fun h108 => ?_)
    · have hi : i = 4 := by omega
      rw [hi]
      exact hend
    · exact absurd h108 (by omega)
  | succ j ih =>
    intro i hij
    refine cw_iload_n C dd_Mo_fresh_106 rfl ?_
    refine cw_iconst (v := nI 4) C dd_Mo_fresh_107 (by decide +kernel) ?_
    refine nw_icmp_ge (tgt := 129) C dd_Mo_fresh_108 (by decide) (by first | omega | (simp [wx_u] <;> omega)) (by first | omega | (simp [wx_u] <;> omega)) (fun h108 => ?_) (fun h108 => ?_)
    · exact absurd h108 (by omega)
    · refine cw_aload_n C dd_Mo_fresh_111 rfl ?_
      refine cw_getr (q' := 252) C wc_34 kF_Mo_95 is_34 (by decide) rfl dd_Mo_fresh_112 rfl ?_
      refine cw_iconst (v := nI 4) C dd_Mo_fresh_115 (by decide +kernel) ?_
      refine cw_iload_n C dd_Mo_fresh_116 rfl ?_
      refine nw_imul C dd_Mo_fresh_117 ?_
      refine cw_iload_n C dd_Mo_fresh_118 rfl ?_
      refine nw_iadd C dd_Mo_fresh_119 ?_
      refine cw_bipush (v := nI 100) C dd_Mo_fresh_120 (by decide +kernel) ?_
      refine nw_iast C is_63 (by first | omega | (simp [wx_u] <;> omega)) (by decide) dd_Mo_fresh_122 ?_
      refine nw_iinc (b := 1) C dd_Mo_fresh_123 (by decide +kernel) rfl (Nat.le_of_ble_eq_true rfl) ?_
      refine cw_goto (tgt := 106) C dd_Mo_fresh_126 (by decide) ?_
      exact nw_eqX (zz_fr_s X 252 (4 * r) i 100) (ih (i + 1) (by omega))
def zm_fresh (X : wx_S) (r : Nat) : wx_S :=
  zz_fr (zz_fr (zz_fr (zz_fr (zz_fr (wx_u (wx_u (wx_u (wx_u X 216 r 0) 220 r 0) 224 r 0) 248 r 0) 228 (60 * r) 60 0) 232 (90 * r) 90 0) 236 (90 * r) 90 0) 240 (90 * r) 90 0) 252 (4 * r) 4 100
def zm_fall (X : wx_S) (r : Nat) : wx_S := zm_fresh (wx_u (wx_u X 192 r 0) 200 r 4294967295) r
set_option maxRecDepth 100000 in
set_option maxHeartbeats 4000000 in
theorem mm_Mo_fresh (X : wx_S) (r : Nat) (hr : r < 4) : nw_M wd_all yy_Mo_fresh cc_Mo_fresh 3 none 1 0 0 [.ref 136, .int (nI r)] X (fun v X' => v = none ∧ X' = zm_fresh X r) := by
  refine nw_of [some (.ref 136), some (.int (nI r)), none] (by decide +kernel) rfl (Nat.le_of_ble_eq_true rfl) rfl ?_
  intro p l e s m args below meth c A g C
  refine cw_aload_n C dd_Mo_fresh_0 rfl ?_
  refine cw_getr (q' := 216) C wc_34 kF_Mo_68 is_34 (by decide) rfl dd_Mo_fresh_1 rfl ?_
  refine cw_iload_n C dd_Mo_fresh_4 rfl ?_
  refine cw_iconst (v := nI 0) C dd_Mo_fresh_5 (by decide +kernel) ?_
  refine nw_iast C is_54 (by first | omega | (simp [wx_u] <;> omega)) (by decide) dd_Mo_fresh_6 ?_
  refine cw_aload_n C dd_Mo_fresh_7 rfl ?_
  refine cw_getr (q' := 220) C wc_34 kF_Mo_71 is_34 (by decide) rfl dd_Mo_fresh_8 rfl ?_
  refine cw_iload_n C dd_Mo_fresh_11 rfl ?_
  refine cw_iconst (v := nI 0) C dd_Mo_fresh_12 (by decide +kernel) ?_
  refine nw_iast C is_55 (by first | omega | (simp [wx_u] <;> omega)) (by decide) dd_Mo_fresh_13 ?_
  refine cw_aload_n C dd_Mo_fresh_14 rfl ?_
  refine cw_getr (q' := 224) C wc_34 kF_Mo_74 is_34 (by decide) rfl dd_Mo_fresh_15 rfl ?_
  refine cw_iload_n C dd_Mo_fresh_18 rfl ?_
  refine cw_iconst (v := nI 0) C dd_Mo_fresh_19 (by decide +kernel) ?_
  refine nw_iast C is_56 (by first | omega | (simp [wx_u] <;> omega)) (by decide) dd_Mo_fresh_20 ?_
  refine cw_aload_n C dd_Mo_fresh_21 rfl ?_
  refine cw_getr (q' := 248) C wc_34 kF_Mo_92 is_34 (by decide) rfl dd_Mo_fresh_22 rfl ?_
  refine cw_iload_n C dd_Mo_fresh_25 rfl ?_
  refine cw_iconst (v := nI 0) C dd_Mo_fresh_26 (by decide +kernel) ?_
  refine nw_iast C is_62 (by first | omega | (simp [wx_u] <;> omega)) (by decide) dd_Mo_fresh_27 ?_
  refine cw_iconst (v := nI 0) C dd_Mo_fresh_28 (by decide +kernel) ?_
  refine cw_istore_n C dd_Mo_fresh_29 (Nat.le_of_ble_eq_true rfl) ?_
  refine nw_eqX (zz_fr_0 _ 228 (60 * r) 0).symm (lp_Mo_fresh1 _ r hr C ?_ 60 0 (by omega))
  refine cw_iconst (v := nI 0) C dd_Mo_fresh_54 (by decide +kernel) ?_
  refine cw_istore_n C dd_Mo_fresh_55 (Nat.le_of_ble_eq_true rfl) ?_
  refine nw_eqX (by rw [zz_fr_0, zz_fr_0, zz_fr_0]) (lp_Mo_fresh2 _ r hr C ?_ 90 0 (by omega))
  refine cw_iconst (v := nI 0) C dd_Mo_fresh_104 (by decide +kernel) ?_
  refine cw_istore_n C dd_Mo_fresh_105 (Nat.le_of_ble_eq_true rfl) ?_
  refine nw_eqX (zz_fr_0 _ 252 (4 * r) 100).symm (lp_Mo_fresh3 _ r hr C ?_ 4 0 (by omega))
  exact cw_vreturn C dd_Mo_fresh_129 (Nat.le_of_ble_eq_true rfl) (Nat.le_of_ble_eq_true rfl) ⟨_, rfl, rfl, ⟨rfl, rfl⟩⟩
set_option maxRecDepth 100000 in
set_option maxHeartbeats 4000000 in
theorem mm_Mo_fall (X : wx_S) (r : Nat) (hr : r < 4) : nw_M wd_all yy_Mo_fall cc_Mo_fall 2 none 2 0 0 [.ref 136, .int (nI r)] X (fun v X' => v = none ∧ X' = zm_fall X r) := by
  refine nw_of [some (.ref 136), some (.int (nI r))] (by decide +kernel) rfl (Nat.le_of_ble_eq_true rfl) rfl ?_
  intro p l e s m args below meth c A g C
  refine cw_aload_n C dd_Mo_fall_0 rfl ?_
  refine cw_getr (q' := 192) C wc_34 kF_Mo_50 is_34 (by decide) rfl dd_Mo_fall_1 rfl ?_
  refine cw_iload_n C dd_Mo_fall_4 rfl ?_
  refine cw_iconst (v := nI 0) C dd_Mo_fall_5 (by decide +kernel) ?_
  refine nw_iast C is_48 (by first | omega | (simp [wx_u] <;> omega)) (by decide) dd_Mo_fall_6 ?_
  refine cw_aload_n C dd_Mo_fall_7 rfl ?_
  refine cw_getr (q' := 200) C wc_34 kF_Mo_56 is_34 (by decide) rfl dd_Mo_fall_8 rfl ?_
  refine cw_iload_n C dd_Mo_fall_11 rfl ?_
  refine cw_iconst (v := nI 4294967295) C dd_Mo_fall_12 (by decide +kernel) ?_
  refine nw_iast C is_50 (by first | omega | (simp [wx_u] <;> omega)) (by decide) dd_Mo_fall_13 ?_
  refine cw_aload_n C dd_Mo_fall_14 rfl ?_
  refine cw_iload_n C dd_Mo_fall_15 rfl ?_
  refine cw_callV (As := [_]) C kV_Mo_101 wc_34 is_34 dd_Mo_fall_16 rfl rfl (Nat.le_of_ble_eq_true rfl) ⟨(Nat.le_of_ble_eq_true rfl), (Nat.le_of_ble_eq_true rfl)⟩ ⟨(Nat.le_of_ble_eq_true rfl), (Nat.le_of_ble_eq_true rfl)⟩ (mm_Mo_fresh _ r hr) (nw_kv ?_)
  exact cw_vreturn C dd_Mo_fall_19 (Nat.le_of_ble_eq_true rfl) (Nat.le_of_ble_eq_true rfl) ⟨_, rfl, rfl, ⟨rfl, rfl⟩⟩
def zm_wrote (X : wx_S) (r : Nat) : wx_S := wx_u (wx_u X 200 r (if 0 < X 200 r ∧ X 200 r < 2147483648 then X 200 r - 1 else 4294967295)) 196 r (X 196 r + 1)
set_option maxRecDepth 100000 in
set_option maxHeartbeats 4000000 in
theorem mm_Mo_record_dn (X : wx_S) (r : Nat) (hr : r < 4) (hc : X 200 r = 0) : nw_M wd_all yy_Mo_record cc_Mo_record 2 (some .boolean) 3 0 0 [.ref 136, .int (nI r)] X (fun v X' => v = some (.int (nI 0)) ∧ X' = zm_fall X r) := by
  refine nw_of [some (.ref 136), some (.int (nI r))] (by decide +kernel) rfl (Nat.le_of_ble_eq_true rfl) rfl ?_
  intro p l e s m args below meth c A g C
  refine cw_aload_n C dd_Mo_record_0 rfl ?_
  refine cw_getr (q' := 200) C wc_34 kF_Mo_56 is_34 (by decide) rfl dd_Mo_record_1 rfl ?_
  refine cw_iload_n C dd_Mo_record_4 rfl ?_
  refine nw_iald C is_50 (by first | omega | (simp [wx_u] <;> omega)) (by decide) dd_Mo_record_5 ?_
  refine nw_if_ne (tgt := 16) C dd_Mo_record_6 (by decide) (by omega) (fun h6 => ?_) (fun h6 => ?_)
  · exact absurd hc h6
  · refine cw_aload_n C dd_Mo_record_9 rfl ?_
    refine cw_iload_n C dd_Mo_record_10 rfl ?_
    refine cw_callV (As := [_]) C kV_Mo_109 wc_34 is_34 dd_Mo_record_11 rfl rfl (Nat.le_of_ble_eq_true rfl) ⟨(Nat.le_of_ble_eq_true rfl), (Nat.le_of_ble_eq_true rfl)⟩ ⟨(Nat.le_of_ble_eq_true rfl), (Nat.le_of_ble_eq_true rfl)⟩ (mm_Mo_fall X r hr) (nw_kv ?_)
    refine cw_iconst (v := nI 0) C dd_Mo_record_14 (by decide +kernel) ?_
    exact cw_zreturn C dd_Mo_record_15 (nw_zn (by decide)) (Nat.le_of_ble_eq_true rfl) (Nat.le_of_ble_eq_true rfl) ⟨_, rfl, rfl, ⟨rfl, rfl⟩⟩
set_option maxRecDepth 100000 in
set_option maxHeartbeats 4000000 in
theorem mm_Mo_record_ok (X : wx_S) (r : Nat) (hr : r < 4) (hc : X 200 r ≠ 0) (hb : X 200 r < 4294967296) : nw_M wd_all yy_Mo_record cc_Mo_record 2 (some .boolean) 3 0 0 [.ref 136, .int (nI r)] X (fun v X' => v = some (.int (nI 1)) ∧ X' = zm_wrote X r) := by
  refine nw_of [some (.ref 136), some (.int (nI r))] (by decide +kernel) rfl (Nat.le_of_ble_eq_true rfl) rfl ?_
  intro p l e s m args below meth c A g C
  refine cw_aload_n C dd_Mo_record_0 rfl ?_
  refine cw_getr (q' := 200) C wc_34 kF_Mo_56 is_34 (by decide) rfl dd_Mo_record_1 rfl ?_
  refine cw_iload_n C dd_Mo_record_4 rfl ?_
  refine nw_iald C is_50 (by first | omega | (simp [wx_u] <;> omega)) (by decide) dd_Mo_record_5 ?_
  refine nw_if_ne (tgt := 16) C dd_Mo_record_6 (by decide) (by first | omega | (simp [wx_u] <;> omega)) (fun h6 => ?_) (fun h6 => ?_)
  · refine cw_aload_n C dd_Mo_record_16 rfl ?_
    refine cw_getr (q' := 200) C wc_34 kF_Mo_56 is_34 (by decide) rfl dd_Mo_record_17 rfl ?_
    refine cw_iload_n C dd_Mo_record_20 rfl ?_
    refine cw_aload_n C dd_Mo_record_21 rfl ?_
    refine cw_getr (q' := 200) C wc_34 kF_Mo_56 is_34 (by decide) rfl dd_Mo_record_22 rfl ?_
    refine cw_iload_n C dd_Mo_record_25 rfl ?_
    refine nw_iald C is_50 (by first | omega | (simp [wx_u] <;> omega)) (by decide) dd_Mo_record_26 ?_
    refine nw_if_le (tgt := 41) C dd_Mo_record_27 (by decide) (by first | omega | (simp [wx_u] <;> omega)) (fun h27 => ?_) (fun h27 => ?_)
    · refine cw_iconst (v := nI 4294967295) C dd_Mo_record_41 (by decide +kernel) ?_
      refine nw_iast C is_50 (by first | omega | (simp [wx_u] <;> omega)) (by decide) dd_Mo_record_42 ?_
      refine cw_aload_n C dd_Mo_record_43 rfl ?_
      refine cw_getr (q' := 196) C wc_34 kF_Mo_53 is_34 (by decide) rfl dd_Mo_record_44 rfl ?_
      refine cw_iload_n C dd_Mo_record_47 rfl ?_
      refine cw_dup2 C dd_Mo_record_48 rfl rfl ?_
      refine nw_ialdv C (X 196 r) is_49 (by first | omega | (simp [wx_u] <;> omega)) (by decide) dd_Mo_record_49 (by repeat (first | rfl | rw [wx_u_eq] | rw [wx_u_nc (by omega)] | rw [wx_u_nk (by omega)])) ?_
      refine cw_iconst (v := nI 1) C dd_Mo_record_50 (by decide +kernel) ?_
      refine nw_iadd C dd_Mo_record_51 ?_
      refine nw_iast C is_49 (by first | omega | (simp [wx_u] <;> omega)) (by decide) dd_Mo_record_52 ?_
      refine cw_iconst (v := nI 1) C dd_Mo_record_53 (by decide +kernel) ?_
      exact cw_zreturn C dd_Mo_record_54 (nw_zn (by decide)) (Nat.le_of_ble_eq_true rfl) (Nat.le_of_ble_eq_true rfl) ⟨_, rfl, rfl, ⟨rfl, by rw [zm_wrote]; first | rw [if_pos (by omega)] | rw [if_neg (by omega)]⟩⟩
    · refine cw_aload_n C dd_Mo_record_30 rfl ?_
      refine cw_getr (q' := 200) C wc_34 kF_Mo_56 is_34 (by decide) rfl dd_Mo_record_31 rfl ?_
      refine cw_iload_n C dd_Mo_record_34 rfl ?_
      refine nw_iald C is_50 (by first | omega | (simp [wx_u] <;> omega)) (by decide) dd_Mo_record_35 ?_
      refine cw_iconst (v := nI 1) C dd_Mo_record_36 (by decide +kernel) ?_
      refine nw_isub C dd_Mo_record_37 (by first | omega | (simp [wx_u] <;> omega)) ?_
      refine cw_goto (tgt := 42) C dd_Mo_record_38 (by decide) ?_
      refine nw_iast C is_50 (by first | omega | (simp [wx_u] <;> omega)) (by decide) dd_Mo_record_42 ?_
      refine cw_aload_n C dd_Mo_record_43 rfl ?_
      refine cw_getr (q' := 196) C wc_34 kF_Mo_53 is_34 (by decide) rfl dd_Mo_record_44 rfl ?_
      refine cw_iload_n C dd_Mo_record_47 rfl ?_
      refine cw_dup2 C dd_Mo_record_48 rfl rfl ?_
      refine nw_ialdv C (X 196 r) is_49 (by first | omega | (simp [wx_u] <;> omega)) (by decide) dd_Mo_record_49 (by repeat (first | rfl | rw [wx_u_eq] | rw [wx_u_nc (by omega)] | rw [wx_u_nk (by omega)])) ?_
      refine cw_iconst (v := nI 1) C dd_Mo_record_50 (by decide +kernel) ?_
      refine nw_iadd C dd_Mo_record_51 ?_
      refine nw_iast C is_49 (by first | omega | (simp [wx_u] <;> omega)) (by decide) dd_Mo_record_52 ?_
      refine cw_iconst (v := nI 1) C dd_Mo_record_53 (by decide +kernel) ?_
      exact cw_zreturn C dd_Mo_record_54 (nw_zn (by decide)) (Nat.le_of_ble_eq_true rfl) (Nat.le_of_ble_eq_true rfl) ⟨_, rfl, rfl, ⟨rfl, by rw [zm_wrote]; first | rw [if_pos (by omega)] | rw [if_neg (by omega)]⟩⟩
  · exact absurd h6 hc
def zm_say (X : wx_S) (q u k : Nat) : wx_S := wx_u (wx_u (wx_u (wx_u X 180 (X 136 13) q) 184 (X 136 13) u) 188 (X 136 13) k) 136 13 (X 136 13 + 1)
set_option maxRecDepth 100000 in
set_option maxHeartbeats 4000000 in
theorem mm_Mo_say (X : wx_S) (q u k : Nat) (hm : X 136 13 < 840) : nw_M wd_all yy_Mo_say cc_Mo_say 4 (some .int) 1 0 0 [.ref 136, .int (nI q), .int (nI u), .int (nI k)] X (fun v X' => v = some (.int (nI (X 136 13))) ∧ X' = zm_say X q u k) := by
  refine nw_of [some (.ref 136), some (.int (nI q)), some (.int (nI u)), some (.int (nI k))] (by decide +kernel) rfl (Nat.le_of_ble_eq_true rfl) rfl ?_
  intro p l e s m args below meth c A g C
  refine cw_aload_n C dd_Mo_say_0 rfl ?_
  refine cw_getr (q' := 180) C wc_34 kF_Mo_41 is_34 (by decide) rfl dd_Mo_say_1 rfl ?_
  refine cw_aload_n C dd_Mo_say_4 rfl ?_
  refine nw_geti C wc_34 kF_Mo_112 is_34 (by decide) rfl dd_Mo_say_5 ?_
  refine cw_iload_n C dd_Mo_say_8 rfl ?_
  refine nw_iast C is_45 (by first | omega | (simp [wx_u] <;> omega)) (by decide) dd_Mo_say_9 ?_
  refine cw_aload_n C dd_Mo_say_10 rfl ?_
  refine cw_getr (q' := 184) C wc_34 kF_Mo_44 is_34 (by decide) rfl dd_Mo_say_11 rfl ?_
  refine cw_aload_n C dd_Mo_say_14 rfl ?_
  refine nw_getiv C (X 136 13) wc_34 kF_Mo_112 is_34 (by decide) rfl dd_Mo_say_15 (by repeat (first | rfl | rw [wx_u_eq] | rw [wx_u_nc (by omega)] | rw [wx_u_nk (by omega)])) ?_
  refine cw_iload_n C dd_Mo_say_18 rfl ?_
  refine nw_iast C is_46 (by first | omega | (simp [wx_u] <;> omega)) (by decide) dd_Mo_say_19 ?_
  refine cw_aload_n C dd_Mo_say_20 rfl ?_
  refine cw_getr (q' := 188) C wc_34 kF_Mo_47 is_34 (by decide) rfl dd_Mo_say_21 rfl ?_
  refine cw_aload_n C dd_Mo_say_24 rfl ?_
  refine nw_getiv C (X 136 13) wc_34 kF_Mo_112 is_34 (by decide) rfl dd_Mo_say_25 (by repeat (first | rfl | rw [wx_u_eq] | rw [wx_u_nc (by omega)] | rw [wx_u_nk (by omega)])) ?_
  refine cw_iload_n C dd_Mo_say_28 rfl ?_
  refine nw_iast C is_47 (by first | omega | (simp [wx_u] <;> omega)) (by decide) dd_Mo_say_29 ?_
  refine cw_aload_n C dd_Mo_say_30 rfl ?_
  refine cw_dup C dd_Mo_say_31 rfl ?_
  refine nw_getiv C (X 136 13) wc_34 kF_Mo_112 is_34 (by decide) rfl dd_Mo_say_32 (by repeat (first | rfl | rw [wx_u_eq] | rw [wx_u_nc (by omega)] | rw [wx_u_nk (by omega)])) ?_
  refine cw_iconst (v := nI 1) C dd_Mo_say_35 (by decide +kernel) ?_
  refine nw_iadd C dd_Mo_say_36 ?_
  refine nw_puti C wc_34 kF_Mo_112 is_34 (by decide) rfl rfl rfl rfl dd_Mo_say_37 ?_
  refine cw_aload_n C dd_Mo_say_40 rfl ?_
  refine nw_getiv C (X 136 13 + 1) wc_34 kF_Mo_112 is_34 (by decide) rfl dd_Mo_say_41 (by repeat (first | rfl | rw [wx_u_eq] | rw [wx_u_nc (by omega)] | rw [wx_u_nk (by omega)])) ?_
  refine cw_iconst (v := nI 1) C dd_Mo_say_44 (by decide +kernel) ?_
  refine nw_isub C dd_Mo_say_45 (by omega) ?_
  exact cw_ireturn C dd_Mo_say_46 (Nat.le_of_ble_eq_true rfl) (Nat.le_of_ble_eq_true rfl) ⟨_, rfl, rfl, ⟨rfl, rfl⟩⟩
set_option maxRecDepth 100000 in
set_option maxHeartbeats 4000000 in
theorem mm_Mo_ones (X : wx_S) (n : Nat) (hn : n < 2147483648) : nw_M wd_all yy_Mo_ones cc_Mo_ones 1 (some .int) 1 0 0 [.int (nI n)] X (fun v X' => v = some (.int (nI (zn_ones n))) ∧ X' = X) := by
  refine nw_of [some (.int (nI n))] (by decide +kernel) rfl (Nat.le_of_ble_eq_true rfl) rfl ?_
  intro p l e s m args below meth c A g C
  refine cw_iload_n C dd_Mo_ones_0 rfl ?_
  refine cw_iconst (v := nI 1) C dd_Mo_ones_1 (by decide +kernel) ?_
  refine nw_iand1 C dd_Mo_ones_2 ?_
  refine cw_iload_n C dd_Mo_ones_3 rfl ?_
  refine cw_iconst (v := nI 1) C dd_Mo_ones_4 (by decide +kernel) ?_
  refine nw_ishr C dd_Mo_ones_5 (by first | omega | (simp [wx_u] <;> omega)) (by first | omega | (simp [wx_u] <;> omega)) ?_
  refine cw_iconst (v := nI 1) C dd_Mo_ones_6 (by decide +kernel) ?_
  refine nw_iand1 C dd_Mo_ones_7 ?_
  refine nw_iadd C dd_Mo_ones_8 ?_
  refine cw_iload_n C dd_Mo_ones_9 rfl ?_
  refine cw_iconst (v := nI 2) C dd_Mo_ones_10 (by decide +kernel) ?_
  refine nw_ishr C dd_Mo_ones_11 (by first | omega | (simp [wx_u] <;> omega)) (by first | omega | (simp [wx_u] <;> omega)) ?_
  refine cw_iconst (v := nI 1) C dd_Mo_ones_12 (by decide +kernel) ?_
  refine nw_iand1 C dd_Mo_ones_13 ?_
  refine nw_iadd C dd_Mo_ones_14 ?_
  refine cw_iload_n C dd_Mo_ones_15 rfl ?_
  refine cw_iconst (v := nI 3) C dd_Mo_ones_16 (by decide +kernel) ?_
  refine nw_ishr C dd_Mo_ones_17 (by first | omega | (simp [wx_u] <;> omega)) (by first | omega | (simp [wx_u] <;> omega)) ?_
  refine cw_iconst (v := nI 1) C dd_Mo_ones_18 (by decide +kernel) ?_
  refine nw_iand1 C dd_Mo_ones_19 ?_
  refine nw_iadd C dd_Mo_ones_20 ?_
  exact cw_ireturn C dd_Mo_ones_21 (Nat.le_of_ble_eq_true rfl) (Nat.le_of_ble_eq_true rfl) ⟨_, rfl, rfl, ⟨rfl, rfl⟩⟩
abbrev zm_wf (X : wx_S) (u : Nat) : Prop := (X 164 u = 1 ∧ X 168 u = 0) ∨ (X 164 u ≠ 1 ∧ 3 ≤ zn_ones (X 168 u))
set_option maxRecDepth 100000 in
set_option maxHeartbeats 4000000 in
theorem mm_Mo_formed (X : wx_S) (u : Nat) (hu : u < 90) (h1 : X 164 u < 4294967296) (h2 : X 168 u < 16) : nw_M wd_all yy_Mo_formed cc_Mo_formed 2 (some .boolean) 2 0 0 [.ref 136, .int (nI u)] X (fun v X' => v = some (.int (nI (zb_n (zm_wf X u)))) ∧ X' = X) := by
  refine nw_of [some (.ref 136), some (.int (nI u))] (by decide +kernel) rfl (Nat.le_of_ble_eq_true rfl) rfl ?_
  intro p l e s m args below meth c A g C
  refine cw_aload_n C dd_Mo_formed_0 rfl ?_
  refine cw_getr (q' := 164) C wc_34 kF_Mo_29 is_34 (by decide) rfl dd_Mo_formed_1 rfl ?_
  refine cw_iload_n C dd_Mo_formed_4 rfl ?_
  refine nw_iald C is_41 (by first | omega | (simp [wx_u] <;> omega)) (by decide) dd_Mo_formed_5 ?_
  refine cw_iconst (v := nI 1) C dd_Mo_formed_6 (by decide +kernel) ?_
  refine nw_icmp_ne (tgt := 27) C dd_Mo_formed_7 (by decide) (by first | omega | (simp [wx_u] <;> omega)) (by first | omega | (simp [wx_u] <;> omega)) (fun h7 => ?_) (fun h7 => ?_)
  · refine cw_aload_n C dd_Mo_formed_27 rfl ?_
    refine cw_getr (q' := 168) C wc_34 kF_Mo_32 is_34 (by decide) rfl dd_Mo_formed_28 rfl ?_
    refine cw_iload_n C dd_Mo_formed_31 rfl ?_
    refine nw_iald C is_42 (by first | omega | (simp [wx_u] <;> omega)) (by decide) dd_Mo_formed_32 ?_
    refine cw_callS (As := [_]) C kS_Mo_115 dd_Mo_formed_33 rfl rfl (Nat.le_of_ble_eq_true rfl) ⟨(Nat.le_of_ble_eq_true rfl), (Nat.le_of_ble_eq_true rfl)⟩ ⟨(Nat.le_of_ble_eq_true rfl), (Nat.le_of_ble_eq_true rfl)⟩ (mm_Mo_ones X (X 168 u) (by omega)) (nw_ki ?_)
    refine cw_iconst (v := nI 3) C dd_Mo_formed_36 (by decide +kernel) ?_
    refine nw_icmp_lt (tgt := 44) C dd_Mo_formed_37 (by decide) (by have := zn_ones_le (X 168 u); omega) (by first | omega | (simp [wx_u] <;> omega)) (fun h37 => ?_) (fun h37 => ?_)
    · refine cw_iconst (v := nI 0) C dd_Mo_formed_44 (by decide +kernel) ?_
      exact cw_zreturn C dd_Mo_formed_45 (nw_zn (by decide)) (Nat.le_of_ble_eq_true rfl) (Nat.le_of_ble_eq_true rfl) ⟨_, rfl, rfl, ⟨by first | exact congrArg (fun z => some (Value.int z)) (zb_t (by first | omega | (simp [wx_u] <;> omega))) | exact congrArg (fun z => some (Value.int z)) (zb_f (by first | omega | (simp [wx_u] <;> omega))), by first | rfl | simp [wx_u]⟩⟩
    · refine cw_iconst (v := nI 1) C dd_Mo_formed_40 (by decide +kernel) ?_
      refine cw_goto (tgt := 45) C dd_Mo_formed_41 (by decide) ?_
      exact cw_zreturn C dd_Mo_formed_45 (nw_zn (by decide)) (Nat.le_of_ble_eq_true rfl) (Nat.le_of_ble_eq_true rfl) ⟨_, rfl, rfl, ⟨by first | exact congrArg (fun z => some (Value.int z)) (zb_t (by first | omega | (simp [wx_u] <;> omega))) | exact congrArg (fun z => some (Value.int z)) (zb_f (by first | omega | (simp [wx_u] <;> omega))), by first | rfl | simp [wx_u]⟩⟩
  · refine cw_aload_n C dd_Mo_formed_10 rfl ?_
    refine cw_getr (q' := 168) C wc_34 kF_Mo_32 is_34 (by decide) rfl dd_Mo_formed_11 rfl ?_
    refine cw_iload_n C dd_Mo_formed_14 rfl ?_
    refine nw_iald C is_42 (by first | omega | (simp [wx_u] <;> omega)) (by decide) dd_Mo_formed_15 ?_
    refine nw_if_ne (tgt := 23) C dd_Mo_formed_16 (by decide) (by first | omega | (simp [wx_u] <;> omega)) (fun h16 => ?_) (fun h16 => ?_)
    · refine cw_iconst (v := nI 0) C dd_Mo_formed_23 (by decide +kernel) ?_
      refine cw_goto (tgt := 45) C dd_Mo_formed_24 (by decide) ?_
      exact cw_zreturn C dd_Mo_formed_45 (nw_zn (by decide)) (Nat.le_of_ble_eq_true rfl) (Nat.le_of_ble_eq_true rfl) ⟨_, rfl, rfl, ⟨by first | exact congrArg (fun z => some (Value.int z)) (zb_t (by first | omega | (simp [wx_u] <;> omega))) | exact congrArg (fun z => some (Value.int z)) (zb_f (by first | omega | (simp [wx_u] <;> omega))), by first | rfl | simp [wx_u]⟩⟩
    · refine cw_iconst (v := nI 1) C dd_Mo_formed_19 (by decide +kernel) ?_
      refine cw_goto (tgt := 45) C dd_Mo_formed_20 (by decide) ?_
      exact cw_zreturn C dd_Mo_formed_45 (nw_zn (by decide)) (Nat.le_of_ble_eq_true rfl) (Nat.le_of_ble_eq_true rfl) ⟨_, rfl, rfl, ⟨by first | exact congrArg (fun z => some (Value.int z)) (zb_t (by first | omega | (simp [wx_u] <;> omega))) | exact congrArg (fun z => some (Value.int z)) (zb_f (by first | omega | (simp [wx_u] <;> omega))), by first | rfl | simp [wx_u]⟩⟩
set_option maxRecDepth 100000 in
set_option maxHeartbeats 4000000 in
theorem mm_Mo_spot (X : wx_S) (r u : Nat) (hu : u < 90) : nw_M wd_all yy_Mo_spot cc_Mo_spot 3 (some .int) 1 0 0 [.ref 136, .int (nI r), .int (nI u)] X (fun v X' => v = some (.int (nI (60 * r + 4 * X 164 u + X 160 u))) ∧ X' = X) := by
  refine nw_of [some (.ref 136), some (.int (nI r)), some (.int (nI u))] (by decide +kernel) rfl (Nat.le_of_ble_eq_true rfl) rfl ?_
  intro p l e s m args below meth c A g C
  refine cw_bipush (v := nI 60) C dd_Mo_spot_0 (by decide +kernel) ?_
  refine cw_iload_n C dd_Mo_spot_2 rfl ?_
  refine nw_imul C dd_Mo_spot_3 ?_
  refine cw_iconst (v := nI 4) C dd_Mo_spot_4 (by decide +kernel) ?_
  refine cw_aload_n C dd_Mo_spot_5 rfl ?_
  refine cw_getr (q' := 164) C wc_34 kF_Mo_29 is_34 (by decide) rfl dd_Mo_spot_6 rfl ?_
  refine cw_iload_n C dd_Mo_spot_9 rfl ?_
  refine nw_iald C is_41 (by first | omega | (simp [wx_u] <;> omega)) (by decide) dd_Mo_spot_10 ?_
  refine nw_imul C dd_Mo_spot_11 ?_
  refine nw_iadd C dd_Mo_spot_12 ?_
  refine cw_aload_n C dd_Mo_spot_13 rfl ?_
  refine cw_getr (q' := 160) C wc_34 kF_Mo_26 is_34 (by decide) rfl dd_Mo_spot_14 rfl ?_
  refine cw_iload_n C dd_Mo_spot_17 rfl ?_
  refine nw_iald C is_40 (by first | omega | (simp [wx_u] <;> omega)) (by decide) dd_Mo_spot_18 ?_
  refine nw_iadd C dd_Mo_spot_19 ?_
  exact cw_ireturn C dd_Mo_spot_20 (Nat.le_of_ble_eq_true rfl) (Nat.le_of_ble_eq_true rfl) ⟨_, rfl, rfl, ⟨by first | rfl | simp [wx_u], by first | rfl | simp [wx_u]⟩⟩
def zm_th (X : wx_S) (r w : Nat) : Nat → Nat
  | 0 => 0
  | i + 1 => if 0 < w ∧ X 228 (60 * r + 4 * w + i) ≠ 0 then zm_th X r w i ||| 2 ^ i else zm_th X r w i
set_option maxRecDepth 100000 in
set_option maxHeartbeats 4000000 in
theorem lp_Mo_there {p : Program} {l : Launch} {e : Env} {s : State} {m : MethodId} {args : Array Value} {below : List Frame} {meth : Method} {c : Code} {A : Nat → Prop} {g : wd_G} {G : State → Prop} (X : wx_S) (r : Nat) (hr : r < 4) (w : Nat) (hw : w ≤ 14) (hd : ∀ k, k < 240 → X 228 k < 2147483648) (C : cw_C p s m args meth c A wd_all g cc_Mo_there 5 "DagLedgerModel" (some .int))  (hend : cw_W p l e (cw_rm 1 0 0) s m args below meth c A wd_all g 0 0 G 5 51 [some (.ref 136), some (.int (nI r)), some (.int (nI w)), some (.int (nI (zm_th X r w (4)))), some (.int (nI (4)))] [] (wx_e X) (wx_l X)) : ∀ (j i : Nat), i + j = 4 → cw_W p l e (cw_rm 1 0 0) s m args below meth c A wd_all g 0 0 G 5 5 [some (.ref 136), some (.int (nI r)), some (.int (nI w)), some (.int (nI (zm_th X r w (i)))), some (.int (nI (i)))] [] (wx_e X) (wx_l X) := by
  intro j
  induction j with
  | zero =>
    intro i hij
    refine cw_iload C dd_Mo_there_5 rfl ?_
    refine cw_iconst (v := nI 4) C dd_Mo_there_7 (by decide +kernel) ?_
    refine nw_icmp_ge (tgt := 51) C dd_Mo_there_8 (by decide) (by first | omega | (simp [wx_u] <;> omega)) (by first | omega | (simp [wx_u] <;> omega)) (fun h8 => ?_) (fun h8 => ?_)
    · have hi : i = 4 := by omega
      rw [hi]
      exact hend
    · exact absurd h8 (by omega)
  | succ j ih =>
    intro i hij
    have g1 := hd (60 * r + 4 * w + i) (by omega)
    refine cw_iload C dd_Mo_there_5 rfl ?_
    refine cw_iconst (v := nI 4) C dd_Mo_there_7 (by decide +kernel) ?_
    refine nw_icmp_ge (tgt := 51) C dd_Mo_there_8 (by decide) (by first | omega | (simp [wx_u] <;> omega)) (by first | omega | (simp [wx_u] <;> omega)) (fun h8 => ?_) (fun h8 => ?_)
    · exact absurd h8 (by omega)
    · refine cw_iload_n C dd_Mo_there_11 rfl ?_
      refine nw_if_le (tgt := 43) C dd_Mo_there_12 (by decide) (by first | omega | (simp [wx_u] <;> omega)) (fun h12 => ?_) (fun h12 => ?_)
      · refine cw_iload_n C dd_Mo_there_43 rfl ?_
        refine cw_istore_n C dd_Mo_there_44 (Nat.le_of_ble_eq_true rfl) ?_
        refine nw_iinc (b := 1) C dd_Mo_there_45 (by decide +kernel) rfl (Nat.le_of_ble_eq_true rfl) ?_
        refine cw_goto (tgt := 5) C dd_Mo_there_48 (by decide) ?_
        have k9 := ih (i + 1) (by omega)
        rw [show zm_th X r w (i + 1) = zm_th X r w i from if_neg (by omega)] at k9
        exact k9
      · refine cw_aload_n C dd_Mo_there_15 rfl ?_
        refine cw_getr (q' := 228) C wc_34 kF_Mo_77 is_34 (by decide) rfl dd_Mo_there_16 rfl ?_
        refine cw_bipush (v := nI 60) C dd_Mo_there_19 (by decide +kernel) ?_
        refine cw_iload_n C dd_Mo_there_21 rfl ?_
        refine nw_imul C dd_Mo_there_22 ?_
        refine cw_iconst (v := nI 4) C dd_Mo_there_23 (by decide +kernel) ?_
        refine cw_iload_n C dd_Mo_there_24 rfl ?_
        refine nw_imul C dd_Mo_there_25 ?_
        refine nw_iadd C dd_Mo_there_26 ?_
        refine cw_iload C dd_Mo_there_27 rfl ?_
        refine nw_iadd C dd_Mo_there_29 ?_
        refine nw_iald C is_57 (by first | omega | (simp [wx_u] <;> omega)) (by decide) dd_Mo_there_30 ?_
        refine nw_if_le (tgt := 43) C dd_Mo_there_31 (by decide) (by first | omega | (simp [wx_u] <;> omega)) (fun h31 => ?_) (fun h31 => ?_)
        · refine cw_iload_n C dd_Mo_there_43 rfl ?_
          refine cw_istore_n C dd_Mo_there_44 (Nat.le_of_ble_eq_true rfl) ?_
          refine nw_iinc (b := 1) C dd_Mo_there_45 (by decide +kernel) rfl (Nat.le_of_ble_eq_true rfl) ?_
          refine cw_goto (tgt := 5) C dd_Mo_there_48 (by decide) ?_
          have k9 := ih (i + 1) (by omega)
          rw [show zm_th X r w (i + 1) = zm_th X r w i from if_neg (by omega)] at k9
          exact k9
        · refine cw_iload_n C dd_Mo_there_34 rfl ?_
          refine cw_iconst (v := nI 1) C dd_Mo_there_35 (by decide +kernel) ?_
          refine cw_iload C dd_Mo_there_36 rfl ?_
          refine nw_ishl C dd_Mo_there_38 (by first | omega | (simp [wx_u] <;> omega)) ?_
          refine nw_ior C dd_Mo_there_39 ?_
          refine cw_goto (tgt := 44) C dd_Mo_there_40 (by decide) ?_
          refine cw_istore_n C dd_Mo_there_44 (Nat.le_of_ble_eq_true rfl) ?_
          refine nw_iinc (b := 1) C dd_Mo_there_45 (by decide +kernel) rfl (Nat.le_of_ble_eq_true rfl) ?_
          refine cw_goto (tgt := 5) C dd_Mo_there_48 (by decide) ?_
          have k9 := ih (i + 1) (by omega)
          rw [show zm_th X r w (i + 1) = zm_th X r w i ||| 2 ^ i from if_pos ⟨by omega, by omega⟩] at k9
          rw [Nat.one_mul]
          exact k9
set_option maxRecDepth 100000 in
set_option maxHeartbeats 4000000 in
theorem mm_Mo_there (X : wx_S) (r : Nat) (hr : r < 4) (w : Nat) (hw : w ≤ 14) (hd : ∀ k, k < 240 → X 228 k < 2147483648) : nw_M wd_all yy_Mo_there cc_Mo_there 5 (some .int) 1 0 0 [.ref 136, .int (nI r), .int (nI w)] X (fun v X' => v = some (.int (nI (zm_th X r w 4))) ∧ X' = X) := by
  refine nw_of [some (.ref 136), some (.int (nI r)), some (.int (nI w)), none, none] (by decide +kernel) rfl (Nat.le_of_ble_eq_true rfl) rfl ?_
  intro p l e s m args below meth c A g C
  refine cw_iconst (v := nI 0) C dd_Mo_there_0 (by decide +kernel) ?_
  refine cw_istore_n C dd_Mo_there_1 (Nat.le_of_ble_eq_true rfl) ?_
  refine cw_iconst (v := nI 0) C dd_Mo_there_2 (by decide +kernel) ?_
  refine cw_istore C dd_Mo_there_3 (Nat.le_of_ble_eq_true rfl) ?_
  refine lp_Mo_there X r hr w hw hd C ?_ 4 0 (by omega)
  refine cw_iload_n C dd_Mo_there_51 rfl ?_
  exact cw_ireturn C dd_Mo_there_52 (Nat.le_of_ble_eq_true rfl) (Nat.le_of_ble_eq_true rfl) ⟨_, rfl, rfl, ⟨by first | rfl | simp [wx_u], by first | rfl | simp [wx_u]⟩⟩
set_option maxRecDepth 100000 in
set_option maxHeartbeats 4000000 in
theorem mm_Mo_leader (X : wx_S) (w : Nat) (hw : w < 2147483648) : nw_M wd_all yy_Mo_leader cc_Mo_leader 1 (some .int) 1 0 0 [.int (nI w)] X (fun v X' => v = some (.int (nI (w / 2 % 4))) ∧ X' = X) := by
  refine nw_of [some (.int (nI w))] (by decide +kernel) rfl (Nat.le_of_ble_eq_true rfl) rfl ?_
  intro p l e s m args below meth c A g C
  refine cw_iload_n C dd_Mo_leader_0 rfl ?_
  refine cw_iconst (v := nI 2) C dd_Mo_leader_1 (by decide +kernel) ?_
  refine nw_idiv C dd_Mo_leader_2 (by first | omega | (simp [wx_u] <;> omega)) (by decide) (by decide) ?_
  refine cw_iconst (v := nI 4) C dd_Mo_leader_3 (by decide +kernel) ?_
  refine nw_irem C dd_Mo_leader_4 (by first | omega | (simp [wx_u] <;> omega)) (by decide) (by decide) ?_
  exact cw_ireturn C dd_Mo_leader_5 (Nat.le_of_ble_eq_true rfl) (Nat.le_of_ble_eq_true rfl) ⟨_, rfl, rfl, ⟨by first | rfl | simp [wx_u], by first | rfl | simp [wx_u]⟩⟩
