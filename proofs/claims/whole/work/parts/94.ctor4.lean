/-! the constructor of the reference (written by wip/whole/m44.py) -/
theorem kw_cw {p : Program} {l : Launch} {e : Env} {R : Room} {s : State} {m : MethodId} {args : Array Value} {below : List Frame} {meth : Method} {c : Code} {A : Nat → Prop} {g : wd_G} {cells slots : Nat} {G : State → Prop} {cc : ByteArray} {nL pc : Nat} {own : String} {ret : Option FieldType} {ls : List (Option Value)} {st : List Value} {V : va_W} (C : kw_C p s m args meth c A g cc nL own ret) {ids : List Nat} (f : Nat → Nat) {σ : wd_S} {τ : wd_L} (hV : V = wd_w ids ((f, g.2) : wd_G) σ τ) (hn : ids.Nodup) (ls' : List (Option Value)) (st' : List Value)
    (hls : ∀ (i : Nat) (v : Value), ls'[i]? = some (some v) → ∃ u, ls[i]? = some (some u) ∧ cw_v (fun x => x) u = cw_v f v) (hst : st.map (cw_v (fun x => x)) = st'.map (cw_v f))
    (k : cw_C p s m args meth c A ids ((f, g.2) : wd_G) cc nL own ret → cw_W p l e R s m args below meth c A ids ((f, g.2) : wd_G) cells slots G nL pc ls' st' σ τ) : kw_W p l e R s m args below meth c A g V cells slots G nL pc ls st := by
  subst hV
  intro H locs la hl hP hD hS
  rw [hst]
  refine k ⟨C.1, C.2.1, C.2.2.1, C.2.2.2.1, C.2.2.2.2.1, C.2.2.2.2.2.1, C.2.2.2.2.2.2.1, fun σ' τ' => wd_D hD, C.2.2.2.2.2.2.2.1, C.2.2.2.2.2.2.2.2.1, C.2.2.2.2.2.2.2.2.2.1, hn⟩ H locs la ⟨hl.1, hl.2.1, fun i v hv => ?_⟩ hP hS
  obtain ⟨u, h1, h2⟩ := hls i v hv
  have z := hl.2.2 i u h1
  rw [h2] at z
  exact z
theorem kw_vretC {p : Program} {l : Launch} {e : Env} {R : Room} {s : State} {m : MethodId} {args : Array Value} {below : List Frame} {meth : Method} {c : Code} {A : Nat → Prop} {f : Nat → Nat} {g : wd_G} {cells slots mc ms : Nat} {cc : ByteArray} {nL pc : Nat} {own : String} {ls : List (Option Value)} {ids : List Nat} {σ : wd_S} {τ : wd_L} {Q : va_W → Prop} (C : cw_C p s m args meth c A ids ((f, g.2) : wd_G) cc nL own none) (hd : decode cc pc = .ok (.return_, 1)) (h1 : cells ≤ mc) (h2 : slots ≤ ms) (hq : Q (wd_w ids ((f, g.2) : wd_G) σ τ)) : cw_W p l e R s m args below meth c A ids ((f, g.2) : wd_G) cells slots (MQ below (kw_Q g A Q) args s mc ms A) nL pc ls [] σ τ := fun H locs la _ hP hS =>
  W.widen h1 h2 (W.vret C.1 C.2.1 (cw_hr C) (fun t ht _ => ⟨⟨_, rfl, hq, by rw [ht]; exact hP, cw_hD C σ τ⟩, hS.F ht⟩) hS.2.2 hd (cw_hlk C))
theorem wd_w_ext {ids : List Nat} {g : wd_G} {σ σ' : wd_S} {τ τ' : wd_L} (h : ∀ c ∈ ids, σ c = σ' c ∧ τ c = τ' c) : wd_w ids g σ τ = wd_w ids g σ' τ' := by
  unfold wd_w
  apply List.map_congr_left
  intro c hc
  rw [wd_ce_ext (h c hc).1.symm (h c hc).2.symm]
def wd_mo : List Nat := [136, 140, 144, 148, 152, 156, 160, 164, 168, 172, 176, 180, 184, 188, 192, 196, 200, 204, 208, 212, 216, 220, 224, 228, 232, 236, 240, 244, 248, 252, 256]
theorem wd_mo_nd : wd_mo.Nodup := by decide +kernel
theorem iq_34 : wd_is wd_mo 136 (4, 10, [(0, 0), (0, 0), (2, 35), (2, 36), (2, 37), (2, 38), (2, 39), (0, 0), (2, 40), (2, 41), (2, 42), (2, 43), (2, 44), (0, 0), (2, 45), (2, 46), (2, 47), (2, 48), (2, 49), (2, 50), (2, 51), (2, 52), (2, 53), (2, 54), (2, 55), (2, 56), (2, 57), (2, 58), (2, 59), (2, 60), (2, 61), (2, 62), (2, 63), (2, 64), (0, 0)]) := ⟨by decide +kernel, rfl⟩
theorem iq_35 : wd_is wd_mo 140 (0, 40, []) := ⟨by decide +kernel, rfl⟩
theorem iq_36 : wd_is wd_mo 144 (0, 40, []) := ⟨by decide +kernel, rfl⟩
theorem iq_37 : wd_is wd_mo 148 (0, 40, []) := ⟨by decide +kernel, rfl⟩
theorem iq_38 : wd_is wd_mo 152 (0, 40, []) := ⟨by decide +kernel, rfl⟩
theorem iq_39 : wd_is wd_mo 156 (1, 40, []) := ⟨by decide +kernel, rfl⟩
theorem iq_40 : wd_is wd_mo 160 (0, 90, []) := ⟨by decide +kernel, rfl⟩
theorem iq_41 : wd_is wd_mo 164 (0, 90, []) := ⟨by decide +kernel, rfl⟩
theorem iq_42 : wd_is wd_mo 168 (0, 90, []) := ⟨by decide +kernel, rfl⟩
theorem iq_43 : wd_is wd_mo 172 (0, 90, []) := ⟨by decide +kernel, rfl⟩
theorem iq_44 : wd_is wd_mo 176 (0, 90, []) := ⟨by decide +kernel, rfl⟩
theorem iq_45 : wd_is wd_mo 180 (0, 840, []) := ⟨by decide +kernel, rfl⟩
theorem iq_46 : wd_is wd_mo 184 (0, 840, []) := ⟨by decide +kernel, rfl⟩
theorem iq_47 : wd_is wd_mo 188 (0, 840, []) := ⟨by decide +kernel, rfl⟩
theorem iq_48 : wd_is wd_mo 192 (0, 4, []) := ⟨by decide +kernel, rfl⟩
theorem iq_49 : wd_is wd_mo 196 (0, 4, []) := ⟨by decide +kernel, rfl⟩
theorem iq_50 : wd_is wd_mo 200 (0, 4, []) := ⟨by decide +kernel, rfl⟩
theorem iq_51 : wd_is wd_mo 204 (0, 4, []) := ⟨by decide +kernel, rfl⟩
theorem iq_52 : wd_is wd_mo 208 (1, 240, []) := ⟨by decide +kernel, rfl⟩
theorem iq_53 : wd_is wd_mo 212 (1, 240, []) := ⟨by decide +kernel, rfl⟩
theorem iq_54 : wd_is wd_mo 216 (0, 4, []) := ⟨by decide +kernel, rfl⟩
theorem iq_55 : wd_is wd_mo 220 (0, 4, []) := ⟨by decide +kernel, rfl⟩
theorem iq_56 : wd_is wd_mo 224 (0, 4, []) := ⟨by decide +kernel, rfl⟩
theorem iq_57 : wd_is wd_mo 228 (0, 240, []) := ⟨by decide +kernel, rfl⟩
theorem iq_58 : wd_is wd_mo 232 (0, 360, []) := ⟨by decide +kernel, rfl⟩
theorem iq_59 : wd_is wd_mo 236 (0, 360, []) := ⟨by decide +kernel, rfl⟩
theorem iq_60 : wd_is wd_mo 240 (1, 360, []) := ⟨by decide +kernel, rfl⟩
theorem iq_61 : wd_is wd_mo 244 (0, 160, []) := ⟨by decide +kernel, rfl⟩
theorem iq_62 : wd_is wd_mo 248 (0, 4, []) := ⟨by decide +kernel, rfl⟩
theorem iq_63 : wd_is wd_mo 252 (0, 16, []) := ⟨by decide +kernel, rfl⟩
theorem iq_64 : wd_is wd_mo 256 (0, 16, []) := ⟨by decide +kernel, rfl⟩
set_option maxRecDepth 100000 in
set_option maxHeartbeats 4000000 in
theorem lq_Mo_fresh1 {p : Program} {l : Launch} {e : Env} {s : State} {m : MethodId} {args : Array Value} {below : List Frame} {meth : Method} {c : Code} {A : Nat → Prop} {g : wd_G} {G : State → Prop} (X : wx_S) (r : Nat) (hr : r < 4) (C : cw_C p s m args meth c A wd_mo g cc_Mo_fresh 3 "DagLedgerModel" none)  (hend : cw_W p l e (cw_rm 1 0 0) s m args below meth c A wd_mo g 0 0 G 3 54 [some (.ref 136), some (.int (nI r)), some (.int (nI (60)))] [] (wx_e (zz_fr X 228 (60 * r) (60) 0)) (wx_l (zz_fr X 228 (60 * r) (60) 0))) : ∀ (j i : Nat), i + j = 60 → cw_W p l e (cw_rm 1 0 0) s m args below meth c A wd_mo g 0 0 G 3 30 [some (.ref 136), some (.int (nI r)), some (.int (nI (i)))] [] (wx_e (zz_fr X 228 (60 * r) (i) 0)) (wx_l (zz_fr X 228 (60 * r) (i) 0)) := by
  intro j
  induction j with
  | zero =>
    intro i hij
    refine cw_iload_n C dd_Mo_fresh_30 rfl ?_
    refine cw_bipush (v := nI 60) C dd_Mo_fresh_31 (by decide +kernel) ?_
    refine nw_icmp_ge (tgt := 54) C dd_Mo_fresh_33 (by decide) (by first | omega | (simp [wx_u] <;> omega)) (by first | omega | (simp [wx_u] <;> omega)) (fun h33 => ?_) (fun h33 => ?_)
    · have hi : i = 60 := by omega
      rw [hi]
      exact hend
    · exact absurd h33 (by omega)
  | succ j ih =>
    intro i hij
    refine cw_iload_n C dd_Mo_fresh_30 rfl ?_
    refine cw_bipush (v := nI 60) C dd_Mo_fresh_31 (by decide +kernel) ?_
    refine nw_icmp_ge (tgt := 54) C dd_Mo_fresh_33 (by decide) (by first | omega | (simp [wx_u] <;> omega)) (by first | omega | (simp [wx_u] <;> omega)) (fun h33 => ?_) (fun h33 => ?_)
    · exact absurd h33 (by omega)
    · refine cw_aload_n C dd_Mo_fresh_36 rfl ?_
      refine cw_getr (q' := 228) C wc_34 kF_Mo_77 iq_34 (by decide) rfl dd_Mo_fresh_37 rfl ?_
      refine cw_bipush (v := nI 60) C dd_Mo_fresh_40 (by decide +kernel) ?_
      refine cw_iload_n C dd_Mo_fresh_42 rfl ?_
      refine nw_imul C dd_Mo_fresh_43 ?_
      refine cw_iload_n C dd_Mo_fresh_44 rfl ?_
      refine nw_iadd C dd_Mo_fresh_45 ?_
      refine cw_iconst (v := nI 0) C dd_Mo_fresh_46 (by decide +kernel) ?_
      refine nw_iast C iq_57 (by first | omega | (simp [wx_u] <;> omega)) (by decide) dd_Mo_fresh_47 ?_
      refine nw_iinc (b := 1) C dd_Mo_fresh_48 (by decide +kernel) rfl (Nat.le_of_ble_eq_true rfl) ?_
      refine cw_goto (tgt := 30) C dd_Mo_fresh_51 (by decide) ?_
      exact nw_eqX (zz_fr_s X 228 (60 * r) i 0) (ih (i + 1) (by omega))
set_option maxRecDepth 100000 in
set_option maxHeartbeats 4000000 in
theorem lq_Mo_fresh2 {p : Program} {l : Launch} {e : Env} {s : State} {m : MethodId} {args : Array Value} {below : List Frame} {meth : Method} {c : Code} {A : Nat → Prop} {g : wd_G} {G : State → Prop} (X : wx_S) (r : Nat) (hr : r < 4) (C : cw_C p s m args meth c A wd_mo g cc_Mo_fresh 3 "DagLedgerModel" none)  (hend : cw_W p l e (cw_rm 1 0 0) s m args below meth c A wd_mo g 0 0 G 3 104 [some (.ref 136), some (.int (nI r)), some (.int (nI (90)))] [] (wx_e (zz_fr (zz_fr (zz_fr X 232 (90 * r) (90) 0) 236 (90 * r) (90) 0) 240 (90 * r) (90) 0)) (wx_l (zz_fr (zz_fr (zz_fr X 232 (90 * r) (90) 0) 236 (90 * r) (90) 0) 240 (90 * r) (90) 0))) : ∀ (j i : Nat), i + j = 90 → cw_W p l e (cw_rm 1 0 0) s m args below meth c A wd_mo g 0 0 G 3 56 [some (.ref 136), some (.int (nI r)), some (.int (nI (i)))] [] (wx_e (zz_fr (zz_fr (zz_fr X 232 (90 * r) (i) 0) 236 (90 * r) (i) 0) 240 (90 * r) (i) 0)) (wx_l (zz_fr (zz_fr (zz_fr X 232 (90 * r) (i) 0) 236 (90 * r) (i) 0) 240 (90 * r) (i) 0)) := by
  intro j
  induction j with
  | zero =>
    intro i hij
    refine cw_iload_n C dd_Mo_fresh_56 rfl ?_
    refine cw_bipush (v := nI 90) C dd_Mo_fresh_57 (by decide +kernel) ?_
    refine nw_icmp_ge (tgt := 104) C dd_Mo_fresh_59 (by decide) (by first | omega | (simp [wx_u] <;> omega)) (by first | omega | (simp [wx_u] <;> omega)) (fun h59 => ?_) (fun h59 => ?_)
    · have hi : i = 90 := by omega
      rw [hi]
      exact hend
    · exact absurd h59 (by omega)
  | succ j ih =>
    intro i hij
    refine cw_iload_n C dd_Mo_fresh_56 rfl ?_
    refine cw_bipush (v := nI 90) C dd_Mo_fresh_57 (by decide +kernel) ?_
    refine nw_icmp_ge (tgt := 104) C dd_Mo_fresh_59 (by decide) (by first | omega | (simp [wx_u] <;> omega)) (by first | omega | (simp [wx_u] <;> omega)) (fun h59 => ?_) (fun h59 => ?_)
    · exact absurd h59 (by omega)
    · refine cw_aload_n C dd_Mo_fresh_62 rfl ?_
      refine cw_getr (q' := 232) C wc_34 kF_Mo_80 iq_34 (by decide) rfl dd_Mo_fresh_63 rfl ?_
      refine cw_bipush (v := nI 90) C dd_Mo_fresh_66 (by decide +kernel) ?_
      refine cw_iload_n C dd_Mo_fresh_68 rfl ?_
      refine nw_imul C dd_Mo_fresh_69 ?_
      refine cw_iload_n C dd_Mo_fresh_70 rfl ?_
      refine nw_iadd C dd_Mo_fresh_71 ?_
      refine cw_iconst (v := nI 0) C dd_Mo_fresh_72 (by decide +kernel) ?_
      refine nw_iast C iq_58 (by first | omega | (simp [wx_u] <;> omega)) (by decide) dd_Mo_fresh_73 ?_
      refine cw_aload_n C dd_Mo_fresh_74 rfl ?_
      refine cw_getr (q' := 236) C wc_34 kF_Mo_83 iq_34 (by decide) rfl dd_Mo_fresh_75 rfl ?_
      refine cw_bipush (v := nI 90) C dd_Mo_fresh_78 (by decide +kernel) ?_
      refine cw_iload_n C dd_Mo_fresh_80 rfl ?_
      refine nw_imul C dd_Mo_fresh_81 ?_
      refine cw_iload_n C dd_Mo_fresh_82 rfl ?_
      refine nw_iadd C dd_Mo_fresh_83 ?_
      refine cw_iconst (v := nI 0) C dd_Mo_fresh_84 (by decide +kernel) ?_
      refine nw_iast C iq_59 (by first | omega | (simp [wx_u] <;> omega)) (by decide) dd_Mo_fresh_85 ?_
      refine cw_aload_n C dd_Mo_fresh_86 rfl ?_
      refine cw_getr (q' := 240) C wc_34 kF_Mo_86 iq_34 (by decide) rfl dd_Mo_fresh_87 rfl ?_
      refine cw_bipush (v := nI 90) C dd_Mo_fresh_90 (by decide +kernel) ?_
      refine cw_iload_n C dd_Mo_fresh_92 rfl ?_
      refine nw_imul C dd_Mo_fresh_93 ?_
      refine cw_iload_n C dd_Mo_fresh_94 rfl ?_
      refine nw_iadd C dd_Mo_fresh_95 ?_
      refine cw_iconst (v := nI 0) C dd_Mo_fresh_96 (by decide +kernel) ?_
      refine nw_zast C iq_60 (by first | omega | (simp [wx_u] <;> omega)) (by decide) (by first | omega | (simp [wx_u] <;> omega)) dd_Mo_fresh_97 ?_
      refine nw_iinc (b := 1) C dd_Mo_fresh_98 (by decide +kernel) rfl (Nat.le_of_ble_eq_true rfl) ?_
      refine cw_goto (tgt := 56) C dd_Mo_fresh_101 (by decide) ?_
      exact nw_eqX (by rw [wx_u_fr (c := 232) (q := 240) (by decide), wx_u_fr (c := 232) (q := 236) (by decide), zz_fr_s, wx_u_fr (c := 236) (q := 240) (by decide), zz_fr_s _ 236, zz_fr_s]) (ih (i + 1) (by omega))
set_option maxRecDepth 100000 in
set_option maxHeartbeats 4000000 in
theorem lq_Mo_fresh3 {p : Program} {l : Launch} {e : Env} {s : State} {m : MethodId} {args : Array Value} {below : List Frame} {meth : Method} {c : Code} {A : Nat → Prop} {g : wd_G} {G : State → Prop} (X : wx_S) (r : Nat) (hr : r < 4) (C : cw_C p s m args meth c A wd_mo g cc_Mo_fresh 3 "DagLedgerModel" none)  (hend : cw_W p l e (cw_rm 1 0 0) s m args below meth c A wd_mo g 0 0 G 3 129 [some (.ref 136), some (.int (nI r)), some (.int (nI (4)))] [] (wx_e (zz_fr X 252 (4 * r) (4) 100)) (wx_l (zz_fr X 252 (4 * r) (4) 100))) : ∀ (j i : Nat), i + j = 4 → cw_W p l e (cw_rm 1 0 0) s m args below meth c A wd_mo g 0 0 G 3 106 [some (.ref 136), some (.int (nI r)), some (.int (nI (i)))] [] (wx_e (zz_fr X 252 (4 * r) (i) 100)) (wx_l (zz_fr X 252 (4 * r) (i) 100)) := by
  intro j
  induction j with
  | zero =>
    intro i hij
    refine cw_iload_n C dd_Mo_fresh_106 rfl ?_
    refine cw_iconst (v := nI 4) C dd_Mo_fresh_107 (by decide +kernel) ?_
    refine nw_icmp_ge (tgt := 129) C dd_Mo_fresh_108 (by decide) (by first | omega | (simp [wx_u] <;> omega)) (by first | omega | (simp [wx_u] <;> omega)) (fun h108 => ?_) (fun h108 => ?_)
    · have hi : i = 4 := by omega
      rw [hi]
      exact hend
    · exact absurd h108 (by omega)
  | succ j ih =>
    intro i hij
    refine cw_iload_n C dd_Mo_fresh_106 rfl ?_
    refine cw_iconst (v := nI 4) C dd_Mo_fresh_107 (by decide +kernel) ?_
    refine nw_icmp_ge (tgt := 129) C dd_Mo_fresh_108 (by decide) (by first | omega | (simp [wx_u] <;> omega)) (by first | omega | (simp [wx_u] <;> omega)) (fun h108 => ?_) (fun h108 => ?_)
    · exact absurd h108 (by omega)
    · refine cw_aload_n C dd_Mo_fresh_111 rfl ?_
      refine cw_getr (q' := 252) C wc_34 kF_Mo_95 iq_34 (by decide) rfl dd_Mo_fresh_112 rfl ?_
      refine cw_iconst (v := nI 4) C dd_Mo_fresh_115 (by decide +kernel) ?_
      refine cw_iload_n C dd_Mo_fresh_116 rfl ?_
      refine nw_imul C dd_Mo_fresh_117 ?_
      refine cw_iload_n C dd_Mo_fresh_118 rfl ?_
      refine nw_iadd C dd_Mo_fresh_119 ?_
      refine cw_bipush (v := nI 100) C dd_Mo_fresh_120 (by decide +kernel) ?_
      refine nw_iast C iq_63 (by first | omega | (simp [wx_u] <;> omega)) (by decide) dd_Mo_fresh_122 ?_
      refine nw_iinc (b := 1) C dd_Mo_fresh_123 (by decide +kernel) rfl (Nat.le_of_ble_eq_true rfl) ?_
      refine cw_goto (tgt := 106) C dd_Mo_fresh_126 (by decide) ?_
      exact nw_eqX (zz_fr_s X 252 (4 * r) i 100) (ih (i + 1) (by omega))
set_option maxRecDepth 100000 in
set_option maxHeartbeats 4000000 in
theorem mq_Mo_fresh (X : wx_S) (r : Nat) (hr : r < 4) : nw_M wd_mo yy_Mo_fresh cc_Mo_fresh 3 none 1 0 0 [.ref 136, .int (nI r)] X (fun v X' => v = none ∧ X' = zm_fresh X r) := by
  refine nw_of [some (.ref 136), some (.int (nI r)), none] (by decide +kernel) rfl (Nat.le_of_ble_eq_true rfl) rfl ?_
  intro p l e s m args below meth c A g C
  refine cw_aload_n C dd_Mo_fresh_0 rfl ?_
  refine cw_getr (q' := 216) C wc_34 kF_Mo_68 iq_34 (by decide) rfl dd_Mo_fresh_1 rfl ?_
  refine cw_iload_n C dd_Mo_fresh_4 rfl ?_
  refine cw_iconst (v := nI 0) C dd_Mo_fresh_5 (by decide +kernel) ?_
  refine nw_iast C iq_54 (by first | omega | (simp [wx_u] <;> omega)) (by decide) dd_Mo_fresh_6 ?_
  refine cw_aload_n C dd_Mo_fresh_7 rfl ?_
  refine cw_getr (q' := 220) C wc_34 kF_Mo_71 iq_34 (by decide) rfl dd_Mo_fresh_8 rfl ?_
  refine cw_iload_n C dd_Mo_fresh_11 rfl ?_
  refine cw_iconst (v := nI 0) C dd_Mo_fresh_12 (by decide +kernel) ?_
  refine nw_iast C iq_55 (by first | omega | (simp [wx_u] <;> omega)) (by decide) dd_Mo_fresh_13 ?_
  refine cw_aload_n C dd_Mo_fresh_14 rfl ?_
  refine cw_getr (q' := 224) C wc_34 kF_Mo_74 iq_34 (by decide) rfl dd_Mo_fresh_15 rfl ?_
  refine cw_iload_n C dd_Mo_fresh_18 rfl ?_
  refine cw_iconst (v := nI 0) C dd_Mo_fresh_19 (by decide +kernel) ?_
  refine nw_iast C iq_56 (by first | omega | (simp [wx_u] <;> omega)) (by decide) dd_Mo_fresh_20 ?_
  refine cw_aload_n C dd_Mo_fresh_21 rfl ?_
  refine cw_getr (q' := 248) C wc_34 kF_Mo_92 iq_34 (by decide) rfl dd_Mo_fresh_22 rfl ?_
  refine cw_iload_n C dd_Mo_fresh_25 rfl ?_
  refine cw_iconst (v := nI 0) C dd_Mo_fresh_26 (by decide +kernel) ?_
  refine nw_iast C iq_62 (by first | omega | (simp [wx_u] <;> omega)) (by decide) dd_Mo_fresh_27 ?_
  refine cw_iconst (v := nI 0) C dd_Mo_fresh_28 (by decide +kernel) ?_
  refine cw_istore_n C dd_Mo_fresh_29 (Nat.le_of_ble_eq_true rfl) ?_
  refine nw_eqX (zz_fr_0 _ 228 (60 * r) 0).symm (lq_Mo_fresh1 _ r hr C ?_ 60 0 (by omega))
  refine cw_iconst (v := nI 0) C dd_Mo_fresh_54 (by decide +kernel) ?_
  refine cw_istore_n C dd_Mo_fresh_55 (Nat.le_of_ble_eq_true rfl) ?_
  refine nw_eqX (by rw [zz_fr_0, zz_fr_0, zz_fr_0]) (lq_Mo_fresh2 _ r hr C ?_ 90 0 (by omega))
  refine cw_iconst (v := nI 0) C dd_Mo_fresh_104 (by decide +kernel) ?_
  refine cw_istore_n C dd_Mo_fresh_105 (Nat.le_of_ble_eq_true rfl) ?_
  refine nw_eqX (zz_fr_0 _ 252 (4 * r) 100).symm (lq_Mo_fresh3 _ r hr C ?_ 4 0 (by omega))
  exact cw_vreturn C dd_Mo_fresh_129 (Nat.le_of_ble_eq_true rfl) (Nat.le_of_ble_eq_true rfl) ⟨_, rfl, rfl, ⟨rfl, rfl⟩⟩
theorem dd_Mo_init_0 : decode cc_Mo_init 0 = .ok (.aload_n 0, 1) := by decide +kernel
theorem dd_Mo_init_1 : decode cc_Mo_init 1 = .ok (.invokespecial 1, 3) := by decide +kernel
theorem dd_Mo_init_4 : decode cc_Mo_init 4 = .ok (.aload_n 0, 1) := by decide +kernel
theorem dd_Mo_init_5 : decode cc_Mo_init 5 = .ok (.bipush 40, 2) := by decide +kernel
theorem dd_Mo_init_7 : decode cc_Mo_init 7 = .ok (.newarray .int, 2) := by decide +kernel
theorem dd_Mo_init_9 : decode cc_Mo_init 9 = .ok (.putfield 7, 3) := by decide +kernel
theorem dd_Mo_init_12 : decode cc_Mo_init 12 = .ok (.aload_n 0, 1) := by decide +kernel
theorem dd_Mo_init_13 : decode cc_Mo_init 13 = .ok (.bipush 40, 2) := by decide +kernel
theorem dd_Mo_init_15 : decode cc_Mo_init 15 = .ok (.newarray .int, 2) := by decide +kernel
theorem dd_Mo_init_17 : decode cc_Mo_init 17 = .ok (.putfield 13, 3) := by decide +kernel
theorem dd_Mo_init_20 : decode cc_Mo_init 20 = .ok (.aload_n 0, 1) := by decide +kernel
theorem dd_Mo_init_21 : decode cc_Mo_init 21 = .ok (.bipush 40, 2) := by decide +kernel
theorem dd_Mo_init_23 : decode cc_Mo_init 23 = .ok (.newarray .int, 2) := by decide +kernel
theorem dd_Mo_init_25 : decode cc_Mo_init 25 = .ok (.putfield 16, 3) := by decide +kernel
theorem dd_Mo_init_28 : decode cc_Mo_init 28 = .ok (.aload_n 0, 1) := by decide +kernel
theorem dd_Mo_init_29 : decode cc_Mo_init 29 = .ok (.bipush 40, 2) := by decide +kernel
theorem dd_Mo_init_31 : decode cc_Mo_init 31 = .ok (.newarray .int, 2) := by decide +kernel
theorem dd_Mo_init_33 : decode cc_Mo_init 33 = .ok (.putfield 19, 3) := by decide +kernel
theorem dd_Mo_init_36 : decode cc_Mo_init 36 = .ok (.aload_n 0, 1) := by decide +kernel
theorem dd_Mo_init_37 : decode cc_Mo_init 37 = .ok (.bipush 40, 2) := by decide +kernel
theorem dd_Mo_init_39 : decode cc_Mo_init 39 = .ok (.newarray .boolean, 2) := by decide +kernel
theorem dd_Mo_init_41 : decode cc_Mo_init 41 = .ok (.putfield 22, 3) := by decide +kernel
theorem dd_Mo_init_44 : decode cc_Mo_init 44 = .ok (.aload_n 0, 1) := by decide +kernel
theorem dd_Mo_init_45 : decode cc_Mo_init 45 = .ok (.bipush 90, 2) := by decide +kernel
theorem dd_Mo_init_47 : decode cc_Mo_init 47 = .ok (.newarray .int, 2) := by decide +kernel
theorem dd_Mo_init_49 : decode cc_Mo_init 49 = .ok (.putfield 26, 3) := by decide +kernel
theorem dd_Mo_init_52 : decode cc_Mo_init 52 = .ok (.aload_n 0, 1) := by decide +kernel
theorem dd_Mo_init_53 : decode cc_Mo_init 53 = .ok (.bipush 90, 2) := by decide +kernel
theorem dd_Mo_init_55 : decode cc_Mo_init 55 = .ok (.newarray .int, 2) := by decide +kernel
theorem dd_Mo_init_57 : decode cc_Mo_init 57 = .ok (.putfield 29, 3) := by decide +kernel
theorem dd_Mo_init_60 : decode cc_Mo_init 60 = .ok (.aload_n 0, 1) := by decide +kernel
theorem dd_Mo_init_61 : decode cc_Mo_init 61 = .ok (.bipush 90, 2) := by decide +kernel
theorem dd_Mo_init_63 : decode cc_Mo_init 63 = .ok (.newarray .int, 2) := by decide +kernel
theorem dd_Mo_init_65 : decode cc_Mo_init 65 = .ok (.putfield 32, 3) := by decide +kernel
theorem dd_Mo_init_68 : decode cc_Mo_init 68 = .ok (.aload_n 0, 1) := by decide +kernel
theorem dd_Mo_init_69 : decode cc_Mo_init 69 = .ok (.bipush 90, 2) := by decide +kernel
theorem dd_Mo_init_71 : decode cc_Mo_init 71 = .ok (.newarray .int, 2) := by decide +kernel
theorem dd_Mo_init_73 : decode cc_Mo_init 73 = .ok (.putfield 35, 3) := by decide +kernel
theorem dd_Mo_init_76 : decode cc_Mo_init 76 = .ok (.aload_n 0, 1) := by decide +kernel
theorem dd_Mo_init_77 : decode cc_Mo_init 77 = .ok (.bipush 90, 2) := by decide +kernel
theorem dd_Mo_init_79 : decode cc_Mo_init 79 = .ok (.newarray .int, 2) := by decide +kernel
theorem dd_Mo_init_81 : decode cc_Mo_init 81 = .ok (.putfield 38, 3) := by decide +kernel
theorem dd_Mo_init_84 : decode cc_Mo_init 84 = .ok (.aload_n 0, 1) := by decide +kernel
theorem dd_Mo_init_85 : decode cc_Mo_init 85 = .ok (.sipush 840, 3) := by decide +kernel
theorem dd_Mo_init_88 : decode cc_Mo_init 88 = .ok (.newarray .int, 2) := by decide +kernel
theorem dd_Mo_init_90 : decode cc_Mo_init 90 = .ok (.putfield 41, 3) := by decide +kernel
theorem dd_Mo_init_93 : decode cc_Mo_init 93 = .ok (.aload_n 0, 1) := by decide +kernel
theorem dd_Mo_init_94 : decode cc_Mo_init 94 = .ok (.sipush 840, 3) := by decide +kernel
theorem dd_Mo_init_97 : decode cc_Mo_init 97 = .ok (.newarray .int, 2) := by decide +kernel
theorem dd_Mo_init_99 : decode cc_Mo_init 99 = .ok (.putfield 44, 3) := by decide +kernel
theorem dd_Mo_init_102 : decode cc_Mo_init 102 = .ok (.aload_n 0, 1) := by decide +kernel
theorem dd_Mo_init_103 : decode cc_Mo_init 103 = .ok (.sipush 840, 3) := by decide +kernel
theorem dd_Mo_init_106 : decode cc_Mo_init 106 = .ok (.newarray .int, 2) := by decide +kernel
theorem dd_Mo_init_108 : decode cc_Mo_init 108 = .ok (.putfield 47, 3) := by decide +kernel
theorem dd_Mo_init_111 : decode cc_Mo_init 111 = .ok (.aload_n 0, 1) := by decide +kernel
theorem dd_Mo_init_112 : decode cc_Mo_init 112 = .ok (.iconst 4, 1) := by decide +kernel
theorem dd_Mo_init_113 : decode cc_Mo_init 113 = .ok (.newarray .int, 2) := by decide +kernel
theorem dd_Mo_init_115 : decode cc_Mo_init 115 = .ok (.putfield 50, 3) := by decide +kernel
theorem dd_Mo_init_118 : decode cc_Mo_init 118 = .ok (.aload_n 0, 1) := by decide +kernel
theorem dd_Mo_init_119 : decode cc_Mo_init 119 = .ok (.iconst 4, 1) := by decide +kernel
theorem dd_Mo_init_120 : decode cc_Mo_init 120 = .ok (.newarray .int, 2) := by decide +kernel
theorem dd_Mo_init_122 : decode cc_Mo_init 122 = .ok (.putfield 53, 3) := by decide +kernel
theorem dd_Mo_init_125 : decode cc_Mo_init 125 = .ok (.aload_n 0, 1) := by decide +kernel
theorem dd_Mo_init_126 : decode cc_Mo_init 126 = .ok (.iconst 4, 1) := by decide +kernel
theorem dd_Mo_init_127 : decode cc_Mo_init 127 = .ok (.newarray .int, 2) := by decide +kernel
theorem dd_Mo_init_129 : decode cc_Mo_init 129 = .ok (.putfield 56, 3) := by decide +kernel
theorem dd_Mo_init_132 : decode cc_Mo_init 132 = .ok (.aload_n 0, 1) := by decide +kernel
theorem dd_Mo_init_133 : decode cc_Mo_init 133 = .ok (.iconst 4, 1) := by decide +kernel
theorem dd_Mo_init_134 : decode cc_Mo_init 134 = .ok (.newarray .int, 2) := by decide +kernel
theorem dd_Mo_init_136 : decode cc_Mo_init 136 = .ok (.putfield 59, 3) := by decide +kernel
theorem dd_Mo_init_139 : decode cc_Mo_init 139 = .ok (.aload_n 0, 1) := by decide +kernel
theorem dd_Mo_init_140 : decode cc_Mo_init 140 = .ok (.sipush 240, 3) := by decide +kernel
theorem dd_Mo_init_143 : decode cc_Mo_init 143 = .ok (.newarray .boolean, 2) := by decide +kernel
theorem dd_Mo_init_145 : decode cc_Mo_init 145 = .ok (.putfield 62, 3) := by decide +kernel
theorem dd_Mo_init_148 : decode cc_Mo_init 148 = .ok (.aload_n 0, 1) := by decide +kernel
theorem dd_Mo_init_149 : decode cc_Mo_init 149 = .ok (.sipush 240, 3) := by decide +kernel
theorem dd_Mo_init_152 : decode cc_Mo_init 152 = .ok (.newarray .boolean, 2) := by decide +kernel
theorem dd_Mo_init_154 : decode cc_Mo_init 154 = .ok (.putfield 65, 3) := by decide +kernel
theorem dd_Mo_init_157 : decode cc_Mo_init 157 = .ok (.aload_n 0, 1) := by decide +kernel
theorem dd_Mo_init_158 : decode cc_Mo_init 158 = .ok (.iconst 4, 1) := by decide +kernel
theorem dd_Mo_init_159 : decode cc_Mo_init 159 = .ok (.newarray .int, 2) := by decide +kernel
theorem dd_Mo_init_161 : decode cc_Mo_init 161 = .ok (.putfield 68, 3) := by decide +kernel
theorem dd_Mo_init_164 : decode cc_Mo_init 164 = .ok (.aload_n 0, 1) := by decide +kernel
theorem dd_Mo_init_165 : decode cc_Mo_init 165 = .ok (.iconst 4, 1) := by decide +kernel
theorem dd_Mo_init_166 : decode cc_Mo_init 166 = .ok (.newarray .int, 2) := by decide +kernel
theorem dd_Mo_init_168 : decode cc_Mo_init 168 = .ok (.putfield 71, 3) := by decide +kernel
theorem dd_Mo_init_171 : decode cc_Mo_init 171 = .ok (.aload_n 0, 1) := by decide +kernel
theorem dd_Mo_init_172 : decode cc_Mo_init 172 = .ok (.iconst 4, 1) := by decide +kernel
theorem dd_Mo_init_173 : decode cc_Mo_init 173 = .ok (.newarray .int, 2) := by decide +kernel
theorem dd_Mo_init_175 : decode cc_Mo_init 175 = .ok (.putfield 74, 3) := by decide +kernel
theorem dd_Mo_init_178 : decode cc_Mo_init 178 = .ok (.aload_n 0, 1) := by decide +kernel
theorem dd_Mo_init_179 : decode cc_Mo_init 179 = .ok (.sipush 240, 3) := by decide +kernel
theorem dd_Mo_init_182 : decode cc_Mo_init 182 = .ok (.newarray .int, 2) := by decide +kernel
theorem dd_Mo_init_184 : decode cc_Mo_init 184 = .ok (.putfield 77, 3) := by decide +kernel
theorem dd_Mo_init_187 : decode cc_Mo_init 187 = .ok (.aload_n 0, 1) := by decide +kernel
theorem dd_Mo_init_188 : decode cc_Mo_init 188 = .ok (.sipush 360, 3) := by decide +kernel
theorem dd_Mo_init_191 : decode cc_Mo_init 191 = .ok (.newarray .int, 2) := by decide +kernel
theorem dd_Mo_init_193 : decode cc_Mo_init 193 = .ok (.putfield 80, 3) := by decide +kernel
theorem dd_Mo_init_196 : decode cc_Mo_init 196 = .ok (.aload_n 0, 1) := by decide +kernel
theorem dd_Mo_init_197 : decode cc_Mo_init 197 = .ok (.sipush 360, 3) := by decide +kernel
theorem dd_Mo_init_200 : decode cc_Mo_init 200 = .ok (.newarray .int, 2) := by decide +kernel
theorem dd_Mo_init_202 : decode cc_Mo_init 202 = .ok (.putfield 83, 3) := by decide +kernel
theorem dd_Mo_init_205 : decode cc_Mo_init 205 = .ok (.aload_n 0, 1) := by decide +kernel
theorem dd_Mo_init_206 : decode cc_Mo_init 206 = .ok (.sipush 360, 3) := by decide +kernel
theorem dd_Mo_init_209 : decode cc_Mo_init 209 = .ok (.newarray .boolean, 2) := by decide +kernel
theorem dd_Mo_init_211 : decode cc_Mo_init 211 = .ok (.putfield 86, 3) := by decide +kernel
theorem dd_Mo_init_214 : decode cc_Mo_init 214 = .ok (.aload_n 0, 1) := by decide +kernel
theorem dd_Mo_init_215 : decode cc_Mo_init 215 = .ok (.sipush 160, 3) := by decide +kernel
theorem dd_Mo_init_218 : decode cc_Mo_init 218 = .ok (.newarray .int, 2) := by decide +kernel
theorem dd_Mo_init_220 : decode cc_Mo_init 220 = .ok (.putfield 89, 3) := by decide +kernel
theorem dd_Mo_init_223 : decode cc_Mo_init 223 = .ok (.aload_n 0, 1) := by decide +kernel
theorem dd_Mo_init_224 : decode cc_Mo_init 224 = .ok (.iconst 4, 1) := by decide +kernel
theorem dd_Mo_init_225 : decode cc_Mo_init 225 = .ok (.newarray .int, 2) := by decide +kernel
theorem dd_Mo_init_227 : decode cc_Mo_init 227 = .ok (.putfield 92, 3) := by decide +kernel
theorem dd_Mo_init_230 : decode cc_Mo_init 230 = .ok (.aload_n 0, 1) := by decide +kernel
theorem dd_Mo_init_231 : decode cc_Mo_init 231 = .ok (.bipush 16, 2) := by decide +kernel
theorem dd_Mo_init_233 : decode cc_Mo_init 233 = .ok (.newarray .int, 2) := by decide +kernel
theorem dd_Mo_init_235 : decode cc_Mo_init 235 = .ok (.putfield 95, 3) := by decide +kernel
theorem dd_Mo_init_238 : decode cc_Mo_init 238 = .ok (.aload_n 0, 1) := by decide +kernel
theorem dd_Mo_init_239 : decode cc_Mo_init 239 = .ok (.bipush 16, 2) := by decide +kernel
theorem dd_Mo_init_241 : decode cc_Mo_init 241 = .ok (.newarray .int, 2) := by decide +kernel
theorem dd_Mo_init_243 : decode cc_Mo_init 243 = .ok (.putfield 98, 3) := by decide +kernel
theorem dd_Mo_init_246 : decode cc_Mo_init 246 = .ok (.iconst 0, 1) := by decide +kernel
theorem dd_Mo_init_247 : decode cc_Mo_init 247 = .ok (.istore_n 1, 1) := by decide +kernel
theorem dd_Mo_init_248 : decode cc_Mo_init 248 = .ok (.iload_n 1, 1) := by decide +kernel
theorem dd_Mo_init_249 : decode cc_Mo_init 249 = .ok (.iconst 4, 1) := by decide +kernel
theorem dd_Mo_init_250 : decode cc_Mo_init 250 = .ok (.if_icmp .ge 28, 3) := by decide +kernel
theorem dd_Mo_init_253 : decode cc_Mo_init 253 = .ok (.aload_n 0, 1) := by decide +kernel
theorem dd_Mo_init_254 : decode cc_Mo_init 254 = .ok (.getfield 50, 3) := by decide +kernel
theorem dd_Mo_init_257 : decode cc_Mo_init 257 = .ok (.iload_n 1, 1) := by decide +kernel
theorem dd_Mo_init_258 : decode cc_Mo_init 258 = .ok (.iconst 1, 1) := by decide +kernel
theorem dd_Mo_init_259 : decode cc_Mo_init 259 = .ok (.iastore, 1) := by decide +kernel
theorem dd_Mo_init_260 : decode cc_Mo_init 260 = .ok (.aload_n 0, 1) := by decide +kernel
theorem dd_Mo_init_261 : decode cc_Mo_init 261 = .ok (.getfield 56, 3) := by decide +kernel
theorem dd_Mo_init_264 : decode cc_Mo_init 264 = .ok (.iload_n 1, 1) := by decide +kernel
theorem dd_Mo_init_265 : decode cc_Mo_init 265 = .ok (.iconst (-1), 1) := by decide +kernel
theorem dd_Mo_init_266 : decode cc_Mo_init 266 = .ok (.iastore, 1) := by decide +kernel
theorem dd_Mo_init_267 : decode cc_Mo_init 267 = .ok (.aload_n 0, 1) := by decide +kernel
theorem dd_Mo_init_268 : decode cc_Mo_init 268 = .ok (.iload_n 1, 1) := by decide +kernel
theorem dd_Mo_init_269 : decode cc_Mo_init 269 = .ok (.invokevirtual 101, 3) := by decide +kernel
theorem dd_Mo_init_272 : decode cc_Mo_init 272 = .ok (.iinc 1 1, 3) := by decide +kernel
theorem dd_Mo_init_275 : decode cc_Mo_init 275 = .ok (.goto (-27), 3) := by decide +kernel
theorem dd_Mo_init_278 : decode cc_Mo_init 278 = .ok (.return_, 1) := by decide +kernel
theorem ko_Mo : Cond.methodLink "DagLedgerModel" 1 Lib.objectInit ∈ wd_tb := ct_w (by decide +kernel) (by decide +kernel)
def kx_m : Nat → wx_S
  | 0 => fun _ _ => 0
  | i + 1 => zm_fresh (wx_u (wx_u (kx_m i) 192 i 1) 200 i 4294967295) i
theorem kx_mo {c : Nat} (hc : 136 ≤ c) : kx_m 4 c = kx_0 c := by
  funext k
  by_cases h1 : c = 192
  · subst h1
    simp [kx_m, zm_fresh, zz_fr, wx_u, kx_0]
    repeat' split
    all_goals omega
  · by_cases h2 : c = 200
    · subst h2
      simp [kx_m, zm_fresh, zz_fr, wx_u, kx_0]
      repeat' split
      all_goals omega
    · by_cases h3 : c = 252
      · subst h3
        simp [kx_m, zm_fresh, zz_fr, wx_u, kx_0]
        repeat' split
        all_goals omega
      · have e0 : kx_0 c k = 0 := by
          unfold kx_0
          rw [if_neg (by omega), if_neg (by omega), if_neg (by omega), if_neg (by omega), if_neg (by omega), if_neg h1, if_neg h2, if_neg h3]
        rw [e0]
        simp [kx_m, zm_fresh, zz_fr, wx_u, h1, h2, h3]
theorem kw_eqV {p : Program} {l : Launch} {e : Env} {R : Room} {s : State} {m : MethodId} {args : Array Value} {below : List Frame} {meth : Method} {c : Code} {A : Nat → Prop} {g : wd_G} {cells slots : Nat} {G : State → Prop} {nL pc : Nat} {ls : List (Option Value)} {st : List Value} {V : va_W} (V' : va_W) (cells' slots' : Nat) (h : V = V') (h1 : cells = cells') (h2 : slots = slots') (k : kw_W p l e R s m args below meth c A g V' cells' slots' G nL pc ls st) : kw_W p l e R s m args below meth c A g V cells slots G nL pc ls st := by subst h h1 h2; exact k
set_option maxRecDepth 100000 in
set_option maxHeartbeats 4000000 in
theorem kl_Mo {p : Program} {l : Launch} {e : Env} {s : State} {m : MethodId} {args : Array Value} {below : List Frame} {meth : Method} {c : Code} {A : Nat → Prop} {f : Nat → Nat} {g : wd_G} {a : Nat} (C : cw_C p s m args meth c A wd_mo ((f, g.2) : wd_G) cc_Mo_init 2 "DagLedgerModel" none) (hf : f 136 = a) : cw_W p l e (cw_rm 2 30 5194) s m args below meth c A wd_mo ((f, g.2) : wd_G) 30 5194 (MQ below (kw_Q g A (fun V' => ∃ f : Nat → Nat, f 136 = a ∧ V' = wd_w wd_mo ((f, g.2) : wd_G) (wx_e kx_0) (wx_l kx_0))) args s 30 5194 A) 2 248 [some (.ref 136), some (.int (nI 0))] [] (wx_e (kx_m 0)) (wx_l (kx_m 0)) := by
  refine cw_iload_n C dd_Mo_init_248 rfl ?_
  refine cw_iconst (v := nI 4) C dd_Mo_init_249 (by decide +kernel) ?_
  refine cw_icmp_ge (tgt := 278) C dd_Mo_init_250 (by decide) (fun h9 => absurd h9 (by decide +kernel)) (fun _ => ?_)
  refine cw_aload_n C dd_Mo_init_253 rfl ?_
  refine cw_getr (q' := 192) C wc_34 kF_Mo_50 iq_34 (by decide) rfl dd_Mo_init_254 rfl ?_
  refine cw_iload_n C dd_Mo_init_257 rfl ?_
  refine cw_iconst (v := nI 1) C dd_Mo_init_258 (by decide +kernel) ?_
  refine nw_iast C iq_48 (by decide) (by decide) dd_Mo_init_259 ?_
  refine cw_aload_n C dd_Mo_init_260 rfl ?_
  refine cw_getr (q' := 200) C wc_34 kF_Mo_56 iq_34 (by decide) rfl dd_Mo_init_261 rfl ?_
  refine cw_iload_n C dd_Mo_init_264 rfl ?_
  refine cw_iconst (v := nI 4294967295) C dd_Mo_init_265 (by decide +kernel) ?_
  refine nw_iast C iq_50 (by decide) (by decide) dd_Mo_init_266 ?_
  refine cw_aload_n C dd_Mo_init_267 rfl ?_
  refine cw_iload_n C dd_Mo_init_268 rfl ?_
  refine cw_callV (As := [_]) C kV_Mo_101 wc_34 iq_34 dd_Mo_init_269 rfl rfl (Nat.le_of_ble_eq_true rfl) ⟨(Nat.le_of_ble_eq_true rfl), (Nat.le_of_ble_eq_true rfl)⟩ ⟨(Nat.le_of_ble_eq_true rfl), (Nat.le_of_ble_eq_true rfl)⟩ (mq_Mo_fresh _ 0 (by decide)) (nw_kv ?_)
  refine cw_iinc (v := nI 1) C dd_Mo_init_272 rfl (by decide +kernel) (Nat.le_of_ble_eq_true rfl) ?_
  refine cw_goto (tgt := 248) C dd_Mo_init_275 (by decide) ?_
  refine cw_eq (ls' := [some (.ref 136), some (.int (nI 1))]) (σ' := wx_e (kx_m 1)) (τ' := wx_l (kx_m 1)) rfl rfl rfl rfl ?_
  refine cw_iload_n C dd_Mo_init_248 rfl ?_
  refine cw_iconst (v := nI 4) C dd_Mo_init_249 (by decide +kernel) ?_
  refine cw_icmp_ge (tgt := 278) C dd_Mo_init_250 (by decide) (fun h9 => absurd h9 (by decide +kernel)) (fun _ => ?_)
  refine cw_aload_n C dd_Mo_init_253 rfl ?_
  refine cw_getr (q' := 192) C wc_34 kF_Mo_50 iq_34 (by decide) rfl dd_Mo_init_254 rfl ?_
  refine cw_iload_n C dd_Mo_init_257 rfl ?_
  refine cw_iconst (v := nI 1) C dd_Mo_init_258 (by decide +kernel) ?_
  refine nw_iast C iq_48 (by decide) (by decide) dd_Mo_init_259 ?_
  refine cw_aload_n C dd_Mo_init_260 rfl ?_
  refine cw_getr (q' := 200) C wc_34 kF_Mo_56 iq_34 (by decide) rfl dd_Mo_init_261 rfl ?_
  refine cw_iload_n C dd_Mo_init_264 rfl ?_
  refine cw_iconst (v := nI 4294967295) C dd_Mo_init_265 (by decide +kernel) ?_
  refine nw_iast C iq_50 (by decide) (by decide) dd_Mo_init_266 ?_
  refine cw_aload_n C dd_Mo_init_267 rfl ?_
  refine cw_iload_n C dd_Mo_init_268 rfl ?_
  refine cw_callV (As := [_]) C kV_Mo_101 wc_34 iq_34 dd_Mo_init_269 rfl rfl (Nat.le_of_ble_eq_true rfl) ⟨(Nat.le_of_ble_eq_true rfl), (Nat.le_of_ble_eq_true rfl)⟩ ⟨(Nat.le_of_ble_eq_true rfl), (Nat.le_of_ble_eq_true rfl)⟩ (mq_Mo_fresh _ 1 (by decide)) (nw_kv ?_)
  refine cw_iinc (v := nI 2) C dd_Mo_init_272 rfl (by decide +kernel) (Nat.le_of_ble_eq_true rfl) ?_
  refine cw_goto (tgt := 248) C dd_Mo_init_275 (by decide) ?_
  refine cw_eq (ls' := [some (.ref 136), some (.int (nI 2))]) (σ' := wx_e (kx_m 2)) (τ' := wx_l (kx_m 2)) rfl rfl rfl rfl ?_
  refine cw_iload_n C dd_Mo_init_248 rfl ?_
  refine cw_iconst (v := nI 4) C dd_Mo_init_249 (by decide +kernel) ?_
  refine cw_icmp_ge (tgt := 278) C dd_Mo_init_250 (by decide) (fun h9 => absurd h9 (by decide +kernel)) (fun _ => ?_)
  refine cw_aload_n C dd_Mo_init_253 rfl ?_
  refine cw_getr (q' := 192) C wc_34 kF_Mo_50 iq_34 (by decide) rfl dd_Mo_init_254 rfl ?_
  refine cw_iload_n C dd_Mo_init_257 rfl ?_
  refine cw_iconst (v := nI 1) C dd_Mo_init_258 (by decide +kernel) ?_
  refine nw_iast C iq_48 (by decide) (by decide) dd_Mo_init_259 ?_
  refine cw_aload_n C dd_Mo_init_260 rfl ?_
  refine cw_getr (q' := 200) C wc_34 kF_Mo_56 iq_34 (by decide) rfl dd_Mo_init_261 rfl ?_
  refine cw_iload_n C dd_Mo_init_264 rfl ?_
  refine cw_iconst (v := nI 4294967295) C dd_Mo_init_265 (by decide +kernel) ?_
  refine nw_iast C iq_50 (by decide) (by decide) dd_Mo_init_266 ?_
  refine cw_aload_n C dd_Mo_init_267 rfl ?_
  refine cw_iload_n C dd_Mo_init_268 rfl ?_
  refine cw_callV (As := [_]) C kV_Mo_101 wc_34 iq_34 dd_Mo_init_269 rfl rfl (Nat.le_of_ble_eq_true rfl) ⟨(Nat.le_of_ble_eq_true rfl), (Nat.le_of_ble_eq_true rfl)⟩ ⟨(Nat.le_of_ble_eq_true rfl), (Nat.le_of_ble_eq_true rfl)⟩ (mq_Mo_fresh _ 2 (by decide)) (nw_kv ?_)
  refine cw_iinc (v := nI 3) C dd_Mo_init_272 rfl (by decide +kernel) (Nat.le_of_ble_eq_true rfl) ?_
  refine cw_goto (tgt := 248) C dd_Mo_init_275 (by decide) ?_
  refine cw_eq (ls' := [some (.ref 136), some (.int (nI 3))]) (σ' := wx_e (kx_m 3)) (τ' := wx_l (kx_m 3)) rfl rfl rfl rfl ?_
  refine cw_iload_n C dd_Mo_init_248 rfl ?_
  refine cw_iconst (v := nI 4) C dd_Mo_init_249 (by decide +kernel) ?_
  refine cw_icmp_ge (tgt := 278) C dd_Mo_init_250 (by decide) (fun h9 => absurd h9 (by decide +kernel)) (fun _ => ?_)
  refine cw_aload_n C dd_Mo_init_253 rfl ?_
  refine cw_getr (q' := 192) C wc_34 kF_Mo_50 iq_34 (by decide) rfl dd_Mo_init_254 rfl ?_
  refine cw_iload_n C dd_Mo_init_257 rfl ?_
  refine cw_iconst (v := nI 1) C dd_Mo_init_258 (by decide +kernel) ?_
  refine nw_iast C iq_48 (by decide) (by decide) dd_Mo_init_259 ?_
  refine cw_aload_n C dd_Mo_init_260 rfl ?_
  refine cw_getr (q' := 200) C wc_34 kF_Mo_56 iq_34 (by decide) rfl dd_Mo_init_261 rfl ?_
  refine cw_iload_n C dd_Mo_init_264 rfl ?_
  refine cw_iconst (v := nI 4294967295) C dd_Mo_init_265 (by decide +kernel) ?_
  refine nw_iast C iq_50 (by decide) (by decide) dd_Mo_init_266 ?_
  refine cw_aload_n C dd_Mo_init_267 rfl ?_
  refine cw_iload_n C dd_Mo_init_268 rfl ?_
  refine cw_callV (As := [_]) C kV_Mo_101 wc_34 iq_34 dd_Mo_init_269 rfl rfl (Nat.le_of_ble_eq_true rfl) ⟨(Nat.le_of_ble_eq_true rfl), (Nat.le_of_ble_eq_true rfl)⟩ ⟨(Nat.le_of_ble_eq_true rfl), (Nat.le_of_ble_eq_true rfl)⟩ (mq_Mo_fresh _ 3 (by decide)) (nw_kv ?_)
  refine cw_iinc (v := nI 4) C dd_Mo_init_272 rfl (by decide +kernel) (Nat.le_of_ble_eq_true rfl) ?_
  refine cw_goto (tgt := 248) C dd_Mo_init_275 (by decide) ?_
  refine cw_eq (ls' := [some (.ref 136), some (.int (nI 4))]) (σ' := wx_e (kx_m 4)) (τ' := wx_l (kx_m 4)) rfl rfl rfl rfl ?_
  refine cw_iload_n C dd_Mo_init_248 rfl ?_
  refine cw_iconst (v := nI 4) C dd_Mo_init_249 (by decide +kernel) ?_
  refine cw_icmp_ge (tgt := 278) C dd_Mo_init_250 (by decide) (fun _ => ?_) (fun h9 => absurd (by decide +kernel) h9)
  refine kw_vretC C dd_Mo_init_278 (Nat.le_of_ble_eq_true rfl) (Nat.le_of_ble_eq_true rfl) ⟨f, hf, wd_w_ext (fun c hc => ?_)⟩
  have h6 : 136 ≤ c := by
    have := List.all_eq_true.mp (show wd_mo.all (fun c => decide (136 ≤ c)) = true by decide +kernel) c hc
    simpa using this
  have e6 := kx_mo h6
  exact ⟨funext fun k => by unfold wx_e; rw [e6], funext fun k => by unfold wx_l; rw [e6]⟩
