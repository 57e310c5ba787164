/-- a vertex's echo or ready goes out: b is the disk's array (76 + r or 80 + r), k the kind -/
def zc_ans (X : wx_S) (r b k u : Nat) : wx_S := if zc_cut X r then zc_goDown X r else zc_post (wx_u (zc_wrote X r) b (X 24 u) (X b (X 24 u) ||| 2 ^ X 28 u)) k r u
def zc_tkS (X : wx_S) (r u q : Nat) : wx_S := if q = X 24 u ∧ zc_wf X u ∧ ¬ X (76 + r) (X 24 u) / 2 ^ X 28 u % 2 = 1 then zc_ans X r (76 + r) 1 u else X
def zc_bec (X : wx_S) (r u : Nat) : wx_S := if X (80 + r) (X 24 u) / 2 ^ X 28 u % 2 = 1 then X else zc_ans X r (80 + r) 2 u
theorem mm_Bo_post' (X : wx_S) (k q u : Nat) (hc : X 44 3 < 802) : nw_M wd_all yy_Bo_post cc_Bo_post 4 (some .int) 1 0 0 [.ref 44, .int (nI k), .int (nI q), .int (nI u)] X (fun v X' => v = some (.int (nI (X 44 3))) ∧ X' = zc_post X k q u) := mm_Bo_post X k q u hc
/-- what a node needs to take something: ranges of its own cells -/
def zc_N (X : wx_S) (r : Nat) : Prop := X (64 + r) 0 = r ∧ X (64 + r) 11 < 4294967296 ∧ X (64 + r) 12 < 4294967296 ∧ (∀ a, a < 4 → X (76 + r) a < 2 ^ 15 ∧ X (80 + r) a < 2 ^ 15) ∧ (∀ u, u < 90 → X (88 + r) u < 16 ∧ X (92 + r) u < 16)
set_option maxRecDepth 100000 in
set_option maxHeartbeats 4000000 in
theorem mm_Re_takeSend (X : wx_S) (r : Nat) (hr : r < 4) (u q : Nat) (hV : zc_V X) (hN : zc_N X r) (hu : u < X 20 5) (hm : X 44 3 < 802) (hq : q < 4294967296) : nw_M wd_all yy_Re_takeSend cc_Re_takeSend 5 none 5 0 0 [.ref (64 + r), .int (nI u), .int (nI q)] X (fun v X' => v = none ∧ X' = zc_tkS X r u q) := by
  refine nw_of [some (.ref (64 + r)), some (.int (nI u)), some (.int (nI q)), none, none] (by decide +kernel) rfl (Nat.le_of_ble_eq_true rfl) rfl ?_
  intro p l e s m args below meth c A g C
  obtain ⟨hid, hc1, hc2, hdk, hnt⟩ := hN
  have g1 := hV.2.2.1 u hu
  have g2 := hV.1
  have g3 := hdk (X 24 u) g1.1
  refine cw_aload_n C dd_Re_takeSend_0 rfl ?_
  refine cw_getr (q' := 20) C wc_16 kF_Re_36 (is_16 hr) (by decide) rfl dd_Re_takeSend_1 rfl ?_
  refine cw_getr (q' := 24) C wc_5 kF_Re_126 is_5 (by decide) rfl dd_Re_takeSend_4 rfl ?_
  refine cw_iload_n C dd_Re_takeSend_7 rfl ?_
  refine nw_iald C is_6 (by first | omega | (simp [wx_u] <;> omega)) (by decide) dd_Re_takeSend_8 ?_
  refine cw_istore_n C dd_Re_takeSend_9 (Nat.le_of_ble_eq_true rfl) ?_
  refine cw_aload_n C dd_Re_takeSend_10 rfl ?_
  refine cw_getr (q' := 20) C wc_16 kF_Re_36 (is_16 hr) (by decide) rfl dd_Re_takeSend_11 rfl ?_
  refine cw_getr (q' := 28) C wc_5 kF_Re_131 is_5 (by decide) rfl dd_Re_takeSend_14 rfl ?_
  refine cw_iload_n C dd_Re_takeSend_17 rfl ?_
  refine nw_iald C is_7 (by first | omega | (simp [wx_u] <;> omega)) (by decide) dd_Re_takeSend_18 ?_
  refine cw_istore C dd_Re_takeSend_19 (Nat.le_of_ble_eq_true rfl) ?_
  refine cw_iload_n C dd_Re_takeSend_21 rfl ?_
  refine cw_iload_n C dd_Re_takeSend_22 rfl ?_
  refine nw_icmp_ne (tgt := 54) C dd_Re_takeSend_23 (by decide) (by first | omega | (simp [wx_u] <;> omega)) (by first | omega | (simp [wx_u] <;> omega)) (fun h23 => ?_) (fun h23 => ?_)
  · exact cw_vreturn C dd_Re_takeSend_54 (Nat.le_of_ble_eq_true rfl) (Nat.le_of_ble_eq_true rfl) ⟨_, rfl, rfl, ⟨rfl, by first | exact (if_neg (fun z => h23 z.1)).symm | exact (if_neg (fun z => h34 z.2.1)).symm | exact (if_neg (fun z => z.2.2 h51)).symm⟩⟩
  · refine cw_aload_n C dd_Re_takeSend_26 rfl ?_
    refine cw_getr (q' := 20) C wc_16 kF_Re_36 (is_16 hr) (by decide) rfl dd_Re_takeSend_27 rfl ?_
    refine cw_iload_n C dd_Re_takeSend_30 rfl ?_
    refine cw_callV (As := [_]) C kV_Re_134 wc_5 is_5 dd_Re_takeSend_31 rfl rfl (Nat.le_of_ble_eq_true rfl) ⟨(Nat.le_of_ble_eq_true rfl), (Nat.le_of_ble_eq_true rfl)⟩ ⟨(Nat.le_of_ble_eq_true rfl), (Nat.le_of_ble_eq_true rfl)⟩ (mm_Ve_isWellFormed X u (by omega) (by omega) g1.2.2.2.1) (nw_ki ?_)
    refine nw_zeq (tgt := 54) C dd_Re_takeSend_34 (by decide) (fun h34 => ?_) (fun h34 => ?_)
    · exact cw_vreturn C dd_Re_takeSend_54 (Nat.le_of_ble_eq_true rfl) (Nat.le_of_ble_eq_true rfl) ⟨_, rfl, rfl, ⟨rfl, by first | exact (if_neg (fun z => h23 z.1)).symm | exact (if_neg (fun z => h34 z.2.1)).symm | exact (if_neg (fun z => z.2.2 h51)).symm⟩⟩
    · refine cw_aload_n C dd_Re_takeSend_37 rfl ?_
      refine cw_gets (b := 64) (b' := 68) C hr rfl wc_16 kF_Re_12 (is_16 hr) (by decide) rfl dd_Re_takeSend_38 rfl ?_
      refine cw_gets (b := 68) (b' := 76) C hr rfl wc_17 kF_Re_138 (is_17 hr) (by decide) rfl dd_Re_takeSend_41 rfl ?_
      refine cw_iload_n C dd_Re_takeSend_44 rfl ?_
      refine nw_iald C (is_19 hr) (by first | omega | (simp [wx_u] <;> omega)) (by decide) dd_Re_takeSend_45 ?_
      refine cw_iload C dd_Re_takeSend_46 rfl ?_
      refine cw_callSN (As := [_, _]) C kS_Re_141 dd_Re_takeSend_48 rfl rfl (Nat.le_of_ble_eq_true rfl) ⟨(Nat.le_of_ble_eq_true rfl), (Nat.le_of_ble_eq_true rfl)⟩ ⟨(Nat.le_of_ble_eq_true rfl), (Nat.le_of_ble_eq_true rfl)⟩ (mm_Le_contains X _ _ (by omega) (by omega)) (nw_ki ?_)
      refine nw_zeq (tgt := 55) C dd_Re_takeSend_51 (by decide) (fun h51 => ?_) (fun h51 => ?_)
      · refine cw_aload_n C dd_Re_takeSend_55 rfl ?_
        by_cases hcut : zc_cut X r
        · refine cw_callV (As := []) C kV_Re_145 wc_16 (is_16 hr) dd_Re_takeSend_56 rfl rfl (Nat.le_of_ble_eq_true rfl) ⟨(Nat.le_of_ble_eq_true rfl), (Nat.le_of_ble_eq_true rfl)⟩ ⟨(Nat.le_of_ble_eq_true rfl), (Nat.le_of_ble_eq_true rfl)⟩ (mm_Re_writeRecord_dn X r hr hc1 hc2 hcut) (nw_ki ?_)
          refine nw_if_eq (tgt := 92) C dd_Re_takeSend_59 (by decide) (by decide) (fun h59 => ?_) (fun h59 => ?_)
          · exact cw_vreturn C dd_Re_takeSend_92 (Nat.le_of_ble_eq_true rfl) (Nat.le_of_ble_eq_true rfl) ⟨_, rfl, rfl, ⟨rfl, by rw [zc_tkS, if_pos ⟨h23, h34, h51⟩, zc_ans]; first | (rw [if_pos hcut]; done) | (rw [if_neg hcut])⟩⟩
          · exact absurd rfl h59
        · refine cw_callV (As := []) C kV_Re_145 wc_16 (is_16 hr) dd_Re_takeSend_56 rfl rfl (Nat.le_of_ble_eq_true rfl) ⟨(Nat.le_of_ble_eq_true rfl), (Nat.le_of_ble_eq_true rfl)⟩ ⟨(Nat.le_of_ble_eq_true rfl), (Nat.le_of_ble_eq_true rfl)⟩ (mm_Re_writeRecord_ok X r hr hc1 hc2 hcut) (nw_ki ?_)
          refine nw_if_eq (tgt := 92) C dd_Re_takeSend_59 (by decide) (by decide) (fun h59 => ?_) (fun h59 => ?_)
          · exact absurd h59 (by decide)
          · refine cw_aload_n C dd_Re_takeSend_62 rfl ?_
            refine cw_gets (b := 64) (b' := 68) C hr rfl wc_16 kF_Re_12 (is_16 hr) (by decide) rfl dd_Re_takeSend_63 rfl ?_
            refine cw_gets (b := 68) (b' := 76) C hr rfl wc_17 kF_Re_138 (is_17 hr) (by decide) rfl dd_Re_takeSend_66 rfl ?_
            refine cw_iload_n C dd_Re_takeSend_69 rfl ?_
            refine cw_dup2 C dd_Re_takeSend_70 rfl rfl ?_
            refine nw_ialdv C (X (76 + r) (X 24 u)) (is_19 hr) (by omega) (by decide) dd_Re_takeSend_71 (zc_wrote_oth _ _ _ (by omega) (by omega)) ?_
            refine cw_iconst (v := nI 1) C dd_Re_takeSend_72 (by decide +kernel) ?_
            refine cw_iload C dd_Re_takeSend_73 rfl ?_
            refine nw_ishl C dd_Re_takeSend_75 (by first | omega | (simp [wx_u] <;> omega)) ?_
            refine nw_ior C dd_Re_takeSend_76 ?_
            rw [Nat.one_mul]
            refine nw_iast C (is_19 hr) (by first | omega | (simp [wx_u] <;> omega)) (by decide) dd_Re_takeSend_77 ?_
            refine cw_aload_n C dd_Re_takeSend_78 rfl ?_
            refine cw_getr (q' := 44) C wc_16 kF_Re_32 (is_16 hr) (by decide) rfl dd_Re_takeSend_79 rfl ?_
            refine cw_iconst (v := nI 1) C dd_Re_takeSend_82 (by decide +kernel) ?_
            refine cw_aload_n C dd_Re_takeSend_83 rfl ?_
            refine nw_getiv C r wc_16 kF_Re_29 (is_16 hr) (by decide) rfl dd_Re_takeSend_84 (by rw [wx_u_nc (by omega)]; rw [zc_wrote]; rw [wx_u_nc (by omega)]; split; exact hid; rw [wx_u_nk (by decide)]; exact hid) ?_
            refine cw_iload_n C dd_Re_takeSend_87 rfl ?_
            refine cw_callV (As := [_, _, _]) C kV_Re_149 wc_11 is_11 dd_Re_takeSend_88 rfl rfl (Nat.le_of_ble_eq_true rfl) ⟨(Nat.le_of_ble_eq_true rfl), (Nat.le_of_ble_eq_true rfl)⟩ ⟨(Nat.le_of_ble_eq_true rfl), (Nat.le_of_ble_eq_true rfl)⟩ (mm_Bo_post' _ _ _ _ (by rw [wx_u_nc (by omega), zc_wrote_oth _ _ _ (by omega) (by omega)]; exact hm)) (nw_ki ?_)
            refine cw_pop C dd_Re_takeSend_91 rfl ?_
            exact cw_vreturn C dd_Re_takeSend_92 (Nat.le_of_ble_eq_true rfl) (Nat.le_of_ble_eq_true rfl) ⟨_, rfl, rfl, ⟨rfl, by rw [zc_tkS, if_pos ⟨h23, h34, h51⟩, zc_ans]; first | (rw [if_pos hcut]; done) | (rw [if_neg hcut])⟩⟩
      · exact cw_vreturn C dd_Re_takeSend_54 (Nat.le_of_ble_eq_true rfl) (Nat.le_of_ble_eq_true rfl) ⟨_, rfl, rfl, ⟨rfl, by first | exact (if_neg (fun z => h23 z.1)).symm | exact (if_neg (fun z => h34 z.2.1)).symm | exact (if_neg (fun z => z.2.2 h51)).symm⟩⟩
set_option maxRecDepth 100000 in
set_option maxHeartbeats 4000000 in
theorem mm_Re_becomeReady (X : wx_S) (r : Nat) (hr : r < 4) (u : Nat) (hV : zc_V X) (hN : zc_N X r) (hu : u < X 20 5) (hm : X 44 3 < 802) : nw_M wd_all yy_Re_becomeReady cc_Re_becomeReady 4 none 5 0 0 [.ref (64 + r), .int (nI u)] X (fun v X' => v = none ∧ X' = zc_bec X r u) := by
  refine nw_of [some (.ref (64 + r)), some (.int (nI u)), none, none] (by decide +kernel) rfl (Nat.le_of_ble_eq_true rfl) rfl ?_
  intro p l e s m args below meth c A g C
  obtain ⟨hid, hc1, hc2, hdk, hnt⟩ := hN
  have g1 := hV.2.2.1 u hu
  have g2 := hV.1
  have g3 := hdk (X 24 u) g1.1
  refine cw_aload_n C dd_Re_becomeReady_0 rfl ?_
  refine cw_getr (q' := 20) C wc_16 kF_Re_36 (is_16 hr) (by decide) rfl dd_Re_becomeReady_1 rfl ?_
  refine cw_getr (q' := 24) C wc_5 kF_Re_126 is_5 (by decide) rfl dd_Re_becomeReady_4 rfl ?_
  refine cw_iload_n C dd_Re_becomeReady_7 rfl ?_
  refine nw_iald C is_6 (by first | omega | (simp [wx_u] <;> omega)) (by decide) dd_Re_becomeReady_8 ?_
  refine cw_istore_n C dd_Re_becomeReady_9 (Nat.le_of_ble_eq_true rfl) ?_
  refine cw_aload_n C dd_Re_becomeReady_10 rfl ?_
  refine cw_getr (q' := 20) C wc_16 kF_Re_36 (is_16 hr) (by decide) rfl dd_Re_becomeReady_11 rfl ?_
  refine cw_getr (q' := 28) C wc_5 kF_Re_131 is_5 (by decide) rfl dd_Re_becomeReady_14 rfl ?_
  refine cw_iload_n C dd_Re_becomeReady_17 rfl ?_
  refine nw_iald C is_7 (by first | omega | (simp [wx_u] <;> omega)) (by decide) dd_Re_becomeReady_18 ?_
  refine cw_istore_n C dd_Re_becomeReady_19 (Nat.le_of_ble_eq_true rfl) ?_
  refine cw_aload_n C dd_Re_becomeReady_20 rfl ?_
  refine cw_gets (b := 64) (b' := 68) C hr rfl wc_16 kF_Re_12 (is_16 hr) (by decide) rfl dd_Re_becomeReady_21 rfl ?_
  refine cw_gets (b := 68) (b' := 80) C hr rfl wc_17 kF_Re_163 (is_17 hr) (by decide) rfl dd_Re_becomeReady_24 rfl ?_
  refine cw_iload_n C dd_Re_becomeReady_27 rfl ?_
  refine nw_iald C (is_20 hr) (by first | omega | (simp [wx_u] <;> omega)) (by decide) dd_Re_becomeReady_28 ?_
  refine cw_iload_n C dd_Re_becomeReady_29 rfl ?_
  refine cw_callSN (As := [_, _]) C kS_Re_141 dd_Re_becomeReady_30 rfl rfl (Nat.le_of_ble_eq_true rfl) ⟨(Nat.le_of_ble_eq_true rfl), (Nat.le_of_ble_eq_true rfl)⟩ ⟨(Nat.le_of_ble_eq_true rfl), (Nat.le_of_ble_eq_true rfl)⟩ (mm_Le_contains X _ _ (by omega) (by omega)) (nw_ki ?_)
  refine nw_zeq (tgt := 37) C dd_Re_becomeReady_33 (by decide) (fun h33 => ?_) (fun h33 => ?_)
  · refine cw_aload_n C dd_Re_becomeReady_37 rfl ?_
    by_cases hcut : zc_cut X r
    · refine cw_callV (As := []) C kV_Re_145 wc_16 (is_16 hr) dd_Re_becomeReady_38 rfl rfl (Nat.le_of_ble_eq_true rfl) ⟨(Nat.le_of_ble_eq_true rfl), (Nat.le_of_ble_eq_true rfl)⟩ ⟨(Nat.le_of_ble_eq_true rfl), (Nat.le_of_ble_eq_true rfl)⟩ (mm_Re_writeRecord_dn X r hr hc1 hc2 hcut) (nw_ki ?_)
      refine nw_if_eq (tgt := 73) C dd_Re_becomeReady_41 (by decide) (by decide) (fun h41 => ?_) (fun h41 => ?_)
      · exact cw_vreturn C dd_Re_becomeReady_73 (Nat.le_of_ble_eq_true rfl) (Nat.le_of_ble_eq_true rfl) ⟨_, rfl, rfl, ⟨rfl, by rw [zc_bec, if_neg h33, zc_ans]; first | (rw [if_pos hcut]; done) | (rw [if_neg hcut])⟩⟩
      · exact absurd rfl h41
    · refine cw_callV (As := []) C kV_Re_145 wc_16 (is_16 hr) dd_Re_becomeReady_38 rfl rfl (Nat.le_of_ble_eq_true rfl) ⟨(Nat.le_of_ble_eq_true rfl), (Nat.le_of_ble_eq_true rfl)⟩ ⟨(Nat.le_of_ble_eq_true rfl), (Nat.le_of_ble_eq_true rfl)⟩ (mm_Re_writeRecord_ok X r hr hc1 hc2 hcut) (nw_ki ?_)
      refine nw_if_eq (tgt := 73) C dd_Re_becomeReady_41 (by decide) (by decide) (fun h41 => ?_) (fun h41 => ?_)
      · exact absurd h41 (by decide)
      · refine cw_aload_n C dd_Re_becomeReady_44 rfl ?_
        refine cw_gets (b := 64) (b' := 68) C hr rfl wc_16 kF_Re_12 (is_16 hr) (by decide) rfl dd_Re_becomeReady_45 rfl ?_
        refine cw_gets (b := 68) (b' := 80) C hr rfl wc_17 kF_Re_163 (is_17 hr) (by decide) rfl dd_Re_becomeReady_48 rfl ?_
        refine cw_iload_n C dd_Re_becomeReady_51 rfl ?_
        refine cw_dup2 C dd_Re_becomeReady_52 rfl rfl ?_
        refine nw_ialdv C (X (80 + r) (X 24 u)) (is_20 hr) (by omega) (by decide) dd_Re_becomeReady_53 (zc_wrote_oth _ _ _ (by omega) (by omega)) ?_
        refine cw_iconst (v := nI 1) C dd_Re_becomeReady_54 (by decide +kernel) ?_
        refine cw_iload_n C dd_Re_becomeReady_55 rfl ?_
        refine nw_ishl C dd_Re_becomeReady_56 (by first | omega | (simp [wx_u] <;> omega)) ?_
        refine nw_ior C dd_Re_becomeReady_57 ?_
        rw [Nat.one_mul]
        refine nw_iast C (is_20 hr) (by first | omega | (simp [wx_u] <;> omega)) (by decide) dd_Re_becomeReady_58 ?_
        refine cw_aload_n C dd_Re_becomeReady_59 rfl ?_
        refine cw_getr (q' := 44) C wc_16 kF_Re_32 (is_16 hr) (by decide) rfl dd_Re_becomeReady_60 rfl ?_
        refine cw_iconst (v := nI 2) C dd_Re_becomeReady_63 (by decide +kernel) ?_
        refine cw_aload_n C dd_Re_becomeReady_64 rfl ?_
        refine nw_getiv C r wc_16 kF_Re_29 (is_16 hr) (by decide) rfl dd_Re_becomeReady_65 (by rw [wx_u_nc (by omega)]; rw [zc_wrote]; rw [wx_u_nc (by omega)]; split; exact hid; rw [wx_u_nk (by decide)]; exact hid) ?_
        refine cw_iload_n C dd_Re_becomeReady_68 rfl ?_
        refine cw_callV (As := [_, _, _]) C kV_Re_149 wc_11 is_11 dd_Re_becomeReady_69 rfl rfl (Nat.le_of_ble_eq_true rfl) ⟨(Nat.le_of_ble_eq_true rfl), (Nat.le_of_ble_eq_true rfl)⟩ ⟨(Nat.le_of_ble_eq_true rfl), (Nat.le_of_ble_eq_true rfl)⟩ (mm_Bo_post' _ _ _ _ (by rw [wx_u_nc (by omega), zc_wrote_oth _ _ _ (by omega) (by omega)]; exact hm)) (nw_ki ?_)
        refine cw_pop C dd_Re_becomeReady_72 rfl ?_
        exact cw_vreturn C dd_Re_becomeReady_73 (Nat.le_of_ble_eq_true rfl) (Nat.le_of_ble_eq_true rfl) ⟨_, rfl, rfl, ⟨rfl, by rw [zc_bec, if_neg h33, zc_ans]; first | (rw [if_pos hcut]; done) | (rw [if_neg hcut])⟩⟩
  · exact cw_vreturn C dd_Re_becomeReady_36 (Nat.le_of_ble_eq_true rfl) (Nat.le_of_ble_eq_true rfl) ⟨_, rfl, rfl, ⟨rfl, (if_pos h33).symm⟩⟩
