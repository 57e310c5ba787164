def zm_spot (X : wx_S) (r u : Nat) : Nat := 60 * r + 4 * X 164 u + X 160 u
/-- an answer goes out: b the array of marks (208, 212), k the kind -/
def zm_ans (X : wx_S) (r b k u : Nat) : wx_S := if X 200 r = 0 then zm_fall X r else zm_say (wx_u (zm_wrote X r) b (zm_spot X r u) 1) r u k
def zm_tkS (X : wx_S) (r u q : Nat) : wx_S := if q = X 160 u ∧ zm_wf X u ∧ X 208 (zm_spot X r u) = 0 then zm_ans X r 208 1 u else X
def zm_rdy (X : wx_S) (r u : Nat) : wx_S := if X 212 (zm_spot X r u) = 0 then zm_ans X r 212 2 u else X
def zm_nE (X : wx_S) (r u q : Nat) : wx_S := wx_u X 232 (90 * r + u) (X 232 (90 * r + u) ||| 2 ^ q)
def zm_nR (X : wx_S) (r u q : Nat) : wx_S := wx_u X 236 (90 * r + u) (X 236 (90 * r + u) ||| 2 ^ q)
def zm_tkE (X : wx_S) (r u q : Nat) : wx_S := if 3 ≤ zn_ones (X 232 (90 * r + u) ||| 2 ^ q) then zm_rdy (zm_nE X r u q) r u else zm_nE X r u q
def zm_tkR (X : wx_S) (r u q : Nat) : wx_S := if 2 ≤ zn_ones (X 236 (90 * r + u) ||| 2 ^ q) then zm_rdy (zm_nR X r u q) r u else zm_nR X r u q
def zm_tk (X : wx_S) (r m : Nat) : wx_S := if X 188 m = 0 then zm_tkS X r (X 184 m) (X 180 m) else if X 188 m = 1 then zm_tkE X r (X 184 m) (X 180 m) else zm_tkR X r (X 184 m) (X 180 m)
def zm_take (X : wx_S) (r m : Nat) : wx_S := zm_act (zm_tk X r m) r
set_option maxRecDepth 100000 in
set_option maxHeartbeats 4000000 in
theorem mm_Mo_take (X : wx_S) (r : Nat) (hr : r < 4) (k : Nat) (hk8 : k < 840) (hV : zm_V X) (hu : X 184 k < X 136 7) (hq : X 180 k < 4) (hkd : X 188 k < 3) (hmm : X 136 13 < 840) (hc : X 200 r < 4294967296) (hen : ∀ i, i < 360 → X 232 i < 16 ∧ X 236 i < 16) (hmk : ∀ i, i < 240 → X 208 i < 4294967296 ∧ X 212 i < 4294967296) (I : wx_S → Prop) (hI : ∀ X, I X → zm_I0 X r) (hstep : ∀ X Y, I X → X 192 r = 1 → zm_step X r = some Y → I Y) (hX : I (zm_tk X r k)) : nw_M wd_all yy_Mo_take cc_Mo_take 6 none 6 0 0 [.ref 136, .int (nI r), .int (nI k)] X (fun v X' => v = none ∧ X' = zm_take X r k) := by
  refine nw_of [some (.ref 136), some (.int (nI r)), some (.int (nI k)), none, none, none] (by decide +kernel) rfl (Nat.le_of_ble_eq_true rfl) rfl ?_
  intro p l e s m args below meth c A g C
  have g0 := hV.1
  have g1 := hV.2.2.1 (X 184 k) hu
  have g2 := hmk (60 * r + 4 * X 164 (X 184 k) + X 160 (X 184 k)) (by omega)
  rcases (show X 188 k = 0 ∨ X 188 k = 1 ∨ X 188 k = 2 by omega) with hk | hk | hk
  · skip
    refine cw_aload_n C dd_Mo_take_0 rfl ?_
    refine cw_getr (q' := 180) C wc_34 kF_Mo_41 is_34 (by decide) rfl dd_Mo_take_1 rfl ?_
    refine cw_iload_n C dd_Mo_take_4 rfl ?_
    refine nw_iald C is_45 (by first | omega | (simp [wx_u] <;> omega)) (by decide) dd_Mo_take_5 ?_
    refine cw_istore_n C dd_Mo_take_6 (Nat.le_of_ble_eq_true rfl) ?_
    refine cw_aload_n C dd_Mo_take_7 rfl ?_
    refine cw_getr (q' := 184) C wc_34 kF_Mo_44 is_34 (by decide) rfl dd_Mo_take_8 rfl ?_
    refine cw_iload_n C dd_Mo_take_11 rfl ?_
    refine nw_iald C is_46 (by first | omega | (simp [wx_u] <;> omega)) (by decide) dd_Mo_take_12 ?_
    refine cw_istore C dd_Mo_take_13 (Nat.le_of_ble_eq_true rfl) ?_
    refine cw_aload_n C dd_Mo_take_15 rfl ?_
    refine cw_getr (q' := 188) C wc_34 kF_Mo_47 is_34 (by decide) rfl dd_Mo_take_16 rfl ?_
    refine cw_iload_n C dd_Mo_take_19 rfl ?_
    refine nw_iald C is_47 (by first | omega | (simp [wx_u] <;> omega)) (by decide) dd_Mo_take_20 ?_
    refine nw_if_ne (tgt := 92) C dd_Mo_take_21 (by decide) (by first | omega | (simp [wx_u] <;> omega)) (fun h21 => ?_) (fun h21 => ?_)
    · exact absurd hk h21
    · refine cw_iload_n C dd_Mo_take_24 rfl ?_
      refine cw_aload_n C dd_Mo_take_25 rfl ?_
      refine cw_getr (q' := 160) C wc_34 kF_Mo_26 is_34 (by decide) rfl dd_Mo_take_26 rfl ?_
      refine cw_iload C dd_Mo_take_29 rfl ?_
      refine nw_iald C is_40 (by first | omega | (simp [wx_u] <;> omega)) (by decide) dd_Mo_take_31 ?_
      refine nw_icmp_ne (tgt := 254) C dd_Mo_take_32 (by decide) (by first | omega | (simp [wx_u] <;> omega)) (by first | omega | (simp [wx_u] <;> omega)) (fun h32 => ?_) (fun h32 => ?_)
      · refine cw_aload_n C dd_Mo_take_254 rfl ?_
        refine cw_iload_n C dd_Mo_take_255 rfl ?_
        refine cw_callV (As := [_]) C kV_Mo_134 wc_34 is_34 dd_Mo_take_256 rfl rfl (Nat.le_of_ble_eq_true rfl) ⟨(Nat.le_of_ble_eq_true rfl), (Nat.le_of_ble_eq_true rfl)⟩ ⟨(Nat.le_of_ble_eq_true rfl), (Nat.le_of_ble_eq_true rfl)⟩ (mm_Mo_act _ r hr I hI hstep (by have h9 := hX; rw [zm_tk, if_pos hk, zm_tkS, if_neg (fun z => h32 z.1)] at h9; exact h9)) (nw_kv ?_)
        exact cw_vreturn C dd_Mo_take_259 (Nat.le_of_ble_eq_true rfl) (Nat.le_of_ble_eq_true rfl) ⟨_, rfl, rfl, ⟨rfl, by first | (rw [zm_take, zm_tk, if_pos hk, zm_tkS, if_neg (fun z => h32 z.1)]; done) | (rw [zm_take, zm_tk, if_pos hk, zm_tkS, if_neg (fun z => h32 z.1)]; rfl)⟩⟩
      · refine cw_aload_n C dd_Mo_take_35 rfl ?_
        refine cw_iload C dd_Mo_take_36 rfl ?_
        refine cw_callV (As := [_]) C kV_Mo_119 wc_34 is_34 dd_Mo_take_38 rfl rfl (Nat.le_of_ble_eq_true rfl) ⟨(Nat.le_of_ble_eq_true rfl), (Nat.le_of_ble_eq_true rfl)⟩ ⟨(Nat.le_of_ble_eq_true rfl), (Nat.le_of_ble_eq_true rfl)⟩ (mm_Mo_formed X (X 184 k) (by omega) (by omega) g1.2.2.2.1) (nw_ki ?_)
        refine nw_zeq (tgt := 254) C dd_Mo_take_41 (by decide) (fun h41 => ?_) (fun h41 => ?_)
        · refine cw_aload_n C dd_Mo_take_254 rfl ?_
          refine cw_iload_n C dd_Mo_take_255 rfl ?_
          refine cw_callV (As := [_]) C kV_Mo_134 wc_34 is_34 dd_Mo_take_256 rfl rfl (Nat.le_of_ble_eq_true rfl) ⟨(Nat.le_of_ble_eq_true rfl), (Nat.le_of_ble_eq_true rfl)⟩ ⟨(Nat.le_of_ble_eq_true rfl), (Nat.le_of_ble_eq_true rfl)⟩ (mm_Mo_act _ r hr I hI hstep (by have h9 := hX; rw [zm_tk, if_pos hk, zm_tkS, if_neg (fun z => h41 z.2.1)] at h9; exact h9)) (nw_kv ?_)
          exact cw_vreturn C dd_Mo_take_259 (Nat.le_of_ble_eq_true rfl) (Nat.le_of_ble_eq_true rfl) ⟨_, rfl, rfl, ⟨rfl, by first | (rw [zm_take, zm_tk, if_pos hk, zm_tkS, if_neg (fun z => h41 z.2.1)]; done) | (rw [zm_take, zm_tk, if_pos hk, zm_tkS, if_neg (fun z => h41 z.2.1)]; rfl)⟩⟩
        · refine cw_aload_n C dd_Mo_take_44 rfl ?_
          refine cw_getr (q' := 208) C wc_34 kF_Mo_62 is_34 (by decide) rfl dd_Mo_take_45 rfl ?_
          refine cw_aload_n C dd_Mo_take_48 rfl ?_
          refine cw_iload_n C dd_Mo_take_49 rfl ?_
          refine cw_iload C dd_Mo_take_50 rfl ?_
          refine cw_callV (As := [_, _]) C kV_Mo_123 wc_34 is_34 dd_Mo_take_52 rfl rfl (Nat.le_of_ble_eq_true rfl) ⟨(Nat.le_of_ble_eq_true rfl), (Nat.le_of_ble_eq_true rfl)⟩ ⟨(Nat.le_of_ble_eq_true rfl), (Nat.le_of_ble_eq_true rfl)⟩ (mm_Mo_spot X r (X 184 k) (by omega)) (nw_ki ?_)
          refine nw_zald C is_52 (by first | omega | (simp [wx_u] <;> omega)) (by decide) dd_Mo_take_55 ?_
          refine nw_if_ne (tgt := 254) C dd_Mo_take_56 (by decide) (by first | omega | (simp [wx_u] <;> omega)) (fun h56 => ?_) (fun h56 => ?_)
          · refine cw_aload_n C dd_Mo_take_254 rfl ?_
            refine cw_iload_n C dd_Mo_take_255 rfl ?_
            refine cw_callV (As := [_]) C kV_Mo_134 wc_34 is_34 dd_Mo_take_256 rfl rfl (Nat.le_of_ble_eq_true rfl) ⟨(Nat.le_of_ble_eq_true rfl), (Nat.le_of_ble_eq_true rfl)⟩ ⟨(Nat.le_of_ble_eq_true rfl), (Nat.le_of_ble_eq_true rfl)⟩ (mm_Mo_act _ r hr I hI hstep (by have h9 := hX; rw [zm_tk, if_pos hk, zm_tkS, if_neg (fun z => h56 z.2.2)] at h9; exact h9)) (nw_kv ?_)
            exact cw_vreturn C dd_Mo_take_259 (Nat.le_of_ble_eq_true rfl) (Nat.le_of_ble_eq_true rfl) ⟨_, rfl, rfl, ⟨rfl, by first | (rw [zm_take, zm_tk, if_pos hk, zm_tkS, if_neg (fun z => h56 z.2.2)]; done) | (rw [zm_take, zm_tk, if_pos hk, zm_tkS, if_neg (fun z => h56 z.2.2)]; rfl)⟩⟩
          · refine cw_aload_n C dd_Mo_take_59 rfl ?_
            refine cw_iload_n C dd_Mo_take_60 rfl ?_
            by_cases hcut : X 200 r = 0
            · refine cw_callV (As := [_]) C kV_Mo_127 wc_34 is_34 dd_Mo_take_61 rfl rfl (Nat.le_of_ble_eq_true rfl) ⟨(Nat.le_of_ble_eq_true rfl), (Nat.le_of_ble_eq_true rfl)⟩ ⟨(Nat.le_of_ble_eq_true rfl), (Nat.le_of_ble_eq_true rfl)⟩ (mm_Mo_record_dn X r hr (by first | exact hcut | (rw [wx_u_nc (by decide)]; exact hcut))) (nw_ki ?_)
              refine nw_if_eq (tgt := 254) C dd_Mo_take_64 (by decide) (by decide) (fun h64 => ?_) (fun h64 => ?_)
              · refine cw_aload_n C dd_Mo_take_254 rfl ?_
                refine cw_iload_n C dd_Mo_take_255 rfl ?_
                refine cw_callV (As := [_]) C kV_Mo_134 wc_34 is_34 dd_Mo_take_256 rfl rfl (Nat.le_of_ble_eq_true rfl) ⟨(Nat.le_of_ble_eq_true rfl), (Nat.le_of_ble_eq_true rfl)⟩ ⟨(Nat.le_of_ble_eq_true rfl), (Nat.le_of_ble_eq_true rfl)⟩ (mm_Mo_act _ r hr I hI hstep (by have h9 := hX; rw [zm_tk, if_pos hk, zm_tkS, if_pos ⟨h32, h41, h56⟩, zm_ans, if_pos hcut] at h9; exact h9)) (nw_kv ?_)
                exact cw_vreturn C dd_Mo_take_259 (Nat.le_of_ble_eq_true rfl) (Nat.le_of_ble_eq_true rfl) ⟨_, rfl, rfl, ⟨rfl, by first | (rw [zm_take, zm_tk, if_pos hk, zm_tkS, if_pos ⟨h32, h41, h56⟩, zm_ans, if_pos hcut]; done) | (rw [zm_take, zm_tk, if_pos hk, zm_tkS, if_pos ⟨h32, h41, h56⟩, zm_ans, if_pos hcut]; rfl)⟩⟩
              · exact absurd rfl h64
            · refine cw_callV (As := [_]) C kV_Mo_127 wc_34 is_34 dd_Mo_take_61 rfl rfl (Nat.le_of_ble_eq_true rfl) ⟨(Nat.le_of_ble_eq_true rfl), (Nat.le_of_ble_eq_true rfl)⟩ ⟨(Nat.le_of_ble_eq_true rfl), (Nat.le_of_ble_eq_true rfl)⟩ (mm_Mo_record_ok X r hr (by first | exact hcut | (rw [wx_u_nc (by decide)]; exact hcut)) (by first | exact hc | (rw [wx_u_nc (by decide)]; exact hc))) (nw_ki ?_)
              refine nw_if_eq (tgt := 254) C dd_Mo_take_64 (by decide) (by decide) (fun h64 => ?_) (fun h64 => ?_)
              · exact absurd h64 (by decide)
              · refine cw_aload_n C dd_Mo_take_67 rfl ?_
                refine cw_getr (q' := 208) C wc_34 kF_Mo_62 is_34 (by decide) rfl dd_Mo_take_68 rfl ?_
                refine cw_aload_n C dd_Mo_take_71 rfl ?_
                refine cw_iload_n C dd_Mo_take_72 rfl ?_
                refine cw_iload C dd_Mo_take_73 rfl ?_
                refine cw_callV (As := [_, _]) C kV_Mo_123 wc_34 is_34 dd_Mo_take_75 rfl rfl (Nat.le_of_ble_eq_true rfl) ⟨(Nat.le_of_ble_eq_true rfl), (Nat.le_of_ble_eq_true rfl)⟩ ⟨(Nat.le_of_ble_eq_true rfl), (Nat.le_of_ble_eq_true rfl)⟩ (mm_Mo_spot _ r (X 184 k) (by omega)) (nw_ki ?_)
                rw [zm_wrote_oth _ _ _ (by decide) (by decide), zm_wrote_oth _ _ _ (by decide) (by decide)]
                refine cw_iconst (v := nI 1) C dd_Mo_take_78 (by decide +kernel) ?_
                refine nw_zast C is_52 (by omega) (by decide) (by decide) dd_Mo_take_79 ?_
                refine cw_aload_n C dd_Mo_take_80 rfl ?_
                refine cw_iload_n C dd_Mo_take_81 rfl ?_
                refine cw_iload C dd_Mo_take_82 rfl ?_
                refine cw_iconst (v := nI 1) C dd_Mo_take_84 (by decide +kernel) ?_
                refine cw_callV (As := [_, _, _]) C kV_Mo_130 wc_34 is_34 dd_Mo_take_85 rfl rfl (Nat.le_of_ble_eq_true rfl) ⟨(Nat.le_of_ble_eq_true rfl), (Nat.le_of_ble_eq_true rfl)⟩ ⟨(Nat.le_of_ble_eq_true rfl), (Nat.le_of_ble_eq_true rfl)⟩ (mm_Mo_say _ _ _ _ (by rw [wx_u_nc (by decide), zm_wrote_oth _ _ _ (by decide) (by decide)]; exact hmm)) (nw_ki ?_)
                refine cw_pop C dd_Mo_take_88 rfl ?_
                refine cw_goto (tgt := 254) C dd_Mo_take_89 (by decide) ?_
                refine cw_aload_n C dd_Mo_take_254 rfl ?_
                refine cw_iload_n C dd_Mo_take_255 rfl ?_
                refine cw_callV (As := [_]) C kV_Mo_134 wc_34 is_34 dd_Mo_take_256 rfl rfl (Nat.le_of_ble_eq_true rfl) ⟨(Nat.le_of_ble_eq_true rfl), (Nat.le_of_ble_eq_true rfl)⟩ ⟨(Nat.le_of_ble_eq_true rfl), (Nat.le_of_ble_eq_true rfl)⟩ (mm_Mo_act _ r hr I hI hstep (by have h9 := hX; rw [zm_tk, if_pos hk, zm_tkS, if_pos ⟨h32, h41, h56⟩, zm_ans, if_neg hcut] at h9; exact h9)) (nw_kv ?_)
                exact cw_vreturn C dd_Mo_take_259 (Nat.le_of_ble_eq_true rfl) (Nat.le_of_ble_eq_true rfl) ⟨_, rfl, rfl, ⟨rfl, by first | (rw [zm_take, zm_tk, if_pos hk, zm_tkS, if_pos ⟨h32, h41, h56⟩, zm_ans, if_neg hcut]; done) | (rw [zm_take, zm_tk, if_pos hk, zm_tkS, if_pos ⟨h32, h41, h56⟩, zm_ans, if_neg hcut]; rfl)⟩⟩
  · have g5 : X 232 (90 * r + (X 184 k)) ||| 2 ^ (X 180 k) < 16 := zn_or16 (hen (90 * r + (X 184 k)) (by omega)).1 (zn_pow4 hq)
    have g6 := zn_ones_le (X 232 (90 * r + (X 184 k)) ||| 2 ^ (X 180 k))
    refine cw_aload_n C dd_Mo_take_0 rfl ?_
    refine cw_getr (q' := 180) C wc_34 kF_Mo_41 is_34 (by decide) rfl dd_Mo_take_1 rfl ?_
    refine cw_iload_n C dd_Mo_take_4 rfl ?_
    refine nw_iald C is_45 (by first | omega | (simp [wx_u] <;> omega)) (by decide) dd_Mo_take_5 ?_
    refine cw_istore_n C dd_Mo_take_6 (Nat.le_of_ble_eq_true rfl) ?_
    refine cw_aload_n C dd_Mo_take_7 rfl ?_
    refine cw_getr (q' := 184) C wc_34 kF_Mo_44 is_34 (by decide) rfl dd_Mo_take_8 rfl ?_
    refine cw_iload_n C dd_Mo_take_11 rfl ?_
    refine nw_iald C is_46 (by first | omega | (simp [wx_u] <;> omega)) (by decide) dd_Mo_take_12 ?_
    refine cw_istore C dd_Mo_take_13 (Nat.le_of_ble_eq_true rfl) ?_
    refine cw_aload_n C dd_Mo_take_15 rfl ?_
    refine cw_getr (q' := 188) C wc_34 kF_Mo_47 is_34 (by decide) rfl dd_Mo_take_16 rfl ?_
    refine cw_iload_n C dd_Mo_take_19 rfl ?_
    refine nw_iald C is_47 (by first | omega | (simp [wx_u] <;> omega)) (by decide) dd_Mo_take_20 ?_
    refine nw_if_ne (tgt := 92) C dd_Mo_take_21 (by decide) (by first | omega | (simp [wx_u] <;> omega)) (fun h21 => ?_) (fun h21 => ?_)
    · refine cw_aload_n C dd_Mo_take_92 rfl ?_
      refine cw_getr (q' := 188) C wc_34 kF_Mo_47 is_34 (by decide) rfl dd_Mo_take_93 rfl ?_
      refine cw_iload_n C dd_Mo_take_96 rfl ?_
      refine nw_iald C is_47 (by first | omega | (simp [wx_u] <;> omega)) (by decide) dd_Mo_take_97 ?_
      refine cw_iconst (v := nI 1) C dd_Mo_take_98 (by decide +kernel) ?_
      refine nw_icmp_ne (tgt := 123) C dd_Mo_take_99 (by decide) (by first | omega | (simp [wx_u] <;> omega)) (by first | omega | (simp [wx_u] <;> omega)) (fun h99 => ?_) (fun h99 => ?_)
      · exact absurd h99 (by omega)
      · refine cw_aload_n C dd_Mo_take_102 rfl ?_
        refine cw_getr (q' := 232) C wc_34 kF_Mo_80 is_34 (by decide) rfl dd_Mo_take_103 rfl ?_
        refine cw_bipush (v := nI 90) C dd_Mo_take_106 (by decide +kernel) ?_
        refine cw_iload_n C dd_Mo_take_108 rfl ?_
        refine nw_imul C dd_Mo_take_109 ?_
        refine cw_iload C dd_Mo_take_110 rfl ?_
        refine nw_iadd C dd_Mo_take_112 ?_
        refine cw_dup2 C dd_Mo_take_113 rfl rfl ?_
        refine nw_iald C is_58 (by first | omega | (simp [wx_u] <;> omega)) (by decide) dd_Mo_take_114 ?_
        refine cw_iconst (v := nI 1) C dd_Mo_take_115 (by decide +kernel) ?_
        refine cw_iload_n C dd_Mo_take_116 rfl ?_
        refine nw_ishl C dd_Mo_take_117 (by first | omega | (simp [wx_u] <;> omega)) ?_
        refine nw_ior C dd_Mo_take_118 ?_
        rw [Nat.one_mul]
        refine nw_iast C is_58 (by first | omega | (simp [wx_u] <;> omega)) (by decide) dd_Mo_take_119 ?_
        refine cw_goto (tgt := 141) C dd_Mo_take_120 (by decide) ?_
        refine cw_aload_n C dd_Mo_take_141 rfl ?_
        refine cw_getr (q' := 188) C wc_34 kF_Mo_47 is_34 (by decide) rfl dd_Mo_take_142 rfl ?_
        refine cw_iload_n C dd_Mo_take_145 rfl ?_
        refine nw_ialdv C (X 188 k) is_47 (by first | omega | (simp [wx_u] <;> omega)) (by decide) dd_Mo_take_146 (by repeat (first | rfl | rw [wx_u_eq] | rw [wx_u_nc (by omega)] | rw [wx_u_nk (by omega)])) ?_
        refine cw_iconst (v := nI 1) C dd_Mo_take_147 (by decide +kernel) ?_
        refine nw_icmp_ne (tgt := 178) C dd_Mo_take_148 (by decide) (by first | omega | (simp [wx_u] <;> omega)) (by first | omega | (simp [wx_u] <;> omega)) (fun h148 => ?_) (fun h148 => ?_)
        · exact absurd h148 (by omega)
        · refine cw_aload_n C dd_Mo_take_151 rfl ?_
          refine cw_getr (q' := 232) C wc_34 kF_Mo_80 is_34 (by decide) rfl dd_Mo_take_152 rfl ?_
          refine cw_bipush (v := nI 90) C dd_Mo_take_155 (by decide +kernel) ?_
          refine cw_iload_n C dd_Mo_take_157 rfl ?_
          refine nw_imul C dd_Mo_take_158 ?_
          refine cw_iload C dd_Mo_take_159 rfl ?_
          refine nw_iadd C dd_Mo_take_161 ?_
          refine nw_ialdv C (X 232 (90 * r + (X 184 k)) ||| 2 ^ (X 180 k)) is_58 (by omega) (by decide) dd_Mo_take_162 (wx_u_eq _ _ _ _) ?_
          refine cw_callS (As := [_]) C kS_Mo_115 dd_Mo_take_163 rfl rfl (Nat.le_of_ble_eq_true rfl) ⟨(Nat.le_of_ble_eq_true rfl), (Nat.le_of_ble_eq_true rfl)⟩ ⟨(Nat.le_of_ble_eq_true rfl), (Nat.le_of_ble_eq_true rfl)⟩ (mm_Mo_ones _ _ (by omega)) (nw_ki ?_)
          refine cw_iconst (v := nI 3) C dd_Mo_take_166 (by decide +kernel) ?_
          refine nw_icmp_lt (tgt := 174) C dd_Mo_take_167 (by decide) (by first | omega | (simp [wx_u] <;> omega)) (by first | omega | (simp [wx_u] <;> omega)) (fun h167 => ?_) (fun h167 => ?_)
          · refine cw_iconst (v := nI 0) C dd_Mo_take_174 (by decide +kernel) ?_
            refine cw_goto (tgt := 202) C dd_Mo_take_175 (by decide) ?_
            refine cw_istore C dd_Mo_take_202 (Nat.le_of_ble_eq_true rfl) ?_
            refine cw_iload C dd_Mo_take_204 rfl ?_
            refine nw_if_eq (tgt := 254) C dd_Mo_take_206 (by decide) (by decide) (fun h206 => ?_) (fun h206 => ?_)
            · refine cw_aload_n C dd_Mo_take_254 rfl ?_
              refine cw_iload_n C dd_Mo_take_255 rfl ?_
              refine cw_callV (As := [_]) C kV_Mo_134 wc_34 is_34 dd_Mo_take_256 rfl rfl (Nat.le_of_ble_eq_true rfl) ⟨(Nat.le_of_ble_eq_true rfl), (Nat.le_of_ble_eq_true rfl)⟩ ⟨(Nat.le_of_ble_eq_true rfl), (Nat.le_of_ble_eq_true rfl)⟩ (mm_Mo_act _ r hr I hI hstep (by have h9 := hX; rw [zm_tk, if_neg (by omega), if_pos hk, zm_tkE, if_neg (by omega)] at h9; exact h9)) (nw_kv ?_)
              exact cw_vreturn C dd_Mo_take_259 (Nat.le_of_ble_eq_true rfl) (Nat.le_of_ble_eq_true rfl) ⟨_, rfl, rfl, ⟨rfl, by rw [zm_take, zm_tk, if_neg (by omega), if_pos hk, zm_tkE, if_neg (by omega)]; rfl⟩⟩
            · exact absurd rfl h206
          · refine cw_iconst (v := nI 1) C dd_Mo_take_170 (by decide +kernel) ?_
            refine cw_goto (tgt := 202) C dd_Mo_take_171 (by decide) ?_
            refine cw_istore C dd_Mo_take_202 (Nat.le_of_ble_eq_true rfl) ?_
            refine cw_iload C dd_Mo_take_204 rfl ?_
            refine nw_if_eq (tgt := 254) C dd_Mo_take_206 (by decide) (by decide) (fun h206 => ?_) (fun h206 => ?_)
            · exact absurd h206 (by decide)
            · refine cw_aload_n C dd_Mo_take_209 rfl ?_
              refine cw_getr (q' := 212) C wc_34 kF_Mo_65 is_34 (by decide) rfl dd_Mo_take_210 rfl ?_
              refine cw_aload_n C dd_Mo_take_213 rfl ?_
              refine cw_iload_n C dd_Mo_take_214 rfl ?_
              refine cw_iload C dd_Mo_take_215 rfl ?_
              refine cw_callV (As := [_, _]) C kV_Mo_123 wc_34 is_34 dd_Mo_take_217 rfl rfl (Nat.le_of_ble_eq_true rfl) ⟨(Nat.le_of_ble_eq_true rfl), (Nat.le_of_ble_eq_true rfl)⟩ ⟨(Nat.le_of_ble_eq_true rfl), (Nat.le_of_ble_eq_true rfl)⟩ (mm_Mo_spot _ r (X 184 k) (by omega)) (nw_ki ?_)
              rw [wx_u_nc (c := 232) (c' := 164) (by decide), wx_u_nc (c := 232) (c' := 160) (by decide)]
              refine nw_zaldv C (X 212 (60 * r + 4 * X 164 (X 184 k) + X 160 (X 184 k))) is_53 (by omega) (by decide) dd_Mo_take_220 (wx_u_nc (by decide)) ?_
              refine nw_if_ne (tgt := 254) C dd_Mo_take_221 (by decide) (by first | omega | (simp [wx_u] <;> omega)) (fun h221 => ?_) (fun h221 => ?_)
              · refine cw_aload_n C dd_Mo_take_254 rfl ?_
                refine cw_iload_n C dd_Mo_take_255 rfl ?_
                refine cw_callV (As := [_]) C kV_Mo_134 wc_34 is_34 dd_Mo_take_256 rfl rfl (Nat.le_of_ble_eq_true rfl) ⟨(Nat.le_of_ble_eq_true rfl), (Nat.le_of_ble_eq_true rfl)⟩ ⟨(Nat.le_of_ble_eq_true rfl), (Nat.le_of_ble_eq_true rfl)⟩ (mm_Mo_act _ r hr I hI hstep (by have h9 := hX; rw [zm_tk, if_neg (by omega), if_pos hk, zm_tkE, if_pos (by omega), zm_rdy, if_neg (fun z => h221 (by rw [← z, zm_spot, zm_nE, wx_u_nc (c := 232) (c' := 212) (by decide), wx_u_nc (c := 232) (c' := 164) (by decide), wx_u_nc (c := 232) (c' := 160) (by decide)]))] at h9; exact h9)) (nw_kv ?_)
                exact cw_vreturn C dd_Mo_take_259 (Nat.le_of_ble_eq_true rfl) (Nat.le_of_ble_eq_true rfl) ⟨_, rfl, rfl, ⟨rfl, by rw [zm_take, zm_tk, if_neg (by omega), if_pos hk, zm_tkE, if_pos (by omega), zm_rdy, if_neg (fun z => h221 (by rw [← z, zm_spot, zm_nE, wx_u_nc (c := 232) (c' := 212) (by decide), wx_u_nc (c := 232) (c' := 164) (by decide), wx_u_nc (c := 232) (c' := 160) (by decide)]))]; rfl⟩⟩
              · refine cw_aload_n C dd_Mo_take_224 rfl ?_
                refine cw_iload_n C dd_Mo_take_225 rfl ?_
                by_cases hcut : X 200 r = 0
                · refine cw_callV (As := [_]) C kV_Mo_127 wc_34 is_34 dd_Mo_take_226 rfl rfl (Nat.le_of_ble_eq_true rfl) ⟨(Nat.le_of_ble_eq_true rfl), (Nat.le_of_ble_eq_true rfl)⟩ ⟨(Nat.le_of_ble_eq_true rfl), (Nat.le_of_ble_eq_true rfl)⟩ (mm_Mo_record_dn (wx_u X 232 (90 * r + (X 184 k)) (X 232 (90 * r + (X 184 k)) ||| 2 ^ (X 180 k))) r hr (by first | exact hcut | (rw [wx_u_nc (by decide)]; exact hcut))) (nw_ki ?_)
                  refine nw_if_eq (tgt := 254) C dd_Mo_take_229 (by decide) (by decide) (fun h229 => ?_) (fun h229 => ?_)
                  · refine cw_aload_n C dd_Mo_take_254 rfl ?_
                    refine cw_iload_n C dd_Mo_take_255 rfl ?_
                    refine cw_callV (As := [_]) C kV_Mo_134 wc_34 is_34 dd_Mo_take_256 rfl rfl (Nat.le_of_ble_eq_true rfl) ⟨(Nat.le_of_ble_eq_true rfl), (Nat.le_of_ble_eq_true rfl)⟩ ⟨(Nat.le_of_ble_eq_true rfl), (Nat.le_of_ble_eq_true rfl)⟩ (mm_Mo_act _ r hr I hI hstep (by have h9 := hX; rw [zm_tk, if_neg (by omega), if_pos hk, zm_tkE, if_pos (by omega), zm_rdy, if_pos (by rw [← h221, zm_spot, zm_nE, wx_u_nc (c := 232) (c' := 212) (by decide), wx_u_nc (c := 232) (c' := 164) (by decide), wx_u_nc (c := 232) (c' := 160) (by decide)]), zm_ans, if_pos (by rw [← hcut, zm_nE, wx_u_nc (by decide)])] at h9; exact h9)) (nw_kv ?_)
                    exact cw_vreturn C dd_Mo_take_259 (Nat.le_of_ble_eq_true rfl) (Nat.le_of_ble_eq_true rfl) ⟨_, rfl, rfl, ⟨rfl, by rw [zm_take, zm_tk, if_neg (by omega), if_pos hk, zm_tkE, if_pos (by omega), zm_rdy, if_pos (by rw [← h221, zm_spot, zm_nE, wx_u_nc (c := 232) (c' := 212) (by decide), wx_u_nc (c := 232) (c' := 164) (by decide), wx_u_nc (c := 232) (c' := 160) (by decide)]), zm_ans, if_pos (by rw [← hcut, zm_nE, wx_u_nc (by decide)])]; rfl⟩⟩
                  · exact absurd rfl h229
                · refine cw_callV (As := [_]) C kV_Mo_127 wc_34 is_34 dd_Mo_take_226 rfl rfl (Nat.le_of_ble_eq_true rfl) ⟨(Nat.le_of_ble_eq_true rfl), (Nat.le_of_ble_eq_true rfl)⟩ ⟨(Nat.le_of_ble_eq_true rfl), (Nat.le_of_ble_eq_true rfl)⟩ (mm_Mo_record_ok (wx_u X 232 (90 * r + (X 184 k)) (X 232 (90 * r + (X 184 k)) ||| 2 ^ (X 180 k))) r hr (by first | exact hcut | (rw [wx_u_nc (by decide)]; exact hcut)) (by first | exact hc | (rw [wx_u_nc (by decide)]; exact hc))) (nw_ki ?_)
                  refine nw_if_eq (tgt := 254) C dd_Mo_take_229 (by decide) (by decide) (fun h229 => ?_) (fun h229 => ?_)
                  · exact absurd h229 (by decide)
                  · refine cw_aload_n C dd_Mo_take_232 rfl ?_
                    refine cw_getr (q' := 212) C wc_34 kF_Mo_65 is_34 (by decide) rfl dd_Mo_take_233 rfl ?_
                    refine cw_aload_n C dd_Mo_take_236 rfl ?_
                    refine cw_iload_n C dd_Mo_take_237 rfl ?_
                    refine cw_iload C dd_Mo_take_238 rfl ?_
                    refine cw_callV (As := [_, _]) C kV_Mo_123 wc_34 is_34 dd_Mo_take_240 rfl rfl (Nat.le_of_ble_eq_true rfl) ⟨(Nat.le_of_ble_eq_true rfl), (Nat.le_of_ble_eq_true rfl)⟩ ⟨(Nat.le_of_ble_eq_true rfl), (Nat.le_of_ble_eq_true rfl)⟩ (mm_Mo_spot _ r (X 184 k) (by omega)) (nw_ki ?_)
                    rw [zm_wrote_oth _ _ _ (by decide) (by decide), zm_wrote_oth _ _ _ (by decide) (by decide), wx_u_nc (c := 232) (c' := 164) (by decide), wx_u_nc (c := 232) (c' := 160) (by decide)]
                    refine cw_iconst (v := nI 1) C dd_Mo_take_243 (by decide +kernel) ?_
                    refine nw_zast C is_53 (by omega) (by decide) (by decide) dd_Mo_take_244 ?_
                    refine cw_aload_n C dd_Mo_take_245 rfl ?_
                    refine cw_iload_n C dd_Mo_take_246 rfl ?_
                    refine cw_iload C dd_Mo_take_247 rfl ?_
                    refine cw_iconst (v := nI 2) C dd_Mo_take_249 (by decide +kernel) ?_
                    refine cw_callV (As := [_, _, _]) C kV_Mo_130 wc_34 is_34 dd_Mo_take_250 rfl rfl (Nat.le_of_ble_eq_true rfl) ⟨(Nat.le_of_ble_eq_true rfl), (Nat.le_of_ble_eq_true rfl)⟩ ⟨(Nat.le_of_ble_eq_true rfl), (Nat.le_of_ble_eq_true rfl)⟩ (mm_Mo_say _ _ _ _ (by rw [wx_u_nc (by decide), zm_wrote_oth _ _ _ (by decide) (by decide), wx_u_nc (by decide)]; exact hmm)) (nw_ki ?_)
                    refine cw_pop C dd_Mo_take_253 rfl ?_
                    refine cw_aload_n C dd_Mo_take_254 rfl ?_
                    refine cw_iload_n C dd_Mo_take_255 rfl ?_
                    have e7 : zm_spot (zm_nE X r (X 184 k) (X 180 k)) r (X 184 k) = (60 * r + 4 * X 164 (X 184 k) + X 160 (X 184 k)) := by rw [zm_spot, zm_nE, wx_u_nc (by decide), wx_u_nc (by decide)]
                    refine cw_callV (As := [_]) C kV_Mo_134 wc_34 is_34 dd_Mo_take_256 rfl rfl (Nat.le_of_ble_eq_true rfl) ⟨(Nat.le_of_ble_eq_true rfl), (Nat.le_of_ble_eq_true rfl)⟩ ⟨(Nat.le_of_ble_eq_true rfl), (Nat.le_of_ble_eq_true rfl)⟩ (mm_Mo_act _ r hr I hI hstep (by have h9 := hX; rw [zm_tk, if_neg (by omega), if_pos hk, zm_tkE, if_pos (by omega), zm_rdy, if_pos (by rw [← h221, zm_spot, zm_nE, wx_u_nc (c := 232) (c' := 212) (by decide), wx_u_nc (c := 232) (c' := 164) (by decide), wx_u_nc (c := 232) (c' := 160) (by decide)]), zm_ans, if_neg (by rw [zm_nE, wx_u_nc (by decide)]; exact hcut), e7] at h9; exact h9)) (nw_kv ?_)
                    exact cw_vreturn C dd_Mo_take_259 (Nat.le_of_ble_eq_true rfl) (Nat.le_of_ble_eq_true rfl) ⟨_, rfl, rfl, ⟨rfl, by rw [zm_take, zm_tk, if_neg (by omega), if_pos hk, zm_tkE, if_pos (by omega), zm_rdy, if_pos (by rw [← h221, zm_spot, zm_nE, wx_u_nc (c := 232) (c' := 212) (by decide), wx_u_nc (c := 232) (c' := 164) (by decide), wx_u_nc (c := 232) (c' := 160) (by decide)]), zm_ans, if_neg (by rw [zm_nE, wx_u_nc (by decide)]; exact hcut), e7]; rfl⟩⟩
    · exact absurd h21 (by omega)
  · have g5 : X 236 (90 * r + (X 184 k)) ||| 2 ^ (X 180 k) < 16 := zn_or16 (hen (90 * r + (X 184 k)) (by omega)).2 (zn_pow4 hq)
    have g6 := zn_ones_le (X 236 (90 * r + (X 184 k)) ||| 2 ^ (X 180 k))
    refine cw_aload_n C dd_Mo_take_0 rfl ?_
    refine cw_getr (q' := 180) C wc_34 kF_Mo_41 is_34 (by decide) rfl dd_Mo_take_1 rfl ?_
    refine cw_iload_n C dd_Mo_take_4 rfl ?_
    refine nw_iald C is_45 (by first | omega | (simp [wx_u] <;> omega)) (by decide) dd_Mo_take_5 ?_
    refine cw_istore_n C dd_Mo_take_6 (Nat.le_of_ble_eq_true rfl) ?_
    refine cw_aload_n C dd_Mo_take_7 rfl ?_
    refine cw_getr (q' := 184) C wc_34 kF_Mo_44 is_34 (by decide) rfl dd_Mo_take_8 rfl ?_
    refine cw_iload_n C dd_Mo_take_11 rfl ?_
    refine nw_iald C is_46 (by first | omega | (simp [wx_u] <;> omega)) (by decide) dd_Mo_take_12 ?_
    refine cw_istore C dd_Mo_take_13 (Nat.le_of_ble_eq_true rfl) ?_
    refine cw_aload_n C dd_Mo_take_15 rfl ?_
    refine cw_getr (q' := 188) C wc_34 kF_Mo_47 is_34 (by decide) rfl dd_Mo_take_16 rfl ?_
    refine cw_iload_n C dd_Mo_take_19 rfl ?_
    refine nw_iald C is_47 (by first | omega | (simp [wx_u] <;> omega)) (by decide) dd_Mo_take_20 ?_
    refine nw_if_ne (tgt := 92) C dd_Mo_take_21 (by decide) (by first | omega | (simp [wx_u] <;> omega)) (fun h21 => ?_) (fun h21 => ?_)
    · refine cw_aload_n C dd_Mo_take_92 rfl ?_
      refine cw_getr (q' := 188) C wc_34 kF_Mo_47 is_34 (by decide) rfl dd_Mo_take_93 rfl ?_
      refine cw_iload_n C dd_Mo_take_96 rfl ?_
      refine nw_iald C is_47 (by first | omega | (simp [wx_u] <;> omega)) (by decide) dd_Mo_take_97 ?_
      refine cw_iconst (v := nI 1) C dd_Mo_take_98 (by decide +kernel) ?_
      refine nw_icmp_ne (tgt := 123) C dd_Mo_take_99 (by decide) (by first | omega | (simp [wx_u] <;> omega)) (by first | omega | (simp [wx_u] <;> omega)) (fun h99 => ?_) (fun h99 => ?_)
      · refine cw_aload_n C dd_Mo_take_123 rfl ?_
        refine cw_getr (q' := 236) C wc_34 kF_Mo_83 is_34 (by decide) rfl dd_Mo_take_124 rfl ?_
        refine cw_bipush (v := nI 90) C dd_Mo_take_127 (by decide +kernel) ?_
        refine cw_iload_n C dd_Mo_take_129 rfl ?_
        refine nw_imul C dd_Mo_take_130 ?_
        refine cw_iload C dd_Mo_take_131 rfl ?_
        refine nw_iadd C dd_Mo_take_133 ?_
        refine cw_dup2 C dd_Mo_take_134 rfl rfl ?_
        refine nw_iald C is_59 (by first | omega | (simp [wx_u] <;> omega)) (by decide) dd_Mo_take_135 ?_
        refine cw_iconst (v := nI 1) C dd_Mo_take_136 (by decide +kernel) ?_
        refine cw_iload_n C dd_Mo_take_137 rfl ?_
        refine nw_ishl C dd_Mo_take_138 (by first | omega | (simp [wx_u] <;> omega)) ?_
        refine nw_ior C dd_Mo_take_139 ?_
        rw [Nat.one_mul]
        refine nw_iast C is_59 (by first | omega | (simp [wx_u] <;> omega)) (by decide) dd_Mo_take_140 ?_
        refine cw_aload_n C dd_Mo_take_141 rfl ?_
        refine cw_getr (q' := 188) C wc_34 kF_Mo_47 is_34 (by decide) rfl dd_Mo_take_142 rfl ?_
        refine cw_iload_n C dd_Mo_take_145 rfl ?_
        refine nw_ialdv C (X 188 k) is_47 (by first | omega | (simp [wx_u] <;> omega)) (by decide) dd_Mo_take_146 (by repeat (first | rfl | rw [wx_u_eq] | rw [wx_u_nc (by omega)] | rw [wx_u_nk (by omega)])) ?_
        refine cw_iconst (v := nI 1) C dd_Mo_take_147 (by decide +kernel) ?_
        refine nw_icmp_ne (tgt := 178) C dd_Mo_take_148 (by decide) (by first | omega | (simp [wx_u] <;> omega)) (by first | omega | (simp [wx_u] <;> omega)) (fun h148 => ?_) (fun h148 => ?_)
        · refine cw_aload_n C dd_Mo_take_178 rfl ?_
          refine cw_getr (q' := 236) C wc_34 kF_Mo_83 is_34 (by decide) rfl dd_Mo_take_179 rfl ?_
          refine cw_bipush (v := nI 90) C dd_Mo_take_182 (by decide +kernel) ?_
          refine cw_iload_n C dd_Mo_take_184 rfl ?_
          refine nw_imul C dd_Mo_take_185 ?_
          refine cw_iload C dd_Mo_take_186 rfl ?_
          refine nw_iadd C dd_Mo_take_188 ?_
          refine nw_ialdv C (X 236 (90 * r + (X 184 k)) ||| 2 ^ (X 180 k)) is_59 (by omega) (by decide) dd_Mo_take_189 (wx_u_eq _ _ _ _) ?_
          refine cw_callS (As := [_]) C kS_Mo_115 dd_Mo_take_190 rfl rfl (Nat.le_of_ble_eq_true rfl) ⟨(Nat.le_of_ble_eq_true rfl), (Nat.le_of_ble_eq_true rfl)⟩ ⟨(Nat.le_of_ble_eq_true rfl), (Nat.le_of_ble_eq_true rfl)⟩ (mm_Mo_ones _ _ (by omega)) (nw_ki ?_)
          refine cw_iconst (v := nI 2) C dd_Mo_take_193 (by decide +kernel) ?_
          refine nw_icmp_lt (tgt := 201) C dd_Mo_take_194 (by decide) (by first | omega | (simp [wx_u] <;> omega)) (by first | omega | (simp [wx_u] <;> omega)) (fun h194 => ?_) (fun h194 => ?_)
          · refine cw_iconst (v := nI 0) C dd_Mo_take_201 (by decide +kernel) ?_
            refine cw_istore C dd_Mo_take_202 (Nat.le_of_ble_eq_true rfl) ?_
            refine cw_iload C dd_Mo_take_204 rfl ?_
            refine nw_if_eq (tgt := 254) C dd_Mo_take_206 (by decide) (by decide) (fun h206 => ?_) (fun h206 => ?_)
            · refine cw_aload_n C dd_Mo_take_254 rfl ?_
              refine cw_iload_n C dd_Mo_take_255 rfl ?_
              refine cw_callV (As := [_]) C kV_Mo_134 wc_34 is_34 dd_Mo_take_256 rfl rfl (Nat.le_of_ble_eq_true rfl) ⟨(Nat.le_of_ble_eq_true rfl), (Nat.le_of_ble_eq_true rfl)⟩ ⟨(Nat.le_of_ble_eq_true rfl), (Nat.le_of_ble_eq_true rfl)⟩ (mm_Mo_act _ r hr I hI hstep (by have h9 := hX; rw [zm_tk, if_neg (by omega), if_neg (by omega), zm_tkR, if_neg (by omega)] at h9; exact h9)) (nw_kv ?_)
              exact cw_vreturn C dd_Mo_take_259 (Nat.le_of_ble_eq_true rfl) (Nat.le_of_ble_eq_true rfl) ⟨_, rfl, rfl, ⟨rfl, by rw [zm_take, zm_tk, if_neg (by omega), if_neg (by omega), zm_tkR, if_neg (by omega)]; rfl⟩⟩
            · exact absurd rfl h206
          · refine cw_iconst (v := nI 1) C dd_Mo_take_197 (by decide +kernel) ?_
            refine cw_goto (tgt := 202) C dd_Mo_take_198 (by decide) ?_
            refine cw_istore C dd_Mo_take_202 (Nat.le_of_ble_eq_true rfl) ?_
            refine cw_iload C dd_Mo_take_204 rfl ?_
            refine nw_if_eq (tgt := 254) C dd_Mo_take_206 (by decide) (by decide) (fun h206 => ?_) (fun h206 => ?_)
            · exact absurd h206 (by decide)
            · refine cw_aload_n C dd_Mo_take_209 rfl ?_
              refine cw_getr (q' := 212) C wc_34 kF_Mo_65 is_34 (by decide) rfl dd_Mo_take_210 rfl ?_
              refine cw_aload_n C dd_Mo_take_213 rfl ?_
              refine cw_iload_n C dd_Mo_take_214 rfl ?_
              refine cw_iload C dd_Mo_take_215 rfl ?_
              refine cw_callV (As := [_, _]) C kV_Mo_123 wc_34 is_34 dd_Mo_take_217 rfl rfl (Nat.le_of_ble_eq_true rfl) ⟨(Nat.le_of_ble_eq_true rfl), (Nat.le_of_ble_eq_true rfl)⟩ ⟨(Nat.le_of_ble_eq_true rfl), (Nat.le_of_ble_eq_true rfl)⟩ (mm_Mo_spot _ r (X 184 k) (by omega)) (nw_ki ?_)
              rw [wx_u_nc (c := 236) (c' := 164) (by decide), wx_u_nc (c := 236) (c' := 160) (by decide)]
              refine nw_zaldv C (X 212 (60 * r + 4 * X 164 (X 184 k) + X 160 (X 184 k))) is_53 (by omega) (by decide) dd_Mo_take_220 (wx_u_nc (by decide)) ?_
              refine nw_if_ne (tgt := 254) C dd_Mo_take_221 (by decide) (by first | omega | (simp [wx_u] <;> omega)) (fun h221 => ?_) (fun h221 => ?_)
              · refine cw_aload_n C dd_Mo_take_254 rfl ?_
                refine cw_iload_n C dd_Mo_take_255 rfl ?_
                refine cw_callV (As := [_]) C kV_Mo_134 wc_34 is_34 dd_Mo_take_256 rfl rfl (Nat.le_of_ble_eq_true rfl) ⟨(Nat.le_of_ble_eq_true rfl), (Nat.le_of_ble_eq_true rfl)⟩ ⟨(Nat.le_of_ble_eq_true rfl), (Nat.le_of_ble_eq_true rfl)⟩ (mm_Mo_act _ r hr I hI hstep (by have h9 := hX; rw [zm_tk, if_neg (by omega), if_neg (by omega), zm_tkR, if_pos (by omega), zm_rdy, if_neg (fun z => h221 (by rw [← z, zm_spot, zm_nR, wx_u_nc (c := 236) (c' := 212) (by decide), wx_u_nc (c := 236) (c' := 164) (by decide), wx_u_nc (c := 236) (c' := 160) (by decide)]))] at h9; exact h9)) (nw_kv ?_)
                exact cw_vreturn C dd_Mo_take_259 (Nat.le_of_ble_eq_true rfl) (Nat.le_of_ble_eq_true rfl) ⟨_, rfl, rfl, ⟨rfl, by rw [zm_take, zm_tk, if_neg (by omega), if_neg (by omega), zm_tkR, if_pos (by omega), zm_rdy, if_neg (fun z => h221 (by rw [← z, zm_spot, zm_nR, wx_u_nc (c := 236) (c' := 212) (by decide), wx_u_nc (c := 236) (c' := 164) (by decide), wx_u_nc (c := 236) (c' := 160) (by decide)]))]; rfl⟩⟩
              · refine cw_aload_n C dd_Mo_take_224 rfl ?_
                refine cw_iload_n C dd_Mo_take_225 rfl ?_
                by_cases hcut : X 200 r = 0
                · refine cw_callV (As := [_]) C kV_Mo_127 wc_34 is_34 dd_Mo_take_226 rfl rfl (Nat.le_of_ble_eq_true rfl) ⟨(Nat.le_of_ble_eq_true rfl), (Nat.le_of_ble_eq_true rfl)⟩ ⟨(Nat.le_of_ble_eq_true rfl), (Nat.le_of_ble_eq_true rfl)⟩ (mm_Mo_record_dn (wx_u X 236 (90 * r + (X 184 k)) (X 236 (90 * r + (X 184 k)) ||| 2 ^ (X 180 k))) r hr (by first | exact hcut | (rw [wx_u_nc (by decide)]; exact hcut))) (nw_ki ?_)
                  refine nw_if_eq (tgt := 254) C dd_Mo_take_229 (by decide) (by decide) (fun h229 => ?_) (fun h229 => ?_)
                  · refine cw_aload_n C dd_Mo_take_254 rfl ?_
                    refine cw_iload_n C dd_Mo_take_255 rfl ?_
                    refine cw_callV (As := [_]) C kV_Mo_134 wc_34 is_34 dd_Mo_take_256 rfl rfl (Nat.le_of_ble_eq_true rfl) ⟨(Nat.le_of_ble_eq_true rfl), (Nat.le_of_ble_eq_true rfl)⟩ ⟨(Nat.le_of_ble_eq_true rfl), (Nat.le_of_ble_eq_true rfl)⟩ (mm_Mo_act _ r hr I hI hstep (by have h9 := hX; rw [zm_tk, if_neg (by omega), if_neg (by omega), zm_tkR, if_pos (by omega), zm_rdy, if_pos (by rw [← h221, zm_spot, zm_nR, wx_u_nc (c := 236) (c' := 212) (by decide), wx_u_nc (c := 236) (c' := 164) (by decide), wx_u_nc (c := 236) (c' := 160) (by decide)]), zm_ans, if_pos (by rw [← hcut, zm_nR, wx_u_nc (by decide)])] at h9; exact h9)) (nw_kv ?_)
                    exact cw_vreturn C dd_Mo_take_259 (Nat.le_of_ble_eq_true rfl) (Nat.le_of_ble_eq_true rfl) ⟨_, rfl, rfl, ⟨rfl, by rw [zm_take, zm_tk, if_neg (by omega), if_neg (by omega), zm_tkR, if_pos (by omega), zm_rdy, if_pos (by rw [← h221, zm_spot, zm_nR, wx_u_nc (c := 236) (c' := 212) (by decide), wx_u_nc (c := 236) (c' := 164) (by decide), wx_u_nc (c := 236) (c' := 160) (by decide)]), zm_ans, if_pos (by rw [← hcut, zm_nR, wx_u_nc (by decide)])]; rfl⟩⟩
                  · exact absurd rfl h229
                · refine cw_callV (As := [_]) C kV_Mo_127 wc_34 is_34 dd_Mo_take_226 rfl rfl (Nat.le_of_ble_eq_true rfl) ⟨(Nat.le_of_ble_eq_true rfl), (Nat.le_of_ble_eq_true rfl)⟩ ⟨(Nat.le_of_ble_eq_true rfl), (Nat.le_of_ble_eq_true rfl)⟩ (mm_Mo_record_ok (wx_u X 236 (90 * r + (X 184 k)) (X 236 (90 * r + (X 184 k)) ||| 2 ^ (X 180 k))) r hr (by first | exact hcut | (rw [wx_u_nc (by decide)]; exact hcut)) (by first | exact hc | (rw [wx_u_nc (by decide)]; exact hc))) (nw_ki ?_)
                  refine nw_if_eq (tgt := 254) C dd_Mo_take_229 (by decide) (by decide) (fun h229 => ?_) (fun h229 => ?_)
                  · exact absurd h229 (by decide)
                  · refine cw_aload_n C dd_Mo_take_232 rfl ?_
                    refine cw_getr (q' := 212) C wc_34 kF_Mo_65 is_34 (by decide) rfl dd_Mo_take_233 rfl ?_
                    refine cw_aload_n C dd_Mo_take_236 rfl ?_
                    refine cw_iload_n C dd_Mo_take_237 rfl ?_
                    refine cw_iload C dd_Mo_take_238 rfl ?_
                    refine cw_callV (As := [_, _]) C kV_Mo_123 wc_34 is_34 dd_Mo_take_240 rfl rfl (Nat.le_of_ble_eq_true rfl) ⟨(Nat.le_of_ble_eq_true rfl), (Nat.le_of_ble_eq_true rfl)⟩ ⟨(Nat.le_of_ble_eq_true rfl), (Nat.le_of_ble_eq_true rfl)⟩ (mm_Mo_spot _ r (X 184 k) (by omega)) (nw_ki ?_)
                    rw [zm_wrote_oth _ _ _ (by decide) (by decide), zm_wrote_oth _ _ _ (by decide) (by decide), wx_u_nc (c := 236) (c' := 164) (by decide), wx_u_nc (c := 236) (c' := 160) (by decide)]
                    refine cw_iconst (v := nI 1) C dd_Mo_take_243 (by decide +kernel) ?_
                    refine nw_zast C is_53 (by omega) (by decide) (by decide) dd_Mo_take_244 ?_
                    refine cw_aload_n C dd_Mo_take_245 rfl ?_
                    refine cw_iload_n C dd_Mo_take_246 rfl ?_
                    refine cw_iload C dd_Mo_take_247 rfl ?_
                    refine cw_iconst (v := nI 2) C dd_Mo_take_249 (by decide +kernel) ?_
                    refine cw_callV (As := [_, _, _]) C kV_Mo_130 wc_34 is_34 dd_Mo_take_250 rfl rfl (Nat.le_of_ble_eq_true rfl) ⟨(Nat.le_of_ble_eq_true rfl), (Nat.le_of_ble_eq_true rfl)⟩ ⟨(Nat.le_of_ble_eq_true rfl), (Nat.le_of_ble_eq_true rfl)⟩ (mm_Mo_say _ _ _ _ (by rw [wx_u_nc (by decide), zm_wrote_oth _ _ _ (by decide) (by decide), wx_u_nc (by decide)]; exact hmm)) (nw_ki ?_)
                    refine cw_pop C dd_Mo_take_253 rfl ?_
                    refine cw_aload_n C dd_Mo_take_254 rfl ?_
                    refine cw_iload_n C dd_Mo_take_255 rfl ?_
                    have e7 : zm_spot (zm_nR X r (X 184 k) (X 180 k)) r (X 184 k) = (60 * r + 4 * X 164 (X 184 k) + X 160 (X 184 k)) := by rw [zm_spot, zm_nR, wx_u_nc (by decide), wx_u_nc (by decide)]
                    refine cw_callV (As := [_]) C kV_Mo_134 wc_34 is_34 dd_Mo_take_256 rfl rfl (Nat.le_of_ble_eq_true rfl) ⟨(Nat.le_of_ble_eq_true rfl), (Nat.le_of_ble_eq_true rfl)⟩ ⟨(Nat.le_of_ble_eq_true rfl), (Nat.le_of_ble_eq_true rfl)⟩ (mm_Mo_act _ r hr I hI hstep (by have h9 := hX; rw [zm_tk, if_neg (by omega), if_neg (by omega), zm_tkR, if_pos (by omega), zm_rdy, if_pos (by rw [← h221, zm_spot, zm_nR, wx_u_nc (c := 236) (c' := 212) (by decide), wx_u_nc (c := 236) (c' := 164) (by decide), wx_u_nc (c := 236) (c' := 160) (by decide)]), zm_ans, if_neg (by rw [zm_nR, wx_u_nc (by decide)]; exact hcut), e7] at h9; exact h9)) (nw_kv ?_)
                    exact cw_vreturn C dd_Mo_take_259 (Nat.le_of_ble_eq_true rfl) (Nat.le_of_ble_eq_true rfl) ⟨_, rfl, rfl, ⟨rfl, by rw [zm_take, zm_tk, if_neg (by omega), if_neg (by omega), zm_tkR, if_pos (by omega), zm_rdy, if_pos (by rw [← h221, zm_spot, zm_nR, wx_u_nc (c := 236) (c' := 212) (by decide), wx_u_nc (c := 236) (c' := 164) (by decide), wx_u_nc (c := 236) (c' := 160) (by decide)]), zm_ans, if_neg (by rw [zm_nR, wx_u_nc (by decide)]; exact hcut), e7]; rfl⟩⟩
        · exact absurd h148 (by omega)
      · exact absurd h99 (by omega)
    · exact absurd h21 (by omega)
