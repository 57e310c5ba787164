theorem zm_th_lt (X : wx_S) (r w : Nat) : ∀ i, i ≤ 4 → zm_th X r w i < 16
  | 0, _ => by simp [zm_th]
  | i + 1, hi => by
    have ih := zm_th_lt X r w i (by omega)
    simp only [zm_th]
    split
    · exact zn_or16 ih (zn_pow4 (by omega))
    · exact ih
abbrev zm_adv (X : wx_S) (r : Nat) : Prop := X 136 7 ≠ 90 ∧ X 204 r ≤ 13 ∧ ((X 204 r = 0 ∧ X 216 r ≠ 0) ∨ (X 204 r ≠ 0 ∧ zm_th X r (X 204 r) 4 / 2 ^ r % 2 = 1 ∧ 3 ≤ zn_ones (zm_th X r (X 204 r) 4) ∧ (X 204 r % 2 = 1 ∨ X 228 (60 * r + 4 * X 204 r + X 204 r / 2 % 4) ≠ 0 ∨ 3 ≤ X 216 r)))
set_option maxRecDepth 100000 in
set_option maxHeartbeats 4000000 in
theorem mm_Mo_advances (X : wx_S) (r : Nat) (hr : r < 4) (hV : zm_V X) (hD : zm_D X) (hm : X 204 r ≤ 14) (ht : X 216 r < 2147483648) : nw_M wd_all yy_Mo_advances cc_Mo_advances 4 (some .boolean) 3 0 0 [.ref 136, .int (nI r)] X (fun v X' => v = some (.int (nI (zb_n (zm_adv X r)))) ∧ X' = X) := by
  refine nw_of [some (.ref 136), some (.int (nI r)), none, none] (by decide +kernel) rfl (Nat.le_of_ble_eq_true rfl) rfl ?_
  intro p l e s m args below meth c A g C
  have g0 := hV.1
  have g1 := zm_th_lt X r (X 204 r) 4 (Nat.le_refl _)
  have g2 := zn_ones_le (zm_th X r (X 204 r) 4)
  refine cw_aload_n C dd_Mo_advances_0 rfl ?_
  refine cw_getr (q' := 204) C wc_34 kF_Mo_59 is_34 (by decide) rfl dd_Mo_advances_1 rfl ?_
  refine cw_iload_n C dd_Mo_advances_4 rfl ?_
  refine nw_iald C is_51 (by first | omega | (simp [wx_u] <;> omega)) (by decide) dd_Mo_advances_5 ?_
  refine cw_istore_n C dd_Mo_advances_6 (Nat.le_of_ble_eq_true rfl) ?_
  refine cw_aload_n C dd_Mo_advances_7 rfl ?_
  refine nw_geti C wc_34 kF_Mo_153 is_34 (by decide) rfl dd_Mo_advances_8 ?_
  refine cw_bipush (v := nI 90) C dd_Mo_advances_11 (by decide +kernel) ?_
  refine nw_icmp_eq (tgt := 22) C dd_Mo_advances_13 (by decide) (by first | omega | (simp [wx_u] <;> omega)) (by first | omega | (simp [wx_u] <;> omega)) (fun h13 => ?_) (fun h13 => ?_)
  · refine cw_iconst (v := nI 0) C dd_Mo_advances_22 (by decide +kernel) ?_
    exact cw_zreturn C dd_Mo_advances_23 (nw_zn (by decide)) (Nat.le_of_ble_eq_true rfl) (Nat.le_of_ble_eq_true rfl) ⟨_, rfl, rfl, ⟨by first | exact congrArg (fun z => some (Value.int z)) (zb_f (fun q => q.1 h13)) | exact congrArg (fun z => some (Value.int z)) (zb_f (fun q => absurd q.2.1 (by omega))), rfl⟩⟩
  · refine cw_iload_n C dd_Mo_advances_16 rfl ?_
    refine cw_bipush (v := nI 13) C dd_Mo_advances_17 (by decide +kernel) ?_
    refine nw_icmp_le (tgt := 24) C dd_Mo_advances_19 (by decide) (by first | omega | (simp [wx_u] <;> omega)) (by first | omega | (simp [wx_u] <;> omega)) (fun h19 => ?_) (fun h19 => ?_)
    · refine cw_iload_n C dd_Mo_advances_24 rfl ?_
      refine nw_if_ne (tgt := 43) C dd_Mo_advances_25 (by decide) (by first | omega | (simp [wx_u] <;> omega)) (fun h25 => ?_) (fun h25 => ?_)
      · refine cw_aload_n C dd_Mo_advances_43 rfl ?_
        refine cw_iload_n C dd_Mo_advances_44 rfl ?_
        refine cw_iload_n C dd_Mo_advances_45 rfl ?_
        refine cw_callV (As := [_, _]) C kV_Mo_156 wc_34 is_34 dd_Mo_advances_46 rfl rfl (Nat.le_of_ble_eq_true rfl) ⟨(Nat.le_of_ble_eq_true rfl), (Nat.le_of_ble_eq_true rfl)⟩ ⟨(Nat.le_of_ble_eq_true rfl), (Nat.le_of_ble_eq_true rfl)⟩ (mm_Mo_there X r hr _ (by omega) (zm_D_lt hV hD)) (nw_ki ?_)
        refine cw_istore_n C dd_Mo_advances_49 (Nat.le_of_ble_eq_true rfl) ?_
        refine cw_iload_n C dd_Mo_advances_50 rfl ?_
        refine cw_iload_n C dd_Mo_advances_51 rfl ?_
        refine nw_ishr C dd_Mo_advances_52 (by first | omega | (simp [wx_u] <;> omega)) (by first | omega | (simp [wx_u] <;> omega)) ?_
        refine cw_iconst (v := nI 1) C dd_Mo_advances_53 (by decide +kernel) ?_
        refine nw_iand1 C dd_Mo_advances_54 ?_
        refine cw_iconst (v := nI 1) C dd_Mo_advances_55 (by decide +kernel) ?_
        refine nw_icmp_ne (tgt := 97) C dd_Mo_advances_56 (by decide) (by first | omega | (simp [wx_u] <;> omega)) (by first | omega | (simp [wx_u] <;> omega)) (fun h56 => ?_) (fun h56 => ?_)
        · refine cw_iconst (v := nI 0) C dd_Mo_advances_97 (by decide +kernel) ?_
          exact cw_zreturn C dd_Mo_advances_98 (nw_zn (by decide)) (Nat.le_of_ble_eq_true rfl) (Nat.le_of_ble_eq_true rfl) ⟨_, rfl, rfl, ⟨by first | exact congrArg (fun z => some (Value.int z)) (zb_t ⟨h13, by omega, Or.inr ⟨h25, h56, by omega, Or.inl h71⟩⟩) | exact congrArg (fun z => some (Value.int z)) (zb_t ⟨h13, by omega, Or.inr ⟨h25, h56, by omega, Or.inr (Or.inl h80)⟩⟩) | exact congrArg (fun z => some (Value.int z)) (zb_t ⟨h13, by omega, Or.inr ⟨h25, h56, by omega, Or.inr (Or.inr (by omega))⟩⟩) | exact congrArg (fun z => some (Value.int z)) (zb_f (fun q => q.2.2.elim (fun z => h25 z.1) (fun z => h56 z.2.1))) | exact congrArg (fun z => some (Value.int z)) (zb_f (fun q => q.2.2.elim (fun z => h25 z.1) (fun z => absurd z.2.2.1 (by omega)))) | exact congrArg (fun z => some (Value.int z)) (zb_f (fun q => q.2.2.elim (fun z => h25 z.1) (fun z => z.2.2.2.elim h71 (fun y => y.elim h80 (fun x => absurd x (by omega)))))), rfl⟩⟩
        · refine cw_iload_n C dd_Mo_advances_59 rfl ?_
          refine cw_callS (As := [_]) C kS_Mo_115 dd_Mo_advances_60 rfl rfl (Nat.le_of_ble_eq_true rfl) ⟨(Nat.le_of_ble_eq_true rfl), (Nat.le_of_ble_eq_true rfl)⟩ ⟨(Nat.le_of_ble_eq_true rfl), (Nat.le_of_ble_eq_true rfl)⟩ (mm_Mo_ones X _ (by omega)) (nw_ki ?_)
          refine cw_iconst (v := nI 3) C dd_Mo_advances_63 (by decide +kernel) ?_
          refine nw_icmp_lt (tgt := 97) C dd_Mo_advances_64 (by decide) (by first | omega | (simp [wx_u] <;> omega)) (by first | omega | (simp [wx_u] <;> omega)) (fun h64 => ?_) (fun h64 => ?_)
          · refine cw_iconst (v := nI 0) C dd_Mo_advances_97 (by decide +kernel) ?_
            exact cw_zreturn C dd_Mo_advances_98 (nw_zn (by decide)) (Nat.le_of_ble_eq_true rfl) (Nat.le_of_ble_eq_true rfl) ⟨_, rfl, rfl, ⟨by first | exact congrArg (fun z => some (Value.int z)) (zb_t ⟨h13, by omega, Or.inr ⟨h25, h56, by omega, Or.inl h71⟩⟩) | exact congrArg (fun z => some (Value.int z)) (zb_t ⟨h13, by omega, Or.inr ⟨h25, h56, by omega, Or.inr (Or.inl h80)⟩⟩) | exact congrArg (fun z => some (Value.int z)) (zb_t ⟨h13, by omega, Or.inr ⟨h25, h56, by omega, Or.inr (Or.inr (by omega))⟩⟩) | exact congrArg (fun z => some (Value.int z)) (zb_f (fun q => q.2.2.elim (fun z => h25 z.1) (fun z => h56 z.2.1))) | exact congrArg (fun z => some (Value.int z)) (zb_f (fun q => q.2.2.elim (fun z => h25 z.1) (fun z => absurd z.2.2.1 (by omega)))) | exact congrArg (fun z => some (Value.int z)) (zb_f (fun q => q.2.2.elim (fun z => h25 z.1) (fun z => z.2.2.2.elim h71 (fun y => y.elim h80 (fun x => absurd x (by omega)))))), rfl⟩⟩
          · refine cw_iload_n C dd_Mo_advances_67 rfl ?_
            refine cw_iconst (v := nI 2) C dd_Mo_advances_68 (by decide +kernel) ?_
            refine nw_irem C dd_Mo_advances_69 (by first | omega | (simp [wx_u] <;> omega)) (by decide) (by decide) ?_
            refine cw_iconst (v := nI 1) C dd_Mo_advances_70 (by decide +kernel) ?_
            refine nw_icmp_eq (tgt := 93) C dd_Mo_advances_71 (by decide) (by first | omega | (simp [wx_u] <;> omega)) (by first | omega | (simp [wx_u] <;> omega)) (fun h71 => ?_) (fun h71 => ?_)
            · refine cw_iconst (v := nI 1) C dd_Mo_advances_93 (by decide +kernel) ?_
              refine cw_goto (tgt := 98) C dd_Mo_advances_94 (by decide) ?_
              exact cw_zreturn C dd_Mo_advances_98 (nw_zn (by decide)) (Nat.le_of_ble_eq_true rfl) (Nat.le_of_ble_eq_true rfl) ⟨_, rfl, rfl, ⟨by first | exact congrArg (fun z => some (Value.int z)) (zb_t ⟨h13, by omega, Or.inr ⟨h25, h56, by omega, Or.inl h71⟩⟩) | exact congrArg (fun z => some (Value.int z)) (zb_t ⟨h13, by omega, Or.inr ⟨h25, h56, by omega, Or.inr (Or.inl h80)⟩⟩) | exact congrArg (fun z => some (Value.int z)) (zb_t ⟨h13, by omega, Or.inr ⟨h25, h56, by omega, Or.inr (Or.inr (by omega))⟩⟩) | exact congrArg (fun z => some (Value.int z)) (zb_f (fun q => q.2.2.elim (fun z => h25 z.1) (fun z => h56 z.2.1))) | exact congrArg (fun z => some (Value.int z)) (zb_f (fun q => q.2.2.elim (fun z => h25 z.1) (fun z => absurd z.2.2.1 (by omega)))) | exact congrArg (fun z => some (Value.int z)) (zb_f (fun q => q.2.2.elim (fun z => h25 z.1) (fun z => z.2.2.2.elim h71 (fun y => y.elim h80 (fun x => absurd x (by omega)))))), rfl⟩⟩
            · refine cw_aload_n C dd_Mo_advances_74 rfl ?_
              refine cw_iload_n C dd_Mo_advances_75 rfl ?_
              refine cw_iload_n C dd_Mo_advances_76 rfl ?_
              refine cw_callV (As := [_, _]) C kV_Mo_162 wc_34 is_34 dd_Mo_advances_77 rfl rfl (Nat.le_of_ble_eq_true rfl) ⟨(Nat.le_of_ble_eq_true rfl), (Nat.le_of_ble_eq_true rfl)⟩ ⟨(Nat.le_of_ble_eq_true rfl), (Nat.le_of_ble_eq_true rfl)⟩ (mm_Mo_hasLeader X r hr _ (by omega) (zm_D_lt hV hD)) (nw_ki ?_)
              refine nw_zne (tgt := 93) C dd_Mo_advances_80 (by decide) (fun h80 => ?_) (fun h80 => ?_)
              · refine cw_iconst (v := nI 1) C dd_Mo_advances_93 (by decide +kernel) ?_
                refine cw_goto (tgt := 98) C dd_Mo_advances_94 (by decide) ?_
                exact cw_zreturn C dd_Mo_advances_98 (nw_zn (by decide)) (Nat.le_of_ble_eq_true rfl) (Nat.le_of_ble_eq_true rfl) ⟨_, rfl, rfl, ⟨by first | exact congrArg (fun z => some (Value.int z)) (zb_t ⟨h13, by omega, Or.inr ⟨h25, h56, by omega, Or.inl h71⟩⟩) | exact congrArg (fun z => some (Value.int z)) (zb_t ⟨h13, by omega, Or.inr ⟨h25, h56, by omega, Or.inr (Or.inl h80)⟩⟩) | exact congrArg (fun z => some (Value.int z)) (zb_t ⟨h13, by omega, Or.inr ⟨h25, h56, by omega, Or.inr (Or.inr (by omega))⟩⟩) | exact congrArg (fun z => some (Value.int z)) (zb_f (fun q => q.2.2.elim (fun z => h25 z.1) (fun z => h56 z.2.1))) | exact congrArg (fun z => some (Value.int z)) (zb_f (fun q => q.2.2.elim (fun z => h25 z.1) (fun z => absurd z.2.2.1 (by omega)))) | exact congrArg (fun z => some (Value.int z)) (zb_f (fun q => q.2.2.elim (fun z => h25 z.1) (fun z => z.2.2.2.elim h71 (fun y => y.elim h80 (fun x => absurd x (by omega)))))), rfl⟩⟩
              · refine cw_aload_n C dd_Mo_advances_83 rfl ?_
                refine cw_getr (q' := 216) C wc_34 kF_Mo_68 is_34 (by decide) rfl dd_Mo_advances_84 rfl ?_
                refine cw_iload_n C dd_Mo_advances_87 rfl ?_
                refine nw_iald C is_54 (by first | omega | (simp [wx_u] <;> omega)) (by decide) dd_Mo_advances_88 ?_
                refine cw_iconst (v := nI 3) C dd_Mo_advances_89 (by decide +kernel) ?_
                refine nw_icmp_lt (tgt := 97) C dd_Mo_advances_90 (by decide) (by first | omega | (simp [wx_u] <;> omega)) (by first | omega | (simp [wx_u] <;> omega)) (fun h90 => ?_) (fun h90 => ?_)
                · refine cw_iconst (v := nI 0) C dd_Mo_advances_97 (by decide +kernel) ?_
                  exact cw_zreturn C dd_Mo_advances_98 (nw_zn (by decide)) (Nat.le_of_ble_eq_true rfl) (Nat.le_of_ble_eq_true rfl) ⟨_, rfl, rfl, ⟨by first | exact congrArg (fun z => some (Value.int z)) (zb_t ⟨h13, by omega, Or.inr ⟨h25, h56, by omega, Or.inl h71⟩⟩) | exact congrArg (fun z => some (Value.int z)) (zb_t ⟨h13, by omega, Or.inr ⟨h25, h56, by omega, Or.inr (Or.inl h80)⟩⟩) | exact congrArg (fun z => some (Value.int z)) (zb_t ⟨h13, by omega, Or.inr ⟨h25, h56, by omega, Or.inr (Or.inr (by omega))⟩⟩) | exact congrArg (fun z => some (Value.int z)) (zb_f (fun q => q.2.2.elim (fun z => h25 z.1) (fun z => h56 z.2.1))) | exact congrArg (fun z => some (Value.int z)) (zb_f (fun q => q.2.2.elim (fun z => h25 z.1) (fun z => absurd z.2.2.1 (by omega)))) | exact congrArg (fun z => some (Value.int z)) (zb_f (fun q => q.2.2.elim (fun z => h25 z.1) (fun z => z.2.2.2.elim h71 (fun y => y.elim h80 (fun x => absurd x (by omega)))))), rfl⟩⟩
                · refine cw_iconst (v := nI 1) C dd_Mo_advances_93 (by decide +kernel) ?_
                  refine cw_goto (tgt := 98) C dd_Mo_advances_94 (by decide) ?_
                  exact cw_zreturn C dd_Mo_advances_98 (nw_zn (by decide)) (Nat.le_of_ble_eq_true rfl) (Nat.le_of_ble_eq_true rfl) ⟨_, rfl, rfl, ⟨by first | exact congrArg (fun z => some (Value.int z)) (zb_t ⟨h13, by omega, Or.inr ⟨h25, h56, by omega, Or.inl h71⟩⟩) | exact congrArg (fun z => some (Value.int z)) (zb_t ⟨h13, by omega, Or.inr ⟨h25, h56, by omega, Or.inr (Or.inl h80)⟩⟩) | exact congrArg (fun z => some (Value.int z)) (zb_t ⟨h13, by omega, Or.inr ⟨h25, h56, by omega, Or.inr (Or.inr (by omega))⟩⟩) | exact congrArg (fun z => some (Value.int z)) (zb_f (fun q => q.2.2.elim (fun z => h25 z.1) (fun z => h56 z.2.1))) | exact congrArg (fun z => some (Value.int z)) (zb_f (fun q => q.2.2.elim (fun z => h25 z.1) (fun z => absurd z.2.2.1 (by omega)))) | exact congrArg (fun z => some (Value.int z)) (zb_f (fun q => q.2.2.elim (fun z => h25 z.1) (fun z => z.2.2.2.elim h71 (fun y => y.elim h80 (fun x => absurd x (by omega)))))), rfl⟩⟩
      · refine cw_aload_n C dd_Mo_advances_28 rfl ?_
        refine cw_getr (q' := 216) C wc_34 kF_Mo_68 is_34 (by decide) rfl dd_Mo_advances_29 rfl ?_
        refine cw_iload_n C dd_Mo_advances_32 rfl ?_
        refine nw_iald C is_54 (by first | omega | (simp [wx_u] <;> omega)) (by decide) dd_Mo_advances_33 ?_
        refine nw_if_eq (tgt := 41) C dd_Mo_advances_34 (by decide) (by first | omega | (simp [wx_u] <;> omega)) (fun h34 => ?_) (fun h34 => ?_)
        · refine cw_iconst (v := nI 0) C dd_Mo_advances_41 (by decide +kernel) ?_
          exact cw_zreturn C dd_Mo_advances_42 (nw_zn (by decide)) (Nat.le_of_ble_eq_true rfl) (Nat.le_of_ble_eq_true rfl) ⟨_, rfl, rfl, ⟨by first | exact congrArg (fun z => some (Value.int z)) (zb_t ⟨h13, by omega, Or.inl ⟨h25, h34⟩⟩) | exact congrArg (fun z => some (Value.int z)) (zb_f (fun q => q.2.2.elim (fun z => z.2 h34) (fun z => z.1 h25))), rfl⟩⟩
        · refine cw_iconst (v := nI 1) C dd_Mo_advances_37 (by decide +kernel) ?_
          refine cw_goto (tgt := 42) C dd_Mo_advances_38 (by decide) ?_
          exact cw_zreturn C dd_Mo_advances_42 (nw_zn (by decide)) (Nat.le_of_ble_eq_true rfl) (Nat.le_of_ble_eq_true rfl) ⟨_, rfl, rfl, ⟨by first | exact congrArg (fun z => some (Value.int z)) (zb_t ⟨h13, by omega, Or.inl ⟨h25, h34⟩⟩) | exact congrArg (fun z => some (Value.int z)) (zb_f (fun q => q.2.2.elim (fun z => z.2 h34) (fun z => z.1 h25))), rfl⟩⟩
    · refine cw_iconst (v := nI 0) C dd_Mo_advances_22 (by decide +kernel) ?_
      exact cw_zreturn C dd_Mo_advances_23 (nw_zn (by decide)) (Nat.le_of_ble_eq_true rfl) (Nat.le_of_ble_eq_true rfl) ⟨_, rfl, rfl, ⟨by first | exact congrArg (fun z => some (Value.int z)) (zb_f (fun q => q.1 h13)) | exact congrArg (fun z => some (Value.int z)) (zb_f (fun q => absurd q.2.1 (by omega))), rfl⟩⟩
def zm_qF (X : wx_S) (r : Nat) : Nat → Nat → Nat
  | _, 0 => 4294967295
  | t, n + 1 => if X 136 1 ≤ t then 4294967295 else if X 152 t = r ∧ X 156 t = 0 then t else zm_qF X r (t + 1) n
def zm_q (X : wx_S) (r t : Nat) : Nat := zm_qF X r t 41
theorem zm_qF_lt (X : wx_S) (r : Nat) : ∀ n t, (t ≤ zm_qF X r t n ∧ zm_qF X r t n < X 136 1 ∧ X 152 (zm_qF X r t n) = r ∧ X 156 (zm_qF X r t n) = 0) ∨ zm_qF X r t n = 4294967295
  | 0, t => Or.inr rfl
  | n + 1, t => by
    rw [zm_qF]
    by_cases h1 : X 136 1 ≤ t
    · rw [if_pos h1]; exact Or.inr rfl
    · rw [if_neg h1]
      by_cases h2 : X 152 t = r ∧ X 156 t = 0
      · rw [if_pos h2]; exact Or.inl ⟨Nat.le_refl _, by omega, h2.1, h2.2⟩
      · rw [if_neg h2]
        rcases zm_qF_lt X r n (t + 1) with h | h
        · exact Or.inl ⟨by omega, h.2⟩
        · exact Or.inr h
set_option maxRecDepth 100000 in
set_option maxHeartbeats 4000000 in
theorem lp_Mo_queued {p : Program} {l : Launch} {e : Env} {s : State} {m : MethodId} {args : Array Value} {below : List Frame} {meth : Method} {c : Code} {A : Nat → Prop} {g : wd_G} {G : State → Prop} (X : wx_S) (r : Nat) (hr : r < 4) (hn : X 136 1 ≤ 40) (ho : ∀ t, t < 40 → X 152 t < 4294967296 ∧ X 156 t < 4294967296) (q RES : Nat) (C : cw_C p s m args meth c A wd_all g cc_Mo_queued 4 "DagLedgerModel" (some .int)) (hA : ∀ (t : Nat), t = RES → cw_W p l e (cw_rm 1 0 0) s m args below meth c A wd_all g 0 0 G 4 31 [some (.ref 136), some (.int (nI r)), some (.int (nI q)), some (.int (nI t))] [] (wx_e X) (wx_l X)) (hB : ∀ (t : Nat), 4294967295 = RES → cw_W p l e (cw_rm 1 0 0) s m args below meth c A wd_all g 0 0 G 4 39 [some (.ref 136), some (.int (nI r)), some (.int (nI q)), some (.int (nI t))] [] (wx_e X) (wx_l X)) : ∀ (n t : Nat), 40 ≤ t + n ∧ t ≤ 41 → zm_qF X r t n = RES → cw_W p l e (cw_rm 1 0 0) s m args below meth c A wd_all g 0 0 G 4 4 [some (.ref 136), some (.int (nI r)), some (.int (nI q)), some (.int (nI t))] [] (wx_e X) (wx_l X) := by
  intro n
  induction n with
  | zero =>
    intro t hw hres
    refine cw_iload_n C dd_Mo_queued_4 rfl ?_
    refine cw_aload_n C dd_Mo_queued_5 rfl ?_
    refine nw_geti C wc_34 kF_Mo_176 is_34 (by decide) rfl dd_Mo_queued_6 ?_
    refine nw_icmp_ge (tgt := 39) C dd_Mo_queued_9 (by decide) (by first | omega | (simp [wx_u] <;> omega)) (by first | omega | (simp [wx_u] <;> omega)) (fun h9 => ?_) (fun h9 => ?_)
    · exact hB t (by rw [← hres, zm_qF])
    · exact absurd h9 (by omega)
  | succ n ih =>
    intro t hw hres
    refine cw_iload_n C dd_Mo_queued_4 rfl ?_
    refine cw_aload_n C dd_Mo_queued_5 rfl ?_
    refine nw_geti C wc_34 kF_Mo_176 is_34 (by decide) rfl dd_Mo_queued_6 ?_
    refine nw_icmp_ge (tgt := 39) C dd_Mo_queued_9 (by decide) (by first | omega | (simp [wx_u] <;> omega)) (by first | omega | (simp [wx_u] <;> omega)) (fun h9 => ?_) (fun h9 => ?_)
    · exact hB t (by rw [← hres, zm_qF, if_pos h9])
    · have g1 := ho t (by omega)
      refine cw_aload_n C dd_Mo_queued_12 rfl ?_
      refine cw_getr (q' := 152) C wc_34 kF_Mo_19 is_34 (by decide) rfl dd_Mo_queued_13 rfl ?_
      refine cw_iload_n C dd_Mo_queued_16 rfl ?_
      refine nw_iald C is_38 (by first | omega | (simp [wx_u] <;> omega)) (by decide) dd_Mo_queued_17 ?_
      refine cw_iload_n C dd_Mo_queued_18 rfl ?_
      refine nw_icmp_ne (tgt := 33) C dd_Mo_queued_19 (by decide) (by first | omega | (simp [wx_u] <;> omega)) (by first | omega | (simp [wx_u] <;> omega)) (fun h19 => ?_) (fun h19 => ?_)
      · refine nw_iinc (b := 1) C dd_Mo_queued_33 (by decide +kernel) rfl (Nat.le_of_ble_eq_true rfl) ?_
        refine cw_goto (tgt := 4) C dd_Mo_queued_36 (by decide) ?_
        refine ih (t + 1) (by omega) ?_
        rw [← hres]
        conv => rhs; rw [zm_qF]
        rw [if_neg (by omega), if_neg (fun q => h19 q.1)]
      · refine cw_aload_n C dd_Mo_queued_22 rfl ?_
        refine cw_getr (q' := 156) C wc_34 kF_Mo_22 is_34 (by decide) rfl dd_Mo_queued_23 rfl ?_
        refine cw_iload_n C dd_Mo_queued_26 rfl ?_
        refine nw_zald C is_39 (by first | omega | (simp [wx_u] <;> omega)) (by decide) dd_Mo_queued_27 ?_
        refine nw_if_ne (tgt := 33) C dd_Mo_queued_28 (by decide) (by first | omega | (simp [wx_u] <;> omega)) (fun h28 => ?_) (fun h28 => ?_)
        · refine nw_iinc (b := 1) C dd_Mo_queued_33 (by decide +kernel) rfl (Nat.le_of_ble_eq_true rfl) ?_
          refine cw_goto (tgt := 4) C dd_Mo_queued_36 (by decide) ?_
          refine ih (t + 1) (by omega) ?_
          rw [← hres]
          conv => rhs; rw [zm_qF]
          rw [if_neg (by omega), if_neg (fun q => h28 q.2)]
        · exact hA t (by rw [← hres, zm_qF, if_neg (by omega), if_pos ⟨h19, h28⟩])
set_option maxRecDepth 100000 in
set_option maxHeartbeats 4000000 in
theorem mm_Mo_queued (X : wx_S) (r : Nat) (hr : r < 4) (a : Nat) (ha : a < 40) (hn : X 136 1 ≤ 40) (ho : ∀ t, t < 40 → X 152 t < 4294967296 ∧ X 156 t < 4294967296) : nw_M wd_all yy_Mo_queued cc_Mo_queued 4 (some .int) 1 0 0 [.ref 136, .int (nI r), .int (nI a)] X (fun v X' => v = some (.int (nI (zm_q X r (a + 1)))) ∧ X' = X) := by
  refine nw_of [some (.ref 136), some (.int (nI r)), some (.int (nI a)), none] (by decide +kernel) rfl (Nat.le_of_ble_eq_true rfl) rfl ?_
  intro p l e s m args below meth c A g C
  refine cw_iload_n C dd_Mo_queued_0 rfl ?_
  refine cw_iconst (v := nI 1) C dd_Mo_queued_1 (by decide +kernel) ?_
  refine nw_iadd C dd_Mo_queued_2 ?_
  refine cw_istore_n C dd_Mo_queued_3 (Nat.le_of_ble_eq_true rfl) ?_
  refine lp_Mo_queued X r hr hn ho _ (zm_q X r (a + 1)) C (fun t hw => ?_) (fun t hw => ?_) 41 _ (by omega) rfl
  · refine cw_iload_n C dd_Mo_queued_31 rfl ?_
    exact cw_ireturn C dd_Mo_queued_32 (Nat.le_of_ble_eq_true rfl) (Nat.le_of_ble_eq_true rfl) ⟨_, rfl, rfl, ⟨by rw [hw], rfl⟩⟩
  · refine cw_iconst (v := nI 4294967295) C dd_Mo_queued_39 (by decide +kernel) ?_
    exact cw_ireturn C dd_Mo_queued_40 (Nat.le_of_ble_eq_true rfl) (Nat.le_of_ble_eq_true rfl) ⟨_, rfl, rfl, ⟨by rw [hw], rfl⟩⟩
set_option maxRecDepth 100000 in
set_option maxHeartbeats 4000000 in
theorem mm_Mo_queued0 (X : wx_S) (r : Nat) (hr : r < 4) (hn : X 136 1 ≤ 40) (ho : ∀ t, t < 40 → X 152 t < 4294967296 ∧ X 156 t < 4294967296) : nw_M wd_all yy_Mo_queued cc_Mo_queued 4 (some .int) 1 0 0 [.ref 136, .int (nI r), .int (nI 4294967295)] X (fun v X' => v = some (.int (nI (zm_q X r 0))) ∧ X' = X) := by
  refine nw_of [some (.ref 136), some (.int (nI r)), some (.int (nI 4294967295)), none] (by decide +kernel) rfl (Nat.le_of_ble_eq_true rfl) rfl ?_
  intro p l e s m args below meth c A g C
  refine cw_iload_n C dd_Mo_queued_0 rfl ?_
  refine cw_iconst (v := nI 1) C dd_Mo_queued_1 (by decide +kernel) ?_
  refine nw_iadd C dd_Mo_queued_2 ?_
  rw [show nI (4294967295 + 1) = nI 0 by decide +kernel]
  refine cw_istore_n C dd_Mo_queued_3 (Nat.le_of_ble_eq_true rfl) ?_
  refine lp_Mo_queued X r hr hn ho _ (zm_q X r 0) C (fun t hw => ?_) (fun t hw => ?_) 41 _ (by omega) rfl
  · refine cw_iload_n C dd_Mo_queued_31 rfl ?_
    exact cw_ireturn C dd_Mo_queued_32 (Nat.le_of_ble_eq_true rfl) (Nat.le_of_ble_eq_true rfl) ⟨_, rfl, rfl, ⟨by rw [hw], rfl⟩⟩
  · refine cw_iconst (v := nI 4294967295) C dd_Mo_queued_39 (by decide +kernel) ?_
    exact cw_ireturn C dd_Mo_queued_40 (Nat.le_of_ble_eq_true rfl) (Nat.le_of_ble_eq_true rfl) ⟨_, rfl, rfl, ⟨by rw [hw], rfl⟩⟩
def zm_make (X : wx_S) (a w q f u : Nat) : wx_S := wx_u (wx_u (wx_u (wx_u (wx_u (wx_u X 160 (X 136 7) a) 164 (X 136 7) w) 168 (X 136 7) q) 172 (X 136 7) f) 176 (X 136 7) u) 136 7 (X 136 7 + 1)
set_option maxRecDepth 100000 in
set_option maxHeartbeats 4000000 in
theorem mm_Mo_make (X : wx_S) (a w q f u : Nat) (hc : X 136 7 < 90) : nw_M wd_all yy_Mo_make cc_Mo_make 6 (some .int) 1 0 0 [.ref 136, .int (nI a), .int (nI w), .int (nI q), .int (nI f), .int (nI u)] X (fun v X' => v = some (.int (nI (X 136 7))) ∧ X' = zm_make X a w q f u) := by
  refine nw_of [some (.ref 136), some (.int (nI a)), some (.int (nI w)), some (.int (nI q)), some (.int (nI f)), some (.int (nI u))] (by decide +kernel) rfl (Nat.le_of_ble_eq_true rfl) rfl ?_
  intro p l e s m args below meth c A g C
  refine cw_aload_n C dd_Mo_make_0 rfl ?_
  refine cw_getr (q' := 160) C wc_34 kF_Mo_26 is_34 (by decide) rfl dd_Mo_make_1 rfl ?_
  refine cw_aload_n C dd_Mo_make_4 rfl ?_
  refine nw_geti C wc_34 kF_Mo_153 is_34 (by decide) rfl dd_Mo_make_5 ?_
  refine cw_iload_n C dd_Mo_make_8 rfl ?_
  refine nw_iast C is_40 (by first | omega | (simp [wx_u] <;> omega)) (by decide) dd_Mo_make_9 ?_
  refine cw_aload_n C dd_Mo_make_10 rfl ?_
  refine cw_getr (q' := 164) C wc_34 kF_Mo_29 is_34 (by decide) rfl dd_Mo_make_11 rfl ?_
  refine cw_aload_n C dd_Mo_make_14 rfl ?_
  refine nw_getiv C (X 136 7) wc_34 kF_Mo_153 is_34 (by decide) rfl dd_Mo_make_15 (by repeat (first | rfl | rw [wx_u_eq] | rw [wx_u_nc (by omega)] | rw [wx_u_nk (by omega)])) ?_
  refine cw_iload_n C dd_Mo_make_18 rfl ?_
  refine nw_iast C is_41 (by first | omega | (simp [wx_u] <;> omega)) (by decide) dd_Mo_make_19 ?_
  refine cw_aload_n C dd_Mo_make_20 rfl ?_
  refine cw_getr (q' := 168) C wc_34 kF_Mo_32 is_34 (by decide) rfl dd_Mo_make_21 rfl ?_
  refine cw_aload_n C dd_Mo_make_24 rfl ?_
  refine nw_getiv C (X 136 7) wc_34 kF_Mo_153 is_34 (by decide) rfl dd_Mo_make_25 (by repeat (first | rfl | rw [wx_u_eq] | rw [wx_u_nc (by omega)] | rw [wx_u_nk (by omega)])) ?_
  refine cw_iload_n C dd_Mo_make_28 rfl ?_
  refine nw_iast C is_42 (by first | omega | (simp [wx_u] <;> omega)) (by decide) dd_Mo_make_29 ?_
  refine cw_aload_n C dd_Mo_make_30 rfl ?_
  refine cw_getr (q' := 172) C wc_34 kF_Mo_35 is_34 (by decide) rfl dd_Mo_make_31 rfl ?_
  refine cw_aload_n C dd_Mo_make_34 rfl ?_
  refine nw_getiv C (X 136 7) wc_34 kF_Mo_153 is_34 (by decide) rfl dd_Mo_make_35 (by repeat (first | rfl | rw [wx_u_eq] | rw [wx_u_nc (by omega)] | rw [wx_u_nk (by omega)])) ?_
  refine cw_iload C dd_Mo_make_38 rfl ?_
  refine nw_iast C is_43 (by first | omega | (simp [wx_u] <;> omega)) (by decide) dd_Mo_make_40 ?_
  refine cw_aload_n C dd_Mo_make_41 rfl ?_
  refine cw_getr (q' := 176) C wc_34 kF_Mo_38 is_34 (by decide) rfl dd_Mo_make_42 rfl ?_
  refine cw_aload_n C dd_Mo_make_45 rfl ?_
  refine nw_getiv C (X 136 7) wc_34 kF_Mo_153 is_34 (by decide) rfl dd_Mo_make_46 (by repeat (first | rfl | rw [wx_u_eq] | rw [wx_u_nc (by omega)] | rw [wx_u_nk (by omega)])) ?_
  refine cw_iload C dd_Mo_make_49 rfl ?_
  refine nw_iast C is_44 (by first | omega | (simp [wx_u] <;> omega)) (by decide) dd_Mo_make_51 ?_
  refine cw_aload_n C dd_Mo_make_52 rfl ?_
  refine cw_dup C dd_Mo_make_53 rfl ?_
  refine nw_getiv C (X 136 7) wc_34 kF_Mo_153 is_34 (by decide) rfl dd_Mo_make_54 (by repeat (first | rfl | rw [wx_u_eq] | rw [wx_u_nc (by omega)] | rw [wx_u_nk (by omega)])) ?_
  refine cw_iconst (v := nI 1) C dd_Mo_make_57 (by decide +kernel) ?_
  refine nw_iadd C dd_Mo_make_58 ?_
  refine nw_puti C wc_34 kF_Mo_153 is_34 (by decide) rfl rfl rfl rfl dd_Mo_make_59 ?_
  refine cw_aload_n C dd_Mo_make_62 rfl ?_
  refine nw_getiv C (X 136 7 + 1) wc_34 kF_Mo_153 is_34 (by decide) rfl dd_Mo_make_63 (by repeat (first | rfl | rw [wx_u_eq] | rw [wx_u_nc (by omega)] | rw [wx_u_nk (by omega)])) ?_
  refine cw_iconst (v := nI 1) C dd_Mo_make_66 (by decide +kernel) ?_
  refine nw_isub C dd_Mo_make_67 (by omega) ?_
  exact cw_ireturn C dd_Mo_make_68 (Nat.le_of_ble_eq_true rfl) (Nat.le_of_ble_eq_true rfl) ⟨_, rfl, rfl, ⟨rfl, rfl⟩⟩
theorem zm_wrote_oth (X : wx_S) (r : Nat) {c : Nat} (k : Nat) (h1 : c ≠ 200) (h2 : c ≠ 196) : zm_wrote X r c k = X c k := by
  rw [zm_wrote, wx_u_nc h2, wx_u_nc h1]
theorem zm_make_oth (X : wx_S) (a w q f u : Nat) {c k : Nat} (h1 : c ≠ 160) (h2 : c ≠ 164) (h3 : c ≠ 168) (h4 : c ≠ 172) (h5 : c ≠ 176) (h6 : ¬ (c = 136 ∧ k = 7)) : zm_make X a w q f u c k = X c k := by
  rw [zm_make, wx_u_ne h6, wx_u_nc h5, wx_u_nc h4, wx_u_nc h3, wx_u_nc h2, wx_u_nc h1]
/-- the vertex is made and said, behind the record: W is the world then -/
def zm_made (W : wx_S) (r set one two : Nat) : wx_S :=
  let W3 := zm_say (zm_make (wx_u W 204 r (W 204 r + 1)) r (W 204 r + 1) set one two) r (W 136 7) 0
  let W4 := if one < 2147483648 then wx_u W3 156 one 1 else W3
  let W5 := if two < 2147483648 then wx_u W4 156 two 1 else W4
  wx_u W5 216 r 0
def zm_two (W : wx_S) (r : Nat) : Nat := if zm_q W r 0 < 2147483648 then zm_q W r (zm_q W r 0 + 1) else 4294967295
def zm_advance (X : wx_S) (r : Nat) : wx_S := if X 200 r = 0 then zm_fall X r else zm_made (zm_wrote X r) r (zm_th X r (X 204 r) 4) (zm_q (zm_wrote X r) r 0) (zm_two (zm_wrote X r) r)
set_option maxRecDepth 100000 in
set_option maxHeartbeats 4000000 in
theorem mm_Mo_advance (X : wx_S) (r : Nat) (hr : r < 4) (hV : zm_V X) (hD : zm_D X) (hm : X 204 r ≤ 14) (ht : X 216 r < 2147483648) (hc : X 200 r < 4294967296) (ho : ∀ t, t < 40 → X 152 t < 4294967296 ∧ X 156 t < 4294967296) (hv : X 136 7 < 90) (hmm : X 200 r ≠ 0 → X 136 13 < 840) : nw_M wd_all yy_Mo_advance cc_Mo_advance 5 none 4 0 0 [.ref 136, .int (nI r)] X (fun v X' => v = none ∧ X' = zm_advance X r) := by
  refine nw_of [some (.ref 136), some (.int (nI r)), none, none, none] (by decide +kernel) rfl (Nat.le_of_ble_eq_true rfl) rfl ?_
  intro p l e s m args below meth c A g C
  have e0 : ∀ c k, c ≠ 200 → c ≠ 196 → zm_wrote X r c k = X c k := fun c k h1 h2 => zm_wrote_oth X r k h1 h2
  have hw1 : zm_wrote X r 136 1 ≤ 40 := by rw [e0 _ _ (by decide) (by decide)]; exact hV.2.1
  have hw2 : ∀ t, t < 40 → zm_wrote X r 152 t < 4294967296 ∧ zm_wrote X r 156 t < 4294967296 := fun t ht => by rw [e0 _ _ (by decide) (by decide), e0 _ _ (by decide) (by decide)]; exact ho t ht
  have q1 := zm_qF_lt (zm_wrote X r) r 41 0
  change (0 ≤ zm_q (zm_wrote X r) r 0 ∧ zm_q (zm_wrote X r) r 0 < _ ∧ _) ∨ zm_q (zm_wrote X r) r 0 = _ at q1
  have q2 := zm_qF_lt (zm_wrote X r) r 41 (zm_q (zm_wrote X r) r 0 + 1)
  change (_ ≤ zm_q (zm_wrote X r) r (zm_q (zm_wrote X r) r 0 + 1) ∧ zm_q (zm_wrote X r) r (zm_q (zm_wrote X r) r 0 + 1) < _ ∧ _) ∨ zm_q (zm_wrote X r) r (zm_q (zm_wrote X r) r 0 + 1) = _ at q2
  refine cw_aload_n C dd_Mo_advance_0 rfl ?_
  refine cw_iload_n C dd_Mo_advance_1 rfl ?_
  refine cw_aload_n C dd_Mo_advance_2 rfl ?_
  refine cw_getr (q' := 204) C wc_34 kF_Mo_59 is_34 (by decide) rfl dd_Mo_advance_3 rfl ?_
  refine cw_iload_n C dd_Mo_advance_6 rfl ?_
  refine nw_iald C is_51 (by first | omega | (simp [wx_u] <;> omega)) (by decide) dd_Mo_advance_7 ?_
  refine cw_callV (As := [_, _]) C kV_Mo_156 wc_34 is_34 dd_Mo_advance_8 rfl rfl (Nat.le_of_ble_eq_true rfl) ⟨(Nat.le_of_ble_eq_true rfl), (Nat.le_of_ble_eq_true rfl)⟩ ⟨(Nat.le_of_ble_eq_true rfl), (Nat.le_of_ble_eq_true rfl)⟩ (mm_Mo_there X r hr _ hm (zm_D_lt hV hD)) (nw_ki ?_)
  refine cw_istore_n C dd_Mo_advance_11 (Nat.le_of_ble_eq_true rfl) ?_
  refine cw_aload_n C dd_Mo_advance_12 rfl ?_
  refine cw_iload_n C dd_Mo_advance_13 rfl ?_
  by_cases hcut : X 200 r = 0
  · refine cw_callV (As := [_]) C kV_Mo_127 wc_34 is_34 dd_Mo_advance_14 rfl rfl (Nat.le_of_ble_eq_true rfl) ⟨(Nat.le_of_ble_eq_true rfl), (Nat.le_of_ble_eq_true rfl)⟩ ⟨(Nat.le_of_ble_eq_true rfl), (Nat.le_of_ble_eq_true rfl)⟩ (mm_Mo_record_dn X r hr hcut) (nw_ki ?_)
    refine nw_if_ne (tgt := 21) C dd_Mo_advance_17 (by decide) (by decide) (fun h17 => ?_) (fun h17 => ?_)
    · exact absurd rfl h17
    · exact cw_vreturn C dd_Mo_advance_20 (Nat.le_of_ble_eq_true rfl) (Nat.le_of_ble_eq_true rfl) ⟨_, rfl, rfl, ⟨rfl, by rw [zm_advance, if_pos hcut]⟩⟩
  · refine cw_callV (As := [_]) C kV_Mo_127 wc_34 is_34 dd_Mo_advance_14 rfl rfl (Nat.le_of_ble_eq_true rfl) ⟨(Nat.le_of_ble_eq_true rfl), (Nat.le_of_ble_eq_true rfl)⟩ ⟨(Nat.le_of_ble_eq_true rfl), (Nat.le_of_ble_eq_true rfl)⟩ (mm_Mo_record_ok X r hr hcut hc) (nw_ki ?_)
    refine nw_if_ne (tgt := 21) C dd_Mo_advance_17 (by decide) (by decide) (fun h17 => ?_) (fun h17 => ?_)
    · refine cw_aload_n C dd_Mo_advance_21 rfl ?_
      refine cw_iload_n C dd_Mo_advance_22 rfl ?_
      refine cw_iconst (v := nI 4294967295) C dd_Mo_advance_23 (by decide +kernel) ?_
      refine cw_callV (As := [_, _]) C kV_Mo_179 wc_34 is_34 dd_Mo_advance_24 rfl rfl (Nat.le_of_ble_eq_true rfl) ⟨(Nat.le_of_ble_eq_true rfl), (Nat.le_of_ble_eq_true rfl)⟩ ⟨(Nat.le_of_ble_eq_true rfl), (Nat.le_of_ble_eq_true rfl)⟩ (mm_Mo_queued0 (zm_wrote X r) r hr hw1 hw2) (nw_ki ?_)
      refine cw_istore_n C dd_Mo_advance_27 (Nat.le_of_ble_eq_true rfl) ?_
      refine cw_iload_n C dd_Mo_advance_28 rfl ?_
      refine nw_if_ge (tgt := 36) C dd_Mo_advance_29 (by decide) (by omega) (fun h29 => ?_) (fun h29 => ?_)
      · refine cw_aload_n C dd_Mo_advance_36 rfl ?_
        refine cw_iload_n C dd_Mo_advance_37 rfl ?_
        refine cw_iload_n C dd_Mo_advance_38 rfl ?_
        refine cw_callV (As := [_, _]) C kV_Mo_179 wc_34 is_34 dd_Mo_advance_39 rfl rfl (Nat.le_of_ble_eq_true rfl) ⟨(Nat.le_of_ble_eq_true rfl), (Nat.le_of_ble_eq_true rfl)⟩ ⟨(Nat.le_of_ble_eq_true rfl), (Nat.le_of_ble_eq_true rfl)⟩ (mm_Mo_queued (zm_wrote X r) r hr _ (by omega) hw1 hw2) (nw_ki ?_)
        refine cw_istore C dd_Mo_advance_42 (Nat.le_of_ble_eq_true rfl) ?_
        refine cw_aload_n C dd_Mo_advance_44 rfl ?_
        refine cw_getr (q' := 204) C wc_34 kF_Mo_59 is_34 (by decide) rfl dd_Mo_advance_45 rfl ?_
        refine cw_iload_n C dd_Mo_advance_48 rfl ?_
        refine cw_dup2 C dd_Mo_advance_49 rfl rfl ?_
        refine nw_ialdv C (X 204 r) is_51 (by omega) (by decide) dd_Mo_advance_50 (e0 _ _ (by decide) (by decide)) ?_
        refine cw_iconst (v := nI 1) C dd_Mo_advance_51 (by decide +kernel) ?_
        refine nw_iadd C dd_Mo_advance_52 ?_
        refine nw_iast C is_51 (by first | omega | (simp [wx_u] <;> omega)) (by decide) dd_Mo_advance_53 ?_
        refine cw_aload_n C dd_Mo_advance_54 rfl ?_
        refine cw_iload_n C dd_Mo_advance_55 rfl ?_
        refine cw_aload_n C dd_Mo_advance_56 rfl ?_
        refine cw_iload_n C dd_Mo_advance_57 rfl ?_
        refine cw_aload_n C dd_Mo_advance_58 rfl ?_
        refine cw_getr (q' := 204) C wc_34 kF_Mo_59 is_34 (by decide) rfl dd_Mo_advance_59 rfl ?_
        refine cw_iload_n C dd_Mo_advance_62 rfl ?_
        refine nw_ialdv C (X 204 r + 1) is_51 (by omega) (by decide) dd_Mo_advance_63 (wx_u_eq _ _ _ _) ?_
        refine cw_iload_n C dd_Mo_advance_64 rfl ?_
        refine cw_iload_n C dd_Mo_advance_65 rfl ?_
        refine cw_iload C dd_Mo_advance_66 rfl ?_
        refine cw_callV (As := [_, _, _, _, _]) C kV_Mo_182 wc_34 is_34 dd_Mo_advance_68 rfl rfl (Nat.le_of_ble_eq_true rfl) ⟨(Nat.le_of_ble_eq_true rfl), (Nat.le_of_ble_eq_true rfl)⟩ ⟨(Nat.le_of_ble_eq_true rfl), (Nat.le_of_ble_eq_true rfl)⟩ (mm_Mo_make _ _ _ _ _ _ (by rw [wx_u_nc (by decide), e0 _ _ (by decide) (by decide)]; exact hv)) (nw_ki ?_)
        rw [wx_u_nc (c := 204) (c' := 136) (by decide), e0 136 _ (by decide) (by decide)]
        refine cw_iconst (v := nI 0) C dd_Mo_advance_71 (by decide +kernel) ?_
        refine cw_callV (As := [_, _, _]) C kV_Mo_130 wc_34 is_34 dd_Mo_advance_72 rfl rfl (Nat.le_of_ble_eq_true rfl) ⟨(Nat.le_of_ble_eq_true rfl), (Nat.le_of_ble_eq_true rfl)⟩ ⟨(Nat.le_of_ble_eq_true rfl), (Nat.le_of_ble_eq_true rfl)⟩ (mm_Mo_say _ _ _ _ (by rw [zm_make_oth _ _ _ _ _ _ (by decide) (by decide) (by decide) (by decide) (by decide) (by decide), wx_u_nc (by decide), e0 _ _ (by decide) (by decide)]; exact hmm hcut)) (nw_ki ?_)
        refine cw_pop C dd_Mo_advance_75 rfl ?_
        refine cw_iload_n C dd_Mo_advance_76 rfl ?_
        refine nw_if_lt (tgt := 87) C dd_Mo_advance_77 (by decide) (by omega) (fun h77 => ?_) (fun h77 => ?_)
        · refine cw_iload C dd_Mo_advance_87 rfl ?_
          refine nw_if_lt (tgt := 100) C dd_Mo_advance_89 (by decide) (by omega) (fun h89 => ?_) (fun h89 => ?_)
          · refine cw_aload_n C dd_Mo_advance_100 rfl ?_
            refine cw_getr (q' := 216) C wc_34 kF_Mo_68 is_34 (by decide) rfl dd_Mo_advance_101 rfl ?_
            refine cw_iload_n C dd_Mo_advance_104 rfl ?_
            refine cw_iconst (v := nI 0) C dd_Mo_advance_105 (by decide +kernel) ?_
            refine nw_iast C is_54 (by first | omega | (simp [wx_u] <;> omega)) (by decide) dd_Mo_advance_106 ?_
            exact cw_vreturn C dd_Mo_advance_107 (Nat.le_of_ble_eq_true rfl) (Nat.le_of_ble_eq_true rfl) ⟨_, rfl, rfl, ⟨rfl, by first | (exfalso; omega) | (have a1 : ¬ (zm_q (zm_wrote X r) r 0) < 2147483648 := (by omega); have a2 : ¬ (zm_q (zm_wrote X r) r ((zm_q (zm_wrote X r) r 0) + 1)) < 2147483648 := (by omega); rw [zm_advance, if_neg hcut, zm_two, if_pos (by omega), zm_made, e0 204 _ (by decide) (by decide), e0 136 _ (by decide) (by decide)]; simp only [a1, a2, if_true, if_false])⟩⟩
          · refine cw_aload_n C dd_Mo_advance_92 rfl ?_
            refine cw_getr (q' := 156) C wc_34 kF_Mo_22 is_34 (by decide) rfl dd_Mo_advance_93 rfl ?_
            refine cw_iload C dd_Mo_advance_96 rfl ?_
            refine cw_iconst (v := nI 1) C dd_Mo_advance_98 (by decide +kernel) ?_
            refine nw_zast C is_39 (by omega) (by decide) (by decide) dd_Mo_advance_99 ?_
            refine cw_aload_n C dd_Mo_advance_100 rfl ?_
            refine cw_getr (q' := 216) C wc_34 kF_Mo_68 is_34 (by decide) rfl dd_Mo_advance_101 rfl ?_
            refine cw_iload_n C dd_Mo_advance_104 rfl ?_
            refine cw_iconst (v := nI 0) C dd_Mo_advance_105 (by decide +kernel) ?_
            refine nw_iast C is_54 (by first | omega | (simp [wx_u] <;> omega)) (by decide) dd_Mo_advance_106 ?_
            exact cw_vreturn C dd_Mo_advance_107 (Nat.le_of_ble_eq_true rfl) (Nat.le_of_ble_eq_true rfl) ⟨_, rfl, rfl, ⟨rfl, by first | (exfalso; omega) | (have a1 : ¬ (zm_q (zm_wrote X r) r 0) < 2147483648 := (by omega); have a2 : (zm_q (zm_wrote X r) r ((zm_q (zm_wrote X r) r 0) + 1)) < 2147483648 := (by omega); rw [zm_advance, if_neg hcut, zm_two, if_pos (by omega), zm_made, e0 204 _ (by decide) (by decide), e0 136 _ (by decide) (by decide)]; simp only [a1, a2, if_true, if_false])⟩⟩
        · refine cw_aload_n C dd_Mo_advance_80 rfl ?_
          refine cw_getr (q' := 156) C wc_34 kF_Mo_22 is_34 (by decide) rfl dd_Mo_advance_81 rfl ?_
          refine cw_iload_n C dd_Mo_advance_84 rfl ?_
          refine cw_iconst (v := nI 1) C dd_Mo_advance_85 (by decide +kernel) ?_
          refine nw_zast C is_39 (by omega) (by decide) (by decide) dd_Mo_advance_86 ?_
          refine cw_iload C dd_Mo_advance_87 rfl ?_
          refine nw_if_lt (tgt := 100) C dd_Mo_advance_89 (by decide) (by omega) (fun h89 => ?_) (fun h89 => ?_)
          · refine cw_aload_n C dd_Mo_advance_100 rfl ?_
            refine cw_getr (q' := 216) C wc_34 kF_Mo_68 is_34 (by decide) rfl dd_Mo_advance_101 rfl ?_
            refine cw_iload_n C dd_Mo_advance_104 rfl ?_
            refine cw_iconst (v := nI 0) C dd_Mo_advance_105 (by decide +kernel) ?_
            refine nw_iast C is_54 (by first | omega | (simp [wx_u] <;> omega)) (by decide) dd_Mo_advance_106 ?_
            exact cw_vreturn C dd_Mo_advance_107 (Nat.le_of_ble_eq_true rfl) (Nat.le_of_ble_eq_true rfl) ⟨_, rfl, rfl, ⟨rfl, by first | (exfalso; omega) | (have a1 : (zm_q (zm_wrote X r) r 0) < 2147483648 := (by omega); have a2 : ¬ (zm_q (zm_wrote X r) r ((zm_q (zm_wrote X r) r 0) + 1)) < 2147483648 := (by omega); rw [zm_advance, if_neg hcut, zm_two, if_pos (by omega), zm_made, e0 204 _ (by decide) (by decide), e0 136 _ (by decide) (by decide)]; simp only [a1, a2, if_true, if_false])⟩⟩
          · refine cw_aload_n C dd_Mo_advance_92 rfl ?_
            refine cw_getr (q' := 156) C wc_34 kF_Mo_22 is_34 (by decide) rfl dd_Mo_advance_93 rfl ?_
            refine cw_iload C dd_Mo_advance_96 rfl ?_
            refine cw_iconst (v := nI 1) C dd_Mo_advance_98 (by decide +kernel) ?_
            refine nw_zast C is_39 (by omega) (by decide) (by decide) dd_Mo_advance_99 ?_
            refine cw_aload_n C dd_Mo_advance_100 rfl ?_
            refine cw_getr (q' := 216) C wc_34 kF_Mo_68 is_34 (by decide) rfl dd_Mo_advance_101 rfl ?_
            refine cw_iload_n C dd_Mo_advance_104 rfl ?_
            refine cw_iconst (v := nI 0) C dd_Mo_advance_105 (by decide +kernel) ?_
            refine nw_iast C is_54 (by first | omega | (simp [wx_u] <;> omega)) (by decide) dd_Mo_advance_106 ?_
            exact cw_vreturn C dd_Mo_advance_107 (Nat.le_of_ble_eq_true rfl) (Nat.le_of_ble_eq_true rfl) ⟨_, rfl, rfl, ⟨rfl, by first | (exfalso; omega) | (have a1 : (zm_q (zm_wrote X r) r 0) < 2147483648 := (by omega); have a2 : (zm_q (zm_wrote X r) r ((zm_q (zm_wrote X r) r 0) + 1)) < 2147483648 := (by omega); rw [zm_advance, if_neg hcut, zm_two, if_pos (by omega), zm_made, e0 204 _ (by decide) (by decide), e0 136 _ (by decide) (by decide)]; simp only [a1, a2, if_true, if_false])⟩⟩
      · refine cw_iconst (v := nI 4294967295) C dd_Mo_advance_32 (by decide +kernel) ?_
        refine cw_goto (tgt := 42) C dd_Mo_advance_33 (by decide) ?_
        refine cw_istore C dd_Mo_advance_42 (Nat.le_of_ble_eq_true rfl) ?_
        refine cw_aload_n C dd_Mo_advance_44 rfl ?_
        refine cw_getr (q' := 204) C wc_34 kF_Mo_59 is_34 (by decide) rfl dd_Mo_advance_45 rfl ?_
        refine cw_iload_n C dd_Mo_advance_48 rfl ?_
        refine cw_dup2 C dd_Mo_advance_49 rfl rfl ?_
        refine nw_ialdv C (X 204 r) is_51 (by omega) (by decide) dd_Mo_advance_50 (e0 _ _ (by decide) (by decide)) ?_
        refine cw_iconst (v := nI 1) C dd_Mo_advance_51 (by decide +kernel) ?_
        refine nw_iadd C dd_Mo_advance_52 ?_
        refine nw_iast C is_51 (by first | omega | (simp [wx_u] <;> omega)) (by decide) dd_Mo_advance_53 ?_
        refine cw_aload_n C dd_Mo_advance_54 rfl ?_
        refine cw_iload_n C dd_Mo_advance_55 rfl ?_
        refine cw_aload_n C dd_Mo_advance_56 rfl ?_
        refine cw_iload_n C dd_Mo_advance_57 rfl ?_
        refine cw_aload_n C dd_Mo_advance_58 rfl ?_
        refine cw_getr (q' := 204) C wc_34 kF_Mo_59 is_34 (by decide) rfl dd_Mo_advance_59 rfl ?_
        refine cw_iload_n C dd_Mo_advance_62 rfl ?_
        refine nw_ialdv C (X 204 r + 1) is_51 (by omega) (by decide) dd_Mo_advance_63 (wx_u_eq _ _ _ _) ?_
        refine cw_iload_n C dd_Mo_advance_64 rfl ?_
        refine cw_iload_n C dd_Mo_advance_65 rfl ?_
        refine cw_iload C dd_Mo_advance_66 rfl ?_
        refine cw_callV (As := [_, _, _, _, _]) C kV_Mo_182 wc_34 is_34 dd_Mo_advance_68 rfl rfl (Nat.le_of_ble_eq_true rfl) ⟨(Nat.le_of_ble_eq_true rfl), (Nat.le_of_ble_eq_true rfl)⟩ ⟨(Nat.le_of_ble_eq_true rfl), (Nat.le_of_ble_eq_true rfl)⟩ (mm_Mo_make _ _ _ _ _ _ (by rw [wx_u_nc (by decide), e0 _ _ (by decide) (by decide)]; exact hv)) (nw_ki ?_)
        rw [wx_u_nc (c := 204) (c' := 136) (by decide), e0 136 _ (by decide) (by decide)]
        refine cw_iconst (v := nI 0) C dd_Mo_advance_71 (by decide +kernel) ?_
        refine cw_callV (As := [_, _, _]) C kV_Mo_130 wc_34 is_34 dd_Mo_advance_72 rfl rfl (Nat.le_of_ble_eq_true rfl) ⟨(Nat.le_of_ble_eq_true rfl), (Nat.le_of_ble_eq_true rfl)⟩ ⟨(Nat.le_of_ble_eq_true rfl), (Nat.le_of_ble_eq_true rfl)⟩ (mm_Mo_say _ _ _ _ (by rw [zm_make_oth _ _ _ _ _ _ (by decide) (by decide) (by decide) (by decide) (by decide) (by decide), wx_u_nc (by decide), e0 _ _ (by decide) (by decide)]; exact hmm hcut)) (nw_ki ?_)
        refine cw_pop C dd_Mo_advance_75 rfl ?_
        refine cw_iload_n C dd_Mo_advance_76 rfl ?_
        refine nw_if_lt (tgt := 87) C dd_Mo_advance_77 (by decide) (by omega) (fun h77 => ?_) (fun h77 => ?_)
        · refine cw_iload C dd_Mo_advance_87 rfl ?_
          refine nw_if_lt (tgt := 100) C dd_Mo_advance_89 (by decide) (by omega) (fun h89 => ?_) (fun h89 => ?_)
          · refine cw_aload_n C dd_Mo_advance_100 rfl ?_
            refine cw_getr (q' := 216) C wc_34 kF_Mo_68 is_34 (by decide) rfl dd_Mo_advance_101 rfl ?_
            refine cw_iload_n C dd_Mo_advance_104 rfl ?_
            refine cw_iconst (v := nI 0) C dd_Mo_advance_105 (by decide +kernel) ?_
            refine nw_iast C is_54 (by first | omega | (simp [wx_u] <;> omega)) (by decide) dd_Mo_advance_106 ?_
            exact cw_vreturn C dd_Mo_advance_107 (Nat.le_of_ble_eq_true rfl) (Nat.le_of_ble_eq_true rfl) ⟨_, rfl, rfl, ⟨rfl, by first | (exfalso; omega) | (have a1 : ¬ (zm_q (zm_wrote X r) r 0) < 2147483648 := (by omega); have a2 : ¬ 4294967295 < 2147483648 := (by omega); rw [zm_advance, if_neg hcut, zm_two, if_neg (by omega), zm_made, e0 204 _ (by decide) (by decide), e0 136 _ (by decide) (by decide)]; simp only [a1, a2, if_true, if_false])⟩⟩
          · refine cw_aload_n C dd_Mo_advance_92 rfl ?_
            refine cw_getr (q' := 156) C wc_34 kF_Mo_22 is_34 (by decide) rfl dd_Mo_advance_93 rfl ?_
            refine cw_iload C dd_Mo_advance_96 rfl ?_
            refine cw_iconst (v := nI 1) C dd_Mo_advance_98 (by decide +kernel) ?_
            refine nw_zast C is_39 (by omega) (by decide) (by decide) dd_Mo_advance_99 ?_
            refine cw_aload_n C dd_Mo_advance_100 rfl ?_
            refine cw_getr (q' := 216) C wc_34 kF_Mo_68 is_34 (by decide) rfl dd_Mo_advance_101 rfl ?_
            refine cw_iload_n C dd_Mo_advance_104 rfl ?_
            refine cw_iconst (v := nI 0) C dd_Mo_advance_105 (by decide +kernel) ?_
            refine nw_iast C is_54 (by first | omega | (simp [wx_u] <;> omega)) (by decide) dd_Mo_advance_106 ?_
            exact cw_vreturn C dd_Mo_advance_107 (Nat.le_of_ble_eq_true rfl) (Nat.le_of_ble_eq_true rfl) ⟨_, rfl, rfl, ⟨rfl, by first | (exfalso; omega) | (have a1 : ¬ (zm_q (zm_wrote X r) r 0) < 2147483648 := (by omega); have a2 : 4294967295 < 2147483648 := (by omega); rw [zm_advance, if_neg hcut, zm_two, if_neg (by omega), zm_made, e0 204 _ (by decide) (by decide), e0 136 _ (by decide) (by decide)]; simp only [a1, a2, if_true, if_false])⟩⟩
        · refine cw_aload_n C dd_Mo_advance_80 rfl ?_
          refine cw_getr (q' := 156) C wc_34 kF_Mo_22 is_34 (by decide) rfl dd_Mo_advance_81 rfl ?_
          refine cw_iload_n C dd_Mo_advance_84 rfl ?_
          refine cw_iconst (v := nI 1) C dd_Mo_advance_85 (by decide +kernel) ?_
          refine nw_zast C is_39 (by omega) (by decide) (by decide) dd_Mo_advance_86 ?_
          refine cw_iload C dd_Mo_advance_87 rfl ?_
          refine nw_if_lt (tgt := 100) C dd_Mo_advance_89 (by decide) (by omega) (fun h89 => ?_) (fun h89 => ?_)
          · refine cw_aload_n C dd_Mo_advance_100 rfl ?_
            refine cw_getr (q' := 216) C wc_34 kF_Mo_68 is_34 (by decide) rfl dd_Mo_advance_101 rfl ?_
            refine cw_iload_n C dd_Mo_advance_104 rfl ?_
            refine cw_iconst (v := nI 0) C dd_Mo_advance_105 (by decide +kernel) ?_
            refine nw_iast C is_54 (by first | omega | (simp [wx_u] <;> omega)) (by decide) dd_Mo_advance_106 ?_
            exact cw_vreturn C dd_Mo_advance_107 (Nat.le_of_ble_eq_true rfl) (Nat.le_of_ble_eq_true rfl) ⟨_, rfl, rfl, ⟨rfl, by first | (exfalso; omega) | (have a1 : (zm_q (zm_wrote X r) r 0) < 2147483648 := (by omega); have a2 : ¬ 4294967295 < 2147483648 := (by omega); rw [zm_advance, if_neg hcut, zm_two, if_neg (by omega), zm_made, e0 204 _ (by decide) (by decide), e0 136 _ (by decide) (by decide)]; simp only [a1, a2, if_true, if_false])⟩⟩
          · refine cw_aload_n C dd_Mo_advance_92 rfl ?_
            refine cw_getr (q' := 156) C wc_34 kF_Mo_22 is_34 (by decide) rfl dd_Mo_advance_93 rfl ?_
            refine cw_iload C dd_Mo_advance_96 rfl ?_
            refine cw_iconst (v := nI 1) C dd_Mo_advance_98 (by decide +kernel) ?_
            refine nw_zast C is_39 (by omega) (by decide) (by decide) dd_Mo_advance_99 ?_
            refine cw_aload_n C dd_Mo_advance_100 rfl ?_
            refine cw_getr (q' := 216) C wc_34 kF_Mo_68 is_34 (by decide) rfl dd_Mo_advance_101 rfl ?_
            refine cw_iload_n C dd_Mo_advance_104 rfl ?_
            refine cw_iconst (v := nI 0) C dd_Mo_advance_105 (by decide +kernel) ?_
            refine nw_iast C is_54 (by first | omega | (simp [wx_u] <;> omega)) (by decide) dd_Mo_advance_106 ?_
            exact cw_vreturn C dd_Mo_advance_107 (Nat.le_of_ble_eq_true rfl) (Nat.le_of_ble_eq_true rfl) ⟨_, rfl, rfl, ⟨rfl, by first | (exfalso; omega) | (have a1 : (zm_q (zm_wrote X r) r 0) < 2147483648 := (by omega); have a2 : 4294967295 < 2147483648 := (by omega); rw [zm_advance, if_neg hcut, zm_two, if_neg (by omega), zm_made, e0 204 _ (by decide) (by decide), e0 136 _ (by decide) (by decide)]; simp only [a1, a2, if_true, if_false])⟩⟩
    · exact absurd h17 (by decide)
