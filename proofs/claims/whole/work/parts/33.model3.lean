def zm_hs (X : wx_S) (r t : Nat) : Nat → Bool
  | 0 => decide (2147483648 ≤ t)
  | i + 1 => zm_hs X r t i || decide (X 244 (40 * r + i) = t)
def zm_msk (X : wx_S) (r : Nat) : Nat → Nat
  | 0 => 0
  | i + 1 => zm_msk X r i ||| 2 ^ X 244 (40 * r + i)
theorem zm_msk_bit (X : wx_S) (r t : Nat) : ∀ n, zm_msk X r n / 2 ^ t % 2 = 1 ↔ ∃ k, k < n ∧ X 244 (40 * r + k) = t
  | 0 => by simp [zm_msk]
  | n + 1 => by
    simp only [zm_msk]
    rw [zn_or_bit]
    by_cases h : t = X 244 (40 * r + n)
    · rw [if_pos h]
      exact ⟨fun _ => ⟨n, by omega, h.symm⟩, fun _ => rfl⟩
    · rw [if_neg h, zm_msk_bit X r t n]
      constructor
      · rintro ⟨k, h1, h2⟩; exact ⟨k, by omega, h2⟩
      · rintro ⟨k, h1, h2⟩
        by_cases e : k = n
        · subst e; exact absurd h2.symm h
        · exact ⟨k, by omega, h2⟩
theorem zm_hs_iff (X : wx_S) (r t : Nat) (ht : t < 2147483648) : ∀ n, zm_hs X r t n = true ↔ zm_msk X r n / 2 ^ t % 2 = 1
  | 0 => by simp [zm_hs, zm_msk, ht]
  | n + 1 => by
    rw [zm_msk_bit]
    simp only [zm_hs, Bool.or_eq_true, decide_eq_true_eq]
    rw [zm_hs_iff X r t ht n, zm_msk_bit]
    constructor
    · rintro (⟨k, h1, h2⟩ | h)
      · exact ⟨k, by omega, h2⟩
      · exact ⟨n, by omega, h⟩
    · rintro ⟨k, h1, h2⟩
      by_cases e : k = n
      · subst e; exact Or.inr h2
      · exact Or.inl ⟨k, by omega, h2⟩
theorem zm_hs_N (X : wx_S) (r : Nat) : ∀ n, zm_hs X r 4294967295 n = true
  | 0 => by simp [zm_hs]
  | n + 1 => by simp [zm_hs, zm_hs_N X r n]
def zm_place (X : wx_S) (r t : Nat) : wx_S :=
  if zm_hs X r t (X 248 r) = true then X
  else if X 148 t ≤ X 252 (4 * r + X 140 t) then
    wx_u (wx_u (wx_u (wx_u X 244 (40 * r + X 248 r) t) 248 r (X 248 r + 1)) 252 (4 * r + X 140 t) (X 252 (4 * r + X 140 t) - X 148 t)) 252 (4 * r + X 144 t) (X 252 (4 * r + X 144 t) + X 148 t)
  else wx_u (wx_u X 244 (40 * r + X 248 r) t) 248 r (X 248 r + 1)
/-- a node's book in the reference -/
def zm_B (X : wx_S) (r : Nat) : Prop := X 248 r = zn_pop (zm_msk X r (X 248 r)) 40 ∧ (∀ k, k < X 248 r → X 244 (40 * r + k) < 40) ∧ X 252 (4 * r) + X 252 (4 * r + 1) + X 252 (4 * r + 2) + X 252 (4 * r + 3) ≤ 400
theorem zm_B_bal {X : wx_S} {r : Nat} (h : zm_B X r) : ∀ a, a < 4 → X 252 (4 * r + a) ≤ 400 := by
  intro a ha
  have := h.2.2
  rcases (show a = 0 ∨ a = 1 ∨ a = 2 ∨ a = 3 by omega) with rfl | rfl | rfl | rfl
  · rw [Nat.add_zero]; omega
  all_goals omega
theorem zm_B_pos {X : wx_S} {r : Nat} (h : zm_B X r) : X 248 r ≤ 40 := by
  rw [h.1]; exact zn_pop_le _ _
set_option maxRecDepth 100000 in
set_option maxHeartbeats 4000000 in
theorem lp_Mo_place {p : Program} {l : Launch} {e : Env} {s : State} {m : MethodId} {args : Array Value} {below : List Frame} {meth : Method} {c : Code} {A : Nat → Prop} {g : wd_G} {G : State → Prop} (X : wx_S) (r : Nat) (hr : r < 4) (t : Nat) (ht : t < 40 ∨ t = 4294967295) (hpos : X 248 r ≤ 40) (hor : ∀ k, k < X 248 r → X 244 (40 * r + k) < 4294967296) (hc : t < 40 → zm_hs X r t (X 248 r) ≠ true → X 248 r < 40) (hf : t < 40 → X 140 t < 4 ∧ X 144 t < 4 ∧ X 148 t < 2147483648 ∧ X 140 t ≠ X 144 t) (hb : ∀ a, a < 4 → X 252 (4 * r + a) < 2147483648) (C : cw_C p s m args meth c A wd_all g cc_Mo_place 5 "DagLedgerModel" none)  (hend : cw_W p l e (cw_rm 1 0 0) s m args below meth c A wd_all g 0 0 G 5 56 [some (.ref 136), some (.int (nI r)), some (.int (nI t)), some (.int (nI (zb_n (zm_hs X r t ((X 248 r)) = true)))), some (.int (nI ((X 248 r))))] [] (wx_e X) (wx_l X)) : ∀ (j i : Nat), i + j = (X 248 r) → cw_W p l e (cw_rm 1 0 0) s m args below meth c A wd_all g 0 0 G 5 13 [some (.ref 136), some (.int (nI r)), some (.int (nI t)), some (.int (nI (zb_n (zm_hs X r t (i) = true)))), some (.int (nI (i)))] [] (wx_e X) (wx_l X) := by
  intro j
  induction j with
  | zero =>
    intro i hij
    refine cw_iload C dd_Mo_place_13 rfl ?_
    refine cw_aload_n C dd_Mo_place_15 rfl ?_
    refine cw_getr (q' := 248) C wc_34 kF_Mo_92 is_34 (by decide) rfl dd_Mo_place_16 rfl ?_
    refine cw_iload_n C dd_Mo_place_19 rfl ?_
    refine nw_iald C is_62 (by first | omega | (simp [wx_u] <;> omega)) (by decide) dd_Mo_place_20 ?_
    refine nw_icmp_ge (tgt := 56) C dd_Mo_place_21 (by decide) (by first | omega | (simp [wx_u] <;> omega)) (by first | omega | (simp [wx_u] <;> omega)) (fun h21 => ?_) (fun h21 => ?_)
    · have hi : i = (X 248 r) := by omega
      rw [hi]
      exact hend
    · exact absurd h21 (by omega)
  | succ j ih =>
    intro i hij
    have g1 := hor i (by omega)
    refine cw_iload C dd_Mo_place_13 rfl ?_
    refine cw_aload_n C dd_Mo_place_15 rfl ?_
    refine cw_getr (q' := 248) C wc_34 kF_Mo_92 is_34 (by decide) rfl dd_Mo_place_16 rfl ?_
    refine cw_iload_n C dd_Mo_place_19 rfl ?_
    refine nw_iald C is_62 (by first | omega | (simp [wx_u] <;> omega)) (by decide) dd_Mo_place_20 ?_
    refine nw_icmp_ge (tgt := 56) C dd_Mo_place_21 (by decide) (by first | omega | (simp [wx_u] <;> omega)) (by first | omega | (simp [wx_u] <;> omega)) (fun h21 => ?_) (fun h21 => ?_)
    · exact absurd h21 (by omega)
    · refine cw_iload_n C dd_Mo_place_24 rfl ?_
      refine nw_zne (tgt := 44) C dd_Mo_place_25 (by decide) (fun h25 => ?_) (fun h25 => ?_)
      · refine cw_iconst (v := nI 1) C dd_Mo_place_44 (by decide +kernel) ?_
        refine cw_goto (tgt := 49) C dd_Mo_place_45 (by decide) ?_
        refine cw_istore_n C dd_Mo_place_49 (Nat.le_of_ble_eq_true rfl) ?_
        refine nw_iinc (b := 1) C dd_Mo_place_50 (by decide +kernel) rfl (Nat.le_of_ble_eq_true rfl) ?_
        refine cw_goto (tgt := 13) C dd_Mo_place_53 (by decide) ?_
        have k9 := ih (i + 1) (by omega)
        have e9 : zm_hs X r t (i + 1) = true := by simp [zm_hs, h25]
        rw [show zb_n (zm_hs X r t (i + 1) = true) = 1 from if_pos e9] at k9
        exact k9
      · refine cw_aload_n C dd_Mo_place_28 rfl ?_
        refine cw_getr (q' := 244) C wc_34 kF_Mo_89 is_34 (by decide) rfl dd_Mo_place_29 rfl ?_
        refine cw_bipush (v := nI 40) C dd_Mo_place_32 (by decide +kernel) ?_
        refine cw_iload_n C dd_Mo_place_34 rfl ?_
        refine nw_imul C dd_Mo_place_35 ?_
        refine cw_iload C dd_Mo_place_36 rfl ?_
        refine nw_iadd C dd_Mo_place_38 ?_
        refine nw_iald C is_61 (by first | omega | (simp [wx_u] <;> omega)) (by decide) dd_Mo_place_39 ?_
        refine cw_iload_n C dd_Mo_place_40 rfl ?_
        refine nw_icmp_ne (tgt := 48) C dd_Mo_place_41 (by decide) (by first | omega | (simp [wx_u] <;> omega)) (by first | omega | (simp [wx_u] <;> omega)) (fun h41 => ?_) (fun h41 => ?_)
        · refine cw_iconst (v := nI 0) C dd_Mo_place_48 (by decide +kernel) ?_
          refine cw_istore_n C dd_Mo_place_49 (Nat.le_of_ble_eq_true rfl) ?_
          refine nw_iinc (b := 1) C dd_Mo_place_50 (by decide +kernel) rfl (Nat.le_of_ble_eq_true rfl) ?_
          refine cw_goto (tgt := 13) C dd_Mo_place_53 (by decide) ?_
          have k9 := ih (i + 1) (by omega)
          have e9 : ¬ zm_hs X r t (i + 1) = true := by simp [zm_hs, h25, h41]
          rw [show zb_n (zm_hs X r t (i + 1) = true) = 0 from if_neg e9] at k9
          exact k9
        · refine cw_iconst (v := nI 1) C dd_Mo_place_44 (by decide +kernel) ?_
          refine cw_goto (tgt := 49) C dd_Mo_place_45 (by decide) ?_
          refine cw_istore_n C dd_Mo_place_49 (Nat.le_of_ble_eq_true rfl) ?_
          refine nw_iinc (b := 1) C dd_Mo_place_50 (by decide +kernel) rfl (Nat.le_of_ble_eq_true rfl) ?_
          refine cw_goto (tgt := 13) C dd_Mo_place_53 (by decide) ?_
          have k9 := ih (i + 1) (by omega)
          have e9 : zm_hs X r t (i + 1) = true := by simp [zm_hs, h41]
          rw [show zb_n (zm_hs X r t (i + 1) = true) = 1 from if_pos e9] at k9
          exact k9
set_option maxRecDepth 100000 in
set_option maxHeartbeats 4000000 in
theorem mm_Mo_place (X : wx_S) (r : Nat) (hr : r < 4) (t : Nat) (ht : t < 40 ∨ t = 4294967295) (hpos : X 248 r ≤ 40) (hor : ∀ k, k < X 248 r → X 244 (40 * r + k) < 4294967296) (hc : t < 40 → zm_hs X r t (X 248 r) ≠ true → X 248 r < 40) (hf : t < 40 → X 140 t < 4 ∧ X 144 t < 4 ∧ X 148 t < 2147483648 ∧ X 140 t ≠ X 144 t) (hb : ∀ a, a < 4 → X 252 (4 * r + a) < 2147483648) : nw_M wd_all yy_Mo_place cc_Mo_place 5 none 1 0 0 [.ref 136, .int (nI r), .int (nI t)] X (fun v X' => v = none ∧ X' = zm_place X r t) := by
  refine nw_of [some (.ref 136), some (.int (nI r)), some (.int (nI t)), none, none] (by decide +kernel) rfl (Nat.le_of_ble_eq_true rfl) rfl ?_
  intro p l e s m args below meth c A g C
  refine cw_iload_n C dd_Mo_place_0 rfl ?_
  refine nw_if_ge (tgt := 8) C dd_Mo_place_1 (by decide) (by omega) (fun h1 => ?_) (fun h1 => ?_)
  · refine cw_iconst (v := nI 0) C dd_Mo_place_8 (by decide +kernel) ?_
    refine cw_istore_n C dd_Mo_place_9 (Nat.le_of_ble_eq_true rfl) ?_
    refine cw_iconst (v := nI 0) C dd_Mo_place_10 (by decide +kernel) ?_
    refine cw_istore C dd_Mo_place_11 (Nat.le_of_ble_eq_true rfl) ?_
    have e0 : zb_n (zm_hs X r t 0 = true) = 0 := by
      refine if_neg (by simp [zm_hs]; omega)
    refine cw_eq (ls' := [some (.ref 136), some (.int (nI r)), some (.int (nI t)), some (.int (nI (zb_n (zm_hs X r t (0) = true)))), some (.int (nI (0)))]) (by rw [e0]; rfl) rfl rfl rfl (lp_Mo_place X r hr t ht hpos hor hc hf hb C ?_ (X 248 r) 0 (by omega))
    refine cw_iload_n C dd_Mo_place_56 rfl ?_
    refine nw_zeq (tgt := 61) C dd_Mo_place_57 (by decide) (fun h57 => ?_) (fun h57 => ?_)
    · have g1 : t < 40 := by
        rcases ht with h | h
        · exact h
        · subst h; exact absurd (zm_hs_N X r _) h57
      have g2 := hf g1
      have g3 := hc g1 h57
      have g4 := hb _ g2.1
      refine cw_aload_n C dd_Mo_place_61 rfl ?_
      refine cw_getr (q' := 244) C wc_34 kF_Mo_89 is_34 (by decide) rfl dd_Mo_place_62 rfl ?_
      refine cw_bipush (v := nI 40) C dd_Mo_place_65 (by decide +kernel) ?_
      refine cw_iload_n C dd_Mo_place_67 rfl ?_
      refine nw_imul C dd_Mo_place_68 ?_
      refine cw_aload_n C dd_Mo_place_69 rfl ?_
      refine cw_getr (q' := 248) C wc_34 kF_Mo_92 is_34 (by decide) rfl dd_Mo_place_70 rfl ?_
      refine cw_iload_n C dd_Mo_place_73 rfl ?_
      refine nw_iald C is_62 (by first | omega | (simp [wx_u] <;> omega)) (by decide) dd_Mo_place_74 ?_
      refine nw_iadd C dd_Mo_place_75 ?_
      refine cw_iload_n C dd_Mo_place_76 rfl ?_
      refine nw_iast C is_61 (by first | omega | (simp [wx_u] <;> omega)) (by decide) dd_Mo_place_77 ?_
      refine cw_aload_n C dd_Mo_place_78 rfl ?_
      refine cw_getr (q' := 248) C wc_34 kF_Mo_92 is_34 (by decide) rfl dd_Mo_place_79 rfl ?_
      refine cw_iload_n C dd_Mo_place_82 rfl ?_
      refine cw_dup2 C dd_Mo_place_83 rfl rfl ?_
      refine nw_ialdv C (X 248 r) is_62 (by first | omega | (simp [wx_u] <;> omega)) (by decide) dd_Mo_place_84 (by repeat (first | rfl | rw [wx_u_eq] | rw [wx_u_nc (by omega)] | rw [wx_u_nk (by omega)])) ?_
      refine cw_iconst (v := nI 1) C dd_Mo_place_85 (by decide +kernel) ?_
      refine nw_iadd C dd_Mo_place_86 ?_
      refine nw_iast C is_62 (by first | omega | (simp [wx_u] <;> omega)) (by decide) dd_Mo_place_87 ?_
      refine cw_aload_n C dd_Mo_place_88 rfl ?_
      refine cw_getr (q' := 252) C wc_34 kF_Mo_95 is_34 (by decide) rfl dd_Mo_place_89 rfl ?_
      refine cw_iconst (v := nI 4) C dd_Mo_place_92 (by decide +kernel) ?_
      refine cw_iload_n C dd_Mo_place_93 rfl ?_
      refine nw_imul C dd_Mo_place_94 ?_
      refine cw_aload_n C dd_Mo_place_95 rfl ?_
      refine cw_getr (q' := 140) C wc_34 kF_Mo_7 is_34 (by decide) rfl dd_Mo_place_96 rfl ?_
      refine cw_iload_n C dd_Mo_place_99 rfl ?_
      refine nw_ialdv C (X 140 t) is_35 (by first | omega | (simp [wx_u] <;> omega)) (by decide) dd_Mo_place_100 (by repeat (first | rfl | rw [wx_u_eq] | rw [wx_u_nc (by omega)] | rw [wx_u_nk (by omega)])) ?_
      refine nw_iadd C dd_Mo_place_101 ?_
      refine nw_ialdv C (X 252 ((4 * r) + X 140 t)) is_63 (by first | omega | (simp [wx_u] <;> omega)) (by decide) dd_Mo_place_102 (by repeat (first | rfl | rw [wx_u_eq] | rw [wx_u_nc (by omega)] | rw [wx_u_nk (by omega)])) ?_
      refine cw_aload_n C dd_Mo_place_103 rfl ?_
      refine cw_getr (q' := 148) C wc_34 kF_Mo_16 is_34 (by decide) rfl dd_Mo_place_104 rfl ?_
      refine cw_iload_n C dd_Mo_place_107 rfl ?_
      refine nw_ialdv C (X 148 t) is_37 (by first | omega | (simp [wx_u] <;> omega)) (by decide) dd_Mo_place_108 (by repeat (first | rfl | rw [wx_u_eq] | rw [wx_u_nc (by omega)] | rw [wx_u_nk (by omega)])) ?_
      refine nw_icmp_lt (tgt := 160) C dd_Mo_place_109 (by decide) (by first | omega | (simp [wx_u] <;> omega)) (by first | omega | (simp [wx_u] <;> omega)) (fun h109 => ?_) (fun h109 => ?_)
      · exact cw_vreturn C dd_Mo_place_160 (Nat.le_of_ble_eq_true rfl) (Nat.le_of_ble_eq_true rfl) ⟨_, rfl, rfl, ⟨rfl, by first | (exfalso; omega) | (rw [zm_place, if_neg h57, if_pos (by omega)]) | (rw [zm_place, if_neg h57, if_neg (by omega)])⟩⟩
      · refine cw_aload_n C dd_Mo_place_112 rfl ?_
        refine cw_getr (q' := 252) C wc_34 kF_Mo_95 is_34 (by decide) rfl dd_Mo_place_113 rfl ?_
        refine cw_iconst (v := nI 4) C dd_Mo_place_116 (by decide +kernel) ?_
        refine cw_iload_n C dd_Mo_place_117 rfl ?_
        refine nw_imul C dd_Mo_place_118 ?_
        refine cw_aload_n C dd_Mo_place_119 rfl ?_
        refine cw_getr (q' := 140) C wc_34 kF_Mo_7 is_34 (by decide) rfl dd_Mo_place_120 rfl ?_
        refine cw_iload_n C dd_Mo_place_123 rfl ?_
        refine nw_ialdv C (X 140 t) is_35 (by first | omega | (simp [wx_u] <;> omega)) (by decide) dd_Mo_place_124 (by repeat (first | rfl | rw [wx_u_eq] | rw [wx_u_nc (by omega)] | rw [wx_u_nk (by omega)])) ?_
        refine nw_iadd C dd_Mo_place_125 ?_
        refine cw_dup2 C dd_Mo_place_126 rfl rfl ?_
        refine nw_ialdv C (X 252 ((4 * r) + X 140 t)) is_63 (by first | omega | (simp [wx_u] <;> omega)) (by decide) dd_Mo_place_127 (by repeat (first | rfl | rw [wx_u_eq] | rw [wx_u_nc (by omega)] | rw [wx_u_nk (by omega)])) ?_
        refine cw_aload_n C dd_Mo_place_128 rfl ?_
        refine cw_getr (q' := 148) C wc_34 kF_Mo_16 is_34 (by decide) rfl dd_Mo_place_129 rfl ?_
        refine cw_iload_n C dd_Mo_place_132 rfl ?_
        refine nw_ialdv C (X 148 t) is_37 (by first | omega | (simp [wx_u] <;> omega)) (by decide) dd_Mo_place_133 (by repeat (first | rfl | rw [wx_u_eq] | rw [wx_u_nc (by omega)] | rw [wx_u_nk (by omega)])) ?_
        refine nw_isub C dd_Mo_place_134 (by first | omega | (simp [wx_u] <;> omega)) ?_
        refine nw_iast C is_63 (by first | omega | (simp [wx_u] <;> omega)) (by decide) dd_Mo_place_135 ?_
        refine cw_aload_n C dd_Mo_place_136 rfl ?_
        refine cw_getr (q' := 252) C wc_34 kF_Mo_95 is_34 (by decide) rfl dd_Mo_place_137 rfl ?_
        refine cw_iconst (v := nI 4) C dd_Mo_place_140 (by decide +kernel) ?_
        refine cw_iload_n C dd_Mo_place_141 rfl ?_
        refine nw_imul C dd_Mo_place_142 ?_
        refine cw_aload_n C dd_Mo_place_143 rfl ?_
        refine cw_getr (q' := 144) C wc_34 kF_Mo_13 is_34 (by decide) rfl dd_Mo_place_144 rfl ?_
        refine cw_iload_n C dd_Mo_place_147 rfl ?_
        refine nw_ialdv C (X 144 t) is_36 (by first | omega | (simp [wx_u] <;> omega)) (by decide) dd_Mo_place_148 (by repeat (first | rfl | rw [wx_u_eq] | rw [wx_u_nc (by omega)] | rw [wx_u_nk (by omega)])) ?_
        refine nw_iadd C dd_Mo_place_149 ?_
        refine cw_dup2 C dd_Mo_place_150 rfl rfl ?_
        refine nw_ialdv C (X 252 (4 * r + X 144 t)) is_63 (by first | omega | (simp [wx_u] <;> omega)) (by decide) dd_Mo_place_151 (by repeat (first | rfl | rw [wx_u_eq] | rw [wx_u_nc (by omega)] | rw [wx_u_nk (by omega)])) ?_
        refine cw_aload_n C dd_Mo_place_152 rfl ?_
        refine cw_getr (q' := 148) C wc_34 kF_Mo_16 is_34 (by decide) rfl dd_Mo_place_153 rfl ?_
        refine cw_iload_n C dd_Mo_place_156 rfl ?_
        refine nw_ialdv C (X 148 t) is_37 (by first | omega | (simp [wx_u] <;> omega)) (by decide) dd_Mo_place_157 (by repeat (first | rfl | rw [wx_u_eq] | rw [wx_u_nc (by omega)] | rw [wx_u_nk (by omega)])) ?_
        refine nw_iadd C dd_Mo_place_158 ?_
        refine nw_iast C is_63 (by first | omega | (simp [wx_u] <;> omega)) (by decide) dd_Mo_place_159 ?_
        exact cw_vreturn C dd_Mo_place_160 (Nat.le_of_ble_eq_true rfl) (Nat.le_of_ble_eq_true rfl) ⟨_, rfl, rfl, ⟨rfl, by first | (exfalso; omega) | (rw [zm_place, if_neg h57, if_pos (by omega)]) | (rw [zm_place, if_neg h57, if_neg (by omega)])⟩⟩
    · exact cw_vreturn C dd_Mo_place_60 (Nat.le_of_ble_eq_true rfl) (Nat.le_of_ble_eq_true rfl) ⟨_, rfl, rfl, ⟨rfl, by rw [zm_place, if_pos h57]⟩⟩
  · refine cw_iconst (v := nI 1) C dd_Mo_place_4 (by decide +kernel) ?_
    refine cw_goto (tgt := 9) C dd_Mo_place_5 (by decide) ?_
    refine cw_istore_n C dd_Mo_place_9 (Nat.le_of_ble_eq_true rfl) ?_
    refine cw_iconst (v := nI 0) C dd_Mo_place_10 (by decide +kernel) ?_
    refine cw_istore C dd_Mo_place_11 (Nat.le_of_ble_eq_true rfl) ?_
    have e0 : zb_n (zm_hs X r t 0 = true) = 1 := by
      refine if_pos (by simp [zm_hs]; omega)
    refine cw_eq (ls' := [some (.ref 136), some (.int (nI r)), some (.int (nI t)), some (.int (nI (zb_n (zm_hs X r t (0) = true)))), some (.int (nI (0)))]) (by rw [e0]; rfl) rfl rfl rfl (lp_Mo_place X r hr t ht hpos hor hc hf hb C ?_ (X 248 r) 0 (by omega))
    refine cw_iload_n C dd_Mo_place_56 rfl ?_
    refine nw_zeq (tgt := 61) C dd_Mo_place_57 (by decide) (fun h57 => ?_) (fun h57 => ?_)
    · have g1 : t < 40 := by
        rcases ht with h | h
        · exact h
        · subst h; exact absurd (zm_hs_N X r _) h57
      have g2 := hf g1
      have g3 := hc g1 h57
      have g4 := hb _ g2.1
      refine cw_aload_n C dd_Mo_place_61 rfl ?_
      refine cw_getr (q' := 244) C wc_34 kF_Mo_89 is_34 (by decide) rfl dd_Mo_place_62 rfl ?_
      refine cw_bipush (v := nI 40) C dd_Mo_place_65 (by decide +kernel) ?_
      refine cw_iload_n C dd_Mo_place_67 rfl ?_
      refine nw_imul C dd_Mo_place_68 ?_
      refine cw_aload_n C dd_Mo_place_69 rfl ?_
      refine cw_getr (q' := 248) C wc_34 kF_Mo_92 is_34 (by decide) rfl dd_Mo_place_70 rfl ?_
      refine cw_iload_n C dd_Mo_place_73 rfl ?_
      refine nw_iald C is_62 (by first | omega | (simp [wx_u] <;> omega)) (by decide) dd_Mo_place_74 ?_
      refine nw_iadd C dd_Mo_place_75 ?_
      refine cw_iload_n C dd_Mo_place_76 rfl ?_
      refine nw_iast C is_61 (by first | omega | (simp [wx_u] <;> omega)) (by decide) dd_Mo_place_77 ?_
      refine cw_aload_n C dd_Mo_place_78 rfl ?_
      refine cw_getr (q' := 248) C wc_34 kF_Mo_92 is_34 (by decide) rfl dd_Mo_place_79 rfl ?_
      refine cw_iload_n C dd_Mo_place_82 rfl ?_
      refine cw_dup2 C dd_Mo_place_83 rfl rfl ?_
      refine nw_ialdv C (X 248 r) is_62 (by first | omega | (simp [wx_u] <;> omega)) (by decide) dd_Mo_place_84 (by repeat (first | rfl | rw [wx_u_eq] | rw [wx_u_nc (by omega)] | rw [wx_u_nk (by omega)])) ?_
      refine cw_iconst (v := nI 1) C dd_Mo_place_85 (by decide +kernel) ?_
      refine nw_iadd C dd_Mo_place_86 ?_
      refine nw_iast C is_62 (by first | omega | (simp [wx_u] <;> omega)) (by decide) dd_Mo_place_87 ?_
      refine cw_aload_n C dd_Mo_place_88 rfl ?_
      refine cw_getr (q' := 252) C wc_34 kF_Mo_95 is_34 (by decide) rfl dd_Mo_place_89 rfl ?_
      refine cw_iconst (v := nI 4) C dd_Mo_place_92 (by decide +kernel) ?_
      refine cw_iload_n C dd_Mo_place_93 rfl ?_
      refine nw_imul C dd_Mo_place_94 ?_
      refine cw_aload_n C dd_Mo_place_95 rfl ?_
      refine cw_getr (q' := 140) C wc_34 kF_Mo_7 is_34 (by decide) rfl dd_Mo_place_96 rfl ?_
      refine cw_iload_n C dd_Mo_place_99 rfl ?_
      refine nw_ialdv C (X 140 t) is_35 (by first | omega | (simp [wx_u] <;> omega)) (by decide) dd_Mo_place_100 (by repeat (first | rfl | rw [wx_u_eq] | rw [wx_u_nc (by omega)] | rw [wx_u_nk (by omega)])) ?_
      refine nw_iadd C dd_Mo_place_101 ?_
      refine nw_ialdv C (X 252 ((4 * r) + X 140 t)) is_63 (by first | omega | (simp [wx_u] <;> omega)) (by decide) dd_Mo_place_102 (by repeat (first | rfl | rw [wx_u_eq] | rw [wx_u_nc (by omega)] | rw [wx_u_nk (by omega)])) ?_
      refine cw_aload_n C dd_Mo_place_103 rfl ?_
      refine cw_getr (q' := 148) C wc_34 kF_Mo_16 is_34 (by decide) rfl dd_Mo_place_104 rfl ?_
      refine cw_iload_n C dd_Mo_place_107 rfl ?_
      refine nw_ialdv C (X 148 t) is_37 (by first | omega | (simp [wx_u] <;> omega)) (by decide) dd_Mo_place_108 (by repeat (first | rfl | rw [wx_u_eq] | rw [wx_u_nc (by omega)] | rw [wx_u_nk (by omega)])) ?_
      refine nw_icmp_lt (tgt := 160) C dd_Mo_place_109 (by decide) (by first | omega | (simp [wx_u] <;> omega)) (by first | omega | (simp [wx_u] <;> omega)) (fun h109 => ?_) (fun h109 => ?_)
      · exact cw_vreturn C dd_Mo_place_160 (Nat.le_of_ble_eq_true rfl) (Nat.le_of_ble_eq_true rfl) ⟨_, rfl, rfl, ⟨rfl, by first | (exfalso; omega) | (rw [zm_place, if_neg h57, if_pos (by omega)]) | (rw [zm_place, if_neg h57, if_neg (by omega)])⟩⟩
      · refine cw_aload_n C dd_Mo_place_112 rfl ?_
        refine cw_getr (q' := 252) C wc_34 kF_Mo_95 is_34 (by decide) rfl dd_Mo_place_113 rfl ?_
        refine cw_iconst (v := nI 4) C dd_Mo_place_116 (by decide +kernel) ?_
        refine cw_iload_n C dd_Mo_place_117 rfl ?_
        refine nw_imul C dd_Mo_place_118 ?_
        refine cw_aload_n C dd_Mo_place_119 rfl ?_
        refine cw_getr (q' := 140) C wc_34 kF_Mo_7 is_34 (by decide) rfl dd_Mo_place_120 rfl ?_
        refine cw_iload_n C dd_Mo_place_123 rfl ?_
        refine nw_ialdv C (X 140 t) is_35 (by first | omega | (simp [wx_u] <;> omega)) (by decide) dd_Mo_place_124 (by repeat (first | rfl | rw [wx_u_eq] | rw [wx_u_nc (by omega)] | rw [wx_u_nk (by omega)])) ?_
        refine nw_iadd C dd_Mo_place_125 ?_
        refine cw_dup2 C dd_Mo_place_126 rfl rfl ?_
        refine nw_ialdv C (X 252 ((4 * r) + X 140 t)) is_63 (by first | omega | (simp [wx_u] <;> omega)) (by decide) dd_Mo_place_127 (by repeat (first | rfl | rw [wx_u_eq] | rw [wx_u_nc (by omega)] | rw [wx_u_nk (by omega)])) ?_
        refine cw_aload_n C dd_Mo_place_128 rfl ?_
        refine cw_getr (q' := 148) C wc_34 kF_Mo_16 is_34 (by decide) rfl dd_Mo_place_129 rfl ?_
        refine cw_iload_n C dd_Mo_place_132 rfl ?_
        refine nw_ialdv C (X 148 t) is_37 (by first | omega | (simp [wx_u] <;> omega)) (by decide) dd_Mo_place_133 (by repeat (first | rfl | rw [wx_u_eq] | rw [wx_u_nc (by omega)] | rw [wx_u_nk (by omega)])) ?_
        refine nw_isub C dd_Mo_place_134 (by first | omega | (simp [wx_u] <;> omega)) ?_
        refine nw_iast C is_63 (by first | omega | (simp [wx_u] <;> omega)) (by decide) dd_Mo_place_135 ?_
        refine cw_aload_n C dd_Mo_place_136 rfl ?_
        refine cw_getr (q' := 252) C wc_34 kF_Mo_95 is_34 (by decide) rfl dd_Mo_place_137 rfl ?_
        refine cw_iconst (v := nI 4) C dd_Mo_place_140 (by decide +kernel) ?_
        refine cw_iload_n C dd_Mo_place_141 rfl ?_
        refine nw_imul C dd_Mo_place_142 ?_
        refine cw_aload_n C dd_Mo_place_143 rfl ?_
        refine cw_getr (q' := 144) C wc_34 kF_Mo_13 is_34 (by decide) rfl dd_Mo_place_144 rfl ?_
        refine cw_iload_n C dd_Mo_place_147 rfl ?_
        refine nw_ialdv C (X 144 t) is_36 (by first | omega | (simp [wx_u] <;> omega)) (by decide) dd_Mo_place_148 (by repeat (first | rfl | rw [wx_u_eq] | rw [wx_u_nc (by omega)] | rw [wx_u_nk (by omega)])) ?_
        refine nw_iadd C dd_Mo_place_149 ?_
        refine cw_dup2 C dd_Mo_place_150 rfl rfl ?_
        refine nw_ialdv C (X 252 (4 * r + X 144 t)) is_63 (by first | omega | (simp [wx_u] <;> omega)) (by decide) dd_Mo_place_151 (by repeat (first | rfl | rw [wx_u_eq] | rw [wx_u_nc (by omega)] | rw [wx_u_nk (by omega)])) ?_
        refine cw_aload_n C dd_Mo_place_152 rfl ?_
        refine cw_getr (q' := 148) C wc_34 kF_Mo_16 is_34 (by decide) rfl dd_Mo_place_153 rfl ?_
        refine cw_iload_n C dd_Mo_place_156 rfl ?_
        refine nw_ialdv C (X 148 t) is_37 (by first | omega | (simp [wx_u] <;> omega)) (by decide) dd_Mo_place_157 (by repeat (first | rfl | rw [wx_u_eq] | rw [wx_u_nc (by omega)] | rw [wx_u_nk (by omega)])) ?_
        refine nw_iadd C dd_Mo_place_158 ?_
        refine nw_iast C is_63 (by first | omega | (simp [wx_u] <;> omega)) (by decide) dd_Mo_place_159 ?_
        exact cw_vreturn C dd_Mo_place_160 (Nat.le_of_ble_eq_true rfl) (Nat.le_of_ble_eq_true rfl) ⟨_, rfl, rfl, ⟨rfl, by first | (exfalso; omega) | (rw [zm_place, if_neg h57, if_pos (by omega)]) | (rw [zm_place, if_neg h57, if_neg (by omega)])⟩⟩
    · exact cw_vreturn C dd_Mo_place_60 (Nat.le_of_ble_eq_true rfl) (Nat.le_of_ble_eq_true rfl) ⟨_, rfl, rfl, ⟨rfl, by rw [zm_place, if_pos h57]⟩⟩
