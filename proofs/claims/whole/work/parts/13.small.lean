theorem zn_bc : ∀ n, n < 16 →
    (let i0 := nI n
     let i1 := i0 - ((i0.toUInt32 >>> ((nI 1).toUInt32 &&& Int32.toUInt32 31)).toInt32 &&& 1431655765)
     let i2 := (i1 &&& 858993459) + ((i1.toUInt32 >>> ((nI 2).toUInt32 &&& Int32.toUInt32 31)).toInt32 &&& 858993459)
     let i3 := (i2 + (i2.toUInt32 >>> ((nI 4).toUInt32 &&& Int32.toUInt32 31)).toInt32) &&& 252645135
     let i4 := i3 + (i3.toUInt32 >>> ((nI 8).toUInt32 &&& Int32.toUInt32 31)).toInt32
     let i5 := i4 + (i4.toUInt32 >>> ((nI 16).toUInt32 &&& Int32.toUInt32 31)).toInt32
     i5 &&& nI 63) = nI (zn_ones n) := by decide +kernel
set_option maxRecDepth 100000 in
set_option maxHeartbeats 4000000 in
theorem mm_In_bitCount (X : wx_S) (n : Nat) (hn : n < 16) : nw_M wd_all yy_In_bitCount cc_In_bitCount 1 (some .int) 1 0 0 [.int (nI n)] X (fun v X' => v = some (.int (nI (zn_ones n))) ∧ X' = X) := by
  refine nw_of [some (.int (nI n))] (by decide +kernel) rfl (Nat.le_of_ble_eq_true rfl) rfl ?_
  intro p l e s m args below meth c A g C
  refine cw_iload_n C dd_In_bitCount_0 rfl ?_
  refine cw_iload_n C dd_In_bitCount_1 rfl ?_
  refine cw_iconst (v := nI 1) C dd_In_bitCount_2 (by decide +kernel) ?_
  refine cw_iushr C dd_In_bitCount_3 ?_
  refine cw_ldcw C kC_In_265 dd_In_bitCount_4 ?_
  refine cw_iand C dd_In_bitCount_7 ?_
  refine cw_isub C dd_In_bitCount_8 ?_
  refine cw_istore_n C dd_In_bitCount_9 (Nat.le_of_ble_eq_true rfl) ?_
  refine cw_iload_n C dd_In_bitCount_10 rfl ?_
  refine cw_ldcw C kC_In_266 dd_In_bitCount_11 ?_
  refine cw_iand C dd_In_bitCount_14 ?_
  refine cw_iload_n C dd_In_bitCount_15 rfl ?_
  refine cw_iconst (v := nI 2) C dd_In_bitCount_16 (by decide +kernel) ?_
  refine cw_iushr C dd_In_bitCount_17 ?_
  refine cw_ldcw C kC_In_266 dd_In_bitCount_18 ?_
  refine cw_iand C dd_In_bitCount_21 ?_
  refine cw_iadd C dd_In_bitCount_22 ?_
  refine cw_istore_n C dd_In_bitCount_23 (Nat.le_of_ble_eq_true rfl) ?_
  refine cw_iload_n C dd_In_bitCount_24 rfl ?_
  refine cw_iload_n C dd_In_bitCount_25 rfl ?_
  refine cw_iconst (v := nI 4) C dd_In_bitCount_26 (by decide +kernel) ?_
  refine cw_iushr C dd_In_bitCount_27 ?_
  refine cw_iadd C dd_In_bitCount_28 ?_
  refine cw_ldcw C kC_In_267 dd_In_bitCount_29 ?_
  refine cw_iand C dd_In_bitCount_32 ?_
  refine cw_istore_n C dd_In_bitCount_33 (Nat.le_of_ble_eq_true rfl) ?_
  refine cw_iload_n C dd_In_bitCount_34 rfl ?_
  refine cw_iload_n C dd_In_bitCount_35 rfl ?_
  refine cw_bipush (v := nI 8) C dd_In_bitCount_36 (by decide +kernel) ?_
  refine cw_iushr C dd_In_bitCount_38 ?_
  refine cw_iadd C dd_In_bitCount_39 ?_
  refine cw_istore_n C dd_In_bitCount_40 (Nat.le_of_ble_eq_true rfl) ?_
  refine cw_iload_n C dd_In_bitCount_41 rfl ?_
  refine cw_iload_n C dd_In_bitCount_42 rfl ?_
  refine cw_bipush (v := nI 16) C dd_In_bitCount_43 (by decide +kernel) ?_
  refine cw_iushr C dd_In_bitCount_45 ?_
  refine cw_iadd C dd_In_bitCount_46 ?_
  refine cw_istore_n C dd_In_bitCount_47 (Nat.le_of_ble_eq_true rfl) ?_
  refine cw_iload_n C dd_In_bitCount_48 rfl ?_
  refine cw_bipush (v := nI 63) C dd_In_bitCount_49 (by decide +kernel) ?_
  refine cw_iand C dd_In_bitCount_51 ?_
  exact cw_ireturn C dd_In_bitCount_52 (Nat.le_of_ble_eq_true rfl) (Nat.le_of_ble_eq_true rfl) ⟨_, rfl, rfl, ⟨congrArg (fun z => some (Value.int z)) (zn_bc n hn), rfl⟩⟩
set_option maxRecDepth 100000 in
set_option maxHeartbeats 4000000 in
theorem lp_Ar_fill {p : Program} {l : Launch} {e : Env} {s : State} {m : MethodId} {args : Array Value} {below : List Frame} {meth : Method} {c : Code} {A : Nat → Prop} {g : wd_G} {G : State → Prop} {ids : List Nat} (X : wx_S) (q n val : Nat) (fl : List (Nat × Nat)) (hi : wd_is ids q (0, n, fl)) (hn : n < 2147483648) (C : cw_C p s m args meth c A ids g cc_Ar_fill 4 "java/util/Arrays" none)  (hend : cw_W p l e (cw_rm 1 0 0) s m args below meth c A ids g 0 0 G 4 20 [some (.ref q), some (.int (nI val)), some (.int (nI (n))), some (.int (nI n))] [] (wx_e (zz_fill X q (n) val)) (wx_l (zz_fill X q (n) val))) : ∀ (j i : Nat), i + j = n → cw_W p l e (cw_rm 1 0 0) s m args below meth c A ids g 0 0 G 4 5 [some (.ref q), some (.int (nI val)), some (.int (nI (i))), some (.int (nI n))] [] (wx_e (zz_fill X q (i) val)) (wx_l (zz_fill X q (i) val)) := by
  intro j
  induction j with
  | zero =>
    intro i hij
    refine cw_iload_n C dd_Ar_fill_5 rfl ?_
    refine cw_iload_n C dd_Ar_fill_6 rfl ?_
    refine nw_icmp_ge (tgt := 20) C dd_Ar_fill_7 (by decide) (by first | omega | (simp [wx_u] <;> omega)) (by first | omega | (simp [wx_u] <;> omega)) (fun h7 => ?_) (fun h7 => ?_)
    · have hi : i = n := by omega
      rw [hi]
      exact hend
    · exact absurd h7 (by omega)
  | succ j ih =>
    intro i hij
    refine cw_iload_n C dd_Ar_fill_5 rfl ?_
    refine cw_iload_n C dd_Ar_fill_6 rfl ?_
    refine nw_icmp_ge (tgt := 20) C dd_Ar_fill_7 (by decide) (by first | omega | (simp [wx_u] <;> omega)) (by first | omega | (simp [wx_u] <;> omega)) (fun h7 => ?_) (fun h7 => ?_)
    · exact absurd h7 (by omega)
    · refine cw_aload_n C dd_Ar_fill_10 rfl ?_
      refine cw_iload_n C dd_Ar_fill_11 rfl ?_
      refine cw_iload_n C dd_Ar_fill_12 rfl ?_
      refine nw_iast C hi (by omega) hn dd_Ar_fill_13 ?_
      refine nw_iinc (b := 1) C dd_Ar_fill_14 (by decide +kernel) rfl (Nat.le_of_ble_eq_true rfl) ?_
      refine cw_goto (tgt := 5) C dd_Ar_fill_17 (by decide) ?_
      exact nw_eqX (zz_fill_s X q i val) (ih (i + 1) (by omega))
set_option maxRecDepth 100000 in
set_option maxHeartbeats 4000000 in
theorem mm_Ar_fill {ids : List Nat} (X : wx_S) (q n val : Nat) (fl : List (Nat × Nat)) (hi : wd_is ids q (0, n, fl)) (hn : n < 2147483648) : nw_M ids yy_Ar_fill cc_Ar_fill 4 none 1 0 0 [.ref q, .int (nI val)] X (fun v X' => v = none ∧ X' = zz_fill X q n val) := by
  refine nw_of [some (.ref q), some (.int (nI val)), none, none] (by decide +kernel) rfl (Nat.le_of_ble_eq_true rfl) rfl ?_
  intro p l e s m args below meth c A g C
  refine cw_iconst (v := nI 0) C dd_Ar_fill_0 (by decide +kernel) ?_
  refine cw_istore_n C dd_Ar_fill_1 (Nat.le_of_ble_eq_true rfl) ?_
  refine cw_aload_n C dd_Ar_fill_2 rfl ?_
  refine cw_alen C hi dd_Ar_fill_3 ?_
  refine cw_istore_n C dd_Ar_fill_4 (Nat.le_of_ble_eq_true rfl) ?_
  refine lp_Ar_fill X q n val fl hi hn C ?_ n 0 (by omega) |> nw_eqX (zz_fill_0 X q val).symm
  exact cw_vreturn C dd_Ar_fill_20 (Nat.le_of_ble_eq_true rfl) (Nat.le_of_ble_eq_true rfl) ⟨_, rfl, rfl, ⟨rfl, rfl⟩⟩
set_option maxRecDepth 100000 in
set_option maxHeartbeats 4000000 in
theorem mm_Le_contains (X : wx_S) (a b : Nat) (ha : a < 2147483648) (hb : b < 32) : nw_M wd_all yy_Le_contains cc_Le_contains 2 (some .boolean) 1 0 0 [.int (nI a), .int (nI b)] X (fun v X' => v = some (.int (nI (zb_n (a / 2 ^ b % 2 = 1)))) ∧ X' = X) := by
  refine nw_of [some (.int (nI a)), some (.int (nI b))] (by decide +kernel) rfl (Nat.le_of_ble_eq_true rfl) rfl ?_
  intro p l e s m args below meth c A g C
  refine cw_iload_n C dd_Le_contains_0 rfl ?_
  refine cw_iload_n C dd_Le_contains_1 rfl ?_
  refine nw_ishr C dd_Le_contains_2 (by first | omega | (simp [wx_u] <;> omega)) (by first | omega | (simp [wx_u] <;> omega)) ?_
  refine cw_iconst (v := nI 1) C dd_Le_contains_3 (by decide +kernel) ?_
  refine nw_iand1 C dd_Le_contains_4 ?_
  refine cw_iconst (v := nI 1) C dd_Le_contains_5 (by decide +kernel) ?_
  refine nw_icmp_ne (tgt := 13) C dd_Le_contains_6 (by decide) (by first | omega | (simp [wx_u] <;> omega)) (by first | omega | (simp [wx_u] <;> omega)) (fun h6 => ?_) (fun h6 => ?_)
  · refine cw_iconst (v := nI 0) C dd_Le_contains_13 (by decide +kernel) ?_
    exact cw_zreturn C dd_Le_contains_14 (nw_zn (by decide)) (Nat.le_of_ble_eq_true rfl) (Nat.le_of_ble_eq_true rfl) ⟨_, rfl, rfl, ⟨by first | exact congrArg (fun z => some (Value.int z)) (zb_t (by first | omega | (simp [wx_u] <;> omega))) | exact congrArg (fun z => some (Value.int z)) (zb_f (by first | omega | (simp [wx_u] <;> omega))), rfl⟩⟩
  · refine cw_iconst (v := nI 1) C dd_Le_contains_9 (by decide +kernel) ?_
    refine cw_goto (tgt := 14) C dd_Le_contains_10 (by decide) ?_
    exact cw_zreturn C dd_Le_contains_14 (nw_zn (by decide)) (Nat.le_of_ble_eq_true rfl) (Nat.le_of_ble_eq_true rfl) ⟨_, rfl, rfl, ⟨by first | exact congrArg (fun z => some (Value.int z)) (zb_t (by first | omega | (simp [wx_u] <;> omega))) | exact congrArg (fun z => some (Value.int z)) (zb_f (by first | omega | (simp [wx_u] <;> omega))), rfl⟩⟩
set_option maxRecDepth 100000 in
set_option maxHeartbeats 4000000 in
theorem mm_Le_leaderOf (X : wx_S) (w : Nat) (hw : w < 2147483648) : nw_M wd_all yy_Le_leaderOf cc_Le_leaderOf 1 (some .int) 1 0 0 [.int (nI w)] X (fun v X' => v = some (.int (nI (w / 2 % 4))) ∧ X' = X) := by
  refine nw_of [some (.int (nI w))] (by decide +kernel) rfl (Nat.le_of_ble_eq_true rfl) rfl ?_
  intro p l e s m args below meth c A g C
  refine cw_iload_n C dd_Le_leaderOf_0 rfl ?_
  refine cw_iconst (v := nI 2) C dd_Le_leaderOf_1 (by decide +kernel) ?_
  refine nw_idiv C dd_Le_leaderOf_2 (by first | omega | (simp [wx_u] <;> omega)) (by decide) (by decide) ?_
  refine cw_iconst (v := nI 4) C dd_Le_leaderOf_3 (by decide +kernel) ?_
  refine nw_irem C dd_Le_leaderOf_4 (by first | omega | (simp [wx_u] <;> omega)) (by decide) (by decide) ?_
  exact cw_ireturn C dd_Le_leaderOf_5 (Nat.le_of_ble_eq_true rfl) (Nat.le_of_ble_eq_true rfl) ⟨_, rfl, rfl, ⟨by first | rfl | simp [wx_u], by first | rfl | simp [wx_u]⟩⟩
set_option maxRecDepth 100000 in
set_option maxHeartbeats 4000000 in
theorem mm_Le_isAccount (X : wx_S) (n : Nat) (hn : n < 4294967296) : nw_M wd_all yy_Le_isAccount cc_Le_isAccount 1 (some .boolean) 1 0 0 [.int (nI n)] X (fun v X' => v = some (.int (nI (zb_n (n < 4)))) ∧ X' = X) := by
  refine nw_of [some (.int (nI n))] (by decide +kernel) rfl (Nat.le_of_ble_eq_true rfl) rfl ?_
  intro p l e s m args below meth c A g C
  refine cw_iload_n C dd_Le_isAccount_0 rfl ?_
  refine nw_if_lt (tgt := 13) C dd_Le_isAccount_1 (by decide) (by first | omega | (simp [wx_u] <;> omega)) (fun h1 => ?_) (fun h1 => ?_)
  · refine cw_iconst (v := nI 0) C dd_Le_isAccount_13 (by decide +kernel) ?_
    exact cw_zreturn C dd_Le_isAccount_14 (nw_zn (by decide)) (Nat.le_of_ble_eq_true rfl) (Nat.le_of_ble_eq_true rfl) ⟨_, rfl, rfl, ⟨by first | exact congrArg (fun z => some (Value.int z)) (zb_t (by first | omega | (simp [wx_u] <;> omega))) | exact congrArg (fun z => some (Value.int z)) (zb_f (by first | omega | (simp [wx_u] <;> omega))), rfl⟩⟩
  · refine cw_iload_n C dd_Le_isAccount_4 rfl ?_
    refine cw_iconst (v := nI 4) C dd_Le_isAccount_5 (by decide +kernel) ?_
    refine nw_icmp_ge (tgt := 13) C dd_Le_isAccount_6 (by decide) (by first | omega | (simp [wx_u] <;> omega)) (by first | omega | (simp [wx_u] <;> omega)) (fun h6 => ?_) (fun h6 => ?_)
    · refine cw_iconst (v := nI 0) C dd_Le_isAccount_13 (by decide +kernel) ?_
      exact cw_zreturn C dd_Le_isAccount_14 (nw_zn (by decide)) (Nat.le_of_ble_eq_true rfl) (Nat.le_of_ble_eq_true rfl) ⟨_, rfl, rfl, ⟨by first | exact congrArg (fun z => some (Value.int z)) (zb_t (by first | omega | (simp [wx_u] <;> omega))) | exact congrArg (fun z => some (Value.int z)) (zb_f (by first | omega | (simp [wx_u] <;> omega))), rfl⟩⟩
    · refine cw_iconst (v := nI 1) C dd_Le_isAccount_9 (by decide +kernel) ?_
      refine cw_goto (tgt := 14) C dd_Le_isAccount_10 (by decide) ?_
      exact cw_zreturn C dd_Le_isAccount_14 (nw_zn (by decide)) (Nat.le_of_ble_eq_true rfl) (Nat.le_of_ble_eq_true rfl) ⟨_, rfl, rfl, ⟨by first | exact congrArg (fun z => some (Value.int z)) (zb_t (by first | omega | (simp [wx_u] <;> omega))) | exact congrArg (fun z => some (Value.int z)) (zb_f (by first | omega | (simp [wx_u] <;> omega))), rfl⟩⟩
set_option maxRecDepth 100000 in
set_option maxHeartbeats 4000000 in
theorem mm_Tr_has (X : wx_S) (n : Nat) (hn : n < 4294967296) (hc : X 4 3 < 2147483648) : nw_M wd_all yy_Tr_has cc_Tr_has 2 (some .boolean) 1 0 0 [.ref 4, .int (nI n)] X (fun v X' => v = some (.int (nI (zb_n (n < X 4 3)))) ∧ X' = X) := by
  refine nw_of [some (.ref 4), some (.int (nI n))] (by decide +kernel) rfl (Nat.le_of_ble_eq_true rfl) rfl ?_
  intro p l e s m args below meth c A g C
  refine cw_iload_n C dd_Tr_has_0 rfl ?_
  refine nw_if_lt (tgt := 16) C dd_Tr_has_1 (by decide) (by first | omega | (simp [wx_u] <;> omega)) (fun h1 => ?_) (fun h1 => ?_)
  · refine cw_iconst (v := nI 0) C dd_Tr_has_16 (by decide +kernel) ?_
    exact cw_zreturn C dd_Tr_has_17 (nw_zn (by decide)) (Nat.le_of_ble_eq_true rfl) (Nat.le_of_ble_eq_true rfl) ⟨_, rfl, rfl, ⟨by first | exact congrArg (fun z => some (Value.int z)) (zb_t (by first | omega | (simp [wx_u] <;> omega))) | exact congrArg (fun z => some (Value.int z)) (zb_f (by first | omega | (simp [wx_u] <;> omega))), rfl⟩⟩
  · refine cw_iload_n C dd_Tr_has_4 rfl ?_
    refine cw_aload_n C dd_Tr_has_5 rfl ?_
    refine nw_geti C wc_1 kF_Tr_21 is_1 (by decide) rfl dd_Tr_has_6 ?_
    refine nw_icmp_ge (tgt := 16) C dd_Tr_has_9 (by decide) (by first | omega | (simp [wx_u] <;> omega)) (by first | omega | (simp [wx_u] <;> omega)) (fun h9 => ?_) (fun h9 => ?_)
    · refine cw_iconst (v := nI 0) C dd_Tr_has_16 (by decide +kernel) ?_
      exact cw_zreturn C dd_Tr_has_17 (nw_zn (by decide)) (Nat.le_of_ble_eq_true rfl) (Nat.le_of_ble_eq_true rfl) ⟨_, rfl, rfl, ⟨by first | exact congrArg (fun z => some (Value.int z)) (zb_t (by first | omega | (simp [wx_u] <;> omega))) | exact congrArg (fun z => some (Value.int z)) (zb_f (by first | omega | (simp [wx_u] <;> omega))), rfl⟩⟩
    · refine cw_iconst (v := nI 1) C dd_Tr_has_12 (by decide +kernel) ?_
      refine cw_goto (tgt := 17) C dd_Tr_has_13 (by decide) ?_
      exact cw_zreturn C dd_Tr_has_17 (nw_zn (by decide)) (Nat.le_of_ble_eq_true rfl) (Nat.le_of_ble_eq_true rfl) ⟨_, rfl, rfl, ⟨by first | exact congrArg (fun z => some (Value.int z)) (zb_t (by first | omega | (simp [wx_u] <;> omega))) | exact congrArg (fun z => some (Value.int z)) (zb_f (by first | omega | (simp [wx_u] <;> omega))), rfl⟩⟩
set_option maxRecDepth 100000 in
set_option maxHeartbeats 4000000 in
theorem mm_Tr_isFull (X : wx_S) (hc : X 4 3 < 2147483648) : nw_M wd_all yy_Tr_isFull cc_Tr_isFull 1 (some .boolean) 1 0 0 [.ref 4] X (fun v X' => v = some (.int (nI (zb_n (40 ≤ X 4 3)))) ∧ X' = X) := by
  refine nw_of [some (.ref 4)] (by decide +kernel) rfl (Nat.le_of_ble_eq_true rfl) rfl ?_
  intro p l e s m args below meth c A g C
  refine cw_aload_n C dd_Tr_isFull_0 rfl ?_
  refine nw_geti C wc_1 kF_Tr_21 is_1 (by decide) rfl dd_Tr_isFull_1 ?_
  refine cw_bipush (v := nI 40) C dd_Tr_isFull_4 (by decide +kernel) ?_
  refine nw_icmp_lt (tgt := 13) C dd_Tr_isFull_6 (by decide) (by first | omega | (simp [wx_u] <;> omega)) (by first | omega | (simp [wx_u] <;> omega)) (fun h6 => ?_) (fun h6 => ?_)
  · refine cw_iconst (v := nI 0) C dd_Tr_isFull_13 (by decide +kernel) ?_
    exact cw_zreturn C dd_Tr_isFull_14 (nw_zn (by decide)) (Nat.le_of_ble_eq_true rfl) (Nat.le_of_ble_eq_true rfl) ⟨_, rfl, rfl, ⟨by first | exact congrArg (fun z => some (Value.int z)) (zb_t (by first | omega | (simp [wx_u] <;> omega))) | exact congrArg (fun z => some (Value.int z)) (zb_f (by first | omega | (simp [wx_u] <;> omega))), rfl⟩⟩
  · refine cw_iconst (v := nI 1) C dd_Tr_isFull_9 (by decide +kernel) ?_
    refine cw_goto (tgt := 14) C dd_Tr_isFull_10 (by decide) ?_
    exact cw_zreturn C dd_Tr_isFull_14 (nw_zn (by decide)) (Nat.le_of_ble_eq_true rfl) (Nat.le_of_ble_eq_true rfl) ⟨_, rfl, rfl, ⟨by first | exact congrArg (fun z => some (Value.int z)) (zb_t (by first | omega | (simp [wx_u] <;> omega))) | exact congrArg (fun z => some (Value.int z)) (zb_f (by first | omega | (simp [wx_u] <;> omega))), rfl⟩⟩
set_option maxRecDepth 100000 in
set_option maxHeartbeats 4000000 in
theorem mm_Tr_add (X : wx_S) (k q u : Nat) (hc : X 4 3 < 40) : nw_M wd_all yy_Tr_add cc_Tr_add 4 (some .int) 1 0 0 [.ref 4, .int (nI k), .int (nI q), .int (nI u)] X (fun v X' => v = some (.int (nI (X 4 3))) ∧ X' = wx_u (wx_u (wx_u (wx_u X 8 (X 4 3) k) 12 (X 4 3) q) 16 (X 4 3) u) 4 3 (X 4 3 + 1)) := by
  refine nw_of [some (.ref 4), some (.int (nI k)), some (.int (nI q)), some (.int (nI u))] (by decide +kernel) rfl (Nat.le_of_ble_eq_true rfl) rfl ?_
  intro p l e s m args below meth c A g C
  refine cw_aload_n C dd_Tr_add_0 rfl ?_
  refine cw_getr (q' := 8) C wc_1 kF_Tr_9 is_1 (by decide) rfl dd_Tr_add_1 rfl ?_
  refine cw_aload_n C dd_Tr_add_4 rfl ?_
  refine nw_geti C wc_1 kF_Tr_21 is_1 (by decide) rfl dd_Tr_add_5 ?_
  refine cw_iload_n C dd_Tr_add_8 rfl ?_
  refine nw_iast C is_2 (by first | omega | (simp [wx_u] <;> omega)) (by decide) dd_Tr_add_9 ?_
  refine cw_aload_n C dd_Tr_add_10 rfl ?_
  refine cw_getr (q' := 12) C wc_1 kF_Tr_15 is_1 (by decide) rfl dd_Tr_add_11 rfl ?_
  refine cw_aload_n C dd_Tr_add_14 rfl ?_
  refine nw_geti C wc_1 kF_Tr_21 is_1 (by decide) rfl dd_Tr_add_15 ?_
  refine cw_iload_n C dd_Tr_add_18 rfl ?_
  refine nw_iast C is_3 (by first | omega | (simp [wx_u] <;> omega)) (by decide) dd_Tr_add_19 ?_
  refine cw_aload_n C dd_Tr_add_20 rfl ?_
  refine cw_getr (q' := 16) C wc_1 kF_Tr_18 is_1 (by decide) rfl dd_Tr_add_21 rfl ?_
  refine cw_aload_n C dd_Tr_add_24 rfl ?_
  refine nw_geti C wc_1 kF_Tr_21 is_1 (by decide) rfl dd_Tr_add_25 ?_
  refine cw_iload_n C dd_Tr_add_28 rfl ?_
  refine nw_iast C is_4 (by first | omega | (simp [wx_u] <;> omega)) (by decide) dd_Tr_add_29 ?_
  refine cw_aload_n C dd_Tr_add_30 rfl ?_
  refine cw_dup C dd_Tr_add_31 rfl ?_
  refine nw_geti C wc_1 kF_Tr_21 is_1 (by decide) rfl dd_Tr_add_32 ?_
  refine cw_iconst (v := nI 1) C dd_Tr_add_35 (by decide +kernel) ?_
  refine nw_iadd C dd_Tr_add_36 ?_
  refine nw_puti C wc_1 kF_Tr_21 is_1 (by decide) rfl rfl rfl rfl dd_Tr_add_37 ?_
  refine cw_aload_n C dd_Tr_add_40 rfl ?_
  refine nw_geti C wc_1 kF_Tr_21 is_1 (by decide) rfl dd_Tr_add_41 ?_
  refine cw_iconst (v := nI 1) C dd_Tr_add_44 (by decide +kernel) ?_
  refine nw_isub C dd_Tr_add_45 (by first | omega | (simp [wx_u] <;> omega)) ?_
  exact cw_ireturn C dd_Tr_add_46 (Nat.le_of_ble_eq_true rfl) (Nat.le_of_ble_eq_true rfl) ⟨_, rfl, rfl, ⟨by first | rfl | simp [wx_u], by first | rfl | simp [wx_u]⟩⟩
set_option maxRecDepth 100000 in
set_option maxHeartbeats 4000000 in
theorem mm_Ve_has (X : wx_S) (n : Nat) (hn : n < 4294967296) (hc : X 20 5 < 2147483648) : nw_M wd_all yy_Ve_has cc_Ve_has 2 (some .boolean) 1 0 0 [.ref 20, .int (nI n)] X (fun v X' => v = some (.int (nI (zb_n (n < X 20 5)))) ∧ X' = X) := by
  refine nw_of [some (.ref 20), some (.int (nI n))] (by decide +kernel) rfl (Nat.le_of_ble_eq_true rfl) rfl ?_
  intro p l e s m args below meth c A g C
  refine cw_iload_n C dd_Ve_has_0 rfl ?_
  refine nw_if_lt (tgt := 16) C dd_Ve_has_1 (by decide) (by first | omega | (simp [wx_u] <;> omega)) (fun h1 => ?_) (fun h1 => ?_)
  · refine cw_iconst (v := nI 0) C dd_Ve_has_16 (by decide +kernel) ?_
    exact cw_zreturn C dd_Ve_has_17 (nw_zn (by decide)) (Nat.le_of_ble_eq_true rfl) (Nat.le_of_ble_eq_true rfl) ⟨_, rfl, rfl, ⟨by first | exact congrArg (fun z => some (Value.int z)) (zb_t (by first | omega | (simp [wx_u] <;> omega))) | exact congrArg (fun z => some (Value.int z)) (zb_f (by first | omega | (simp [wx_u] <;> omega))), rfl⟩⟩
  · refine cw_iload_n C dd_Ve_has_4 rfl ?_
    refine cw_aload_n C dd_Ve_has_5 rfl ?_
    refine nw_geti C wc_5 kF_Ve_27 is_5 (by decide) rfl dd_Ve_has_6 ?_
    refine nw_icmp_ge (tgt := 16) C dd_Ve_has_9 (by decide) (by first | omega | (simp [wx_u] <;> omega)) (by first | omega | (simp [wx_u] <;> omega)) (fun h9 => ?_) (fun h9 => ?_)
    · refine cw_iconst (v := nI 0) C dd_Ve_has_16 (by decide +kernel) ?_
      exact cw_zreturn C dd_Ve_has_17 (nw_zn (by decide)) (Nat.le_of_ble_eq_true rfl) (Nat.le_of_ble_eq_true rfl) ⟨_, rfl, rfl, ⟨by first | exact congrArg (fun z => some (Value.int z)) (zb_t (by first | omega | (simp [wx_u] <;> omega))) | exact congrArg (fun z => some (Value.int z)) (zb_f (by first | omega | (simp [wx_u] <;> omega))), rfl⟩⟩
    · refine cw_iconst (v := nI 1) C dd_Ve_has_12 (by decide +kernel) ?_
      refine cw_goto (tgt := 17) C dd_Ve_has_13 (by decide) ?_
      exact cw_zreturn C dd_Ve_has_17 (nw_zn (by decide)) (Nat.le_of_ble_eq_true rfl) (Nat.le_of_ble_eq_true rfl) ⟨_, rfl, rfl, ⟨by first | exact congrArg (fun z => some (Value.int z)) (zb_t (by first | omega | (simp [wx_u] <;> omega))) | exact congrArg (fun z => some (Value.int z)) (zb_f (by first | omega | (simp [wx_u] <;> omega))), rfl⟩⟩
set_option maxRecDepth 100000 in
set_option maxHeartbeats 4000000 in
theorem mm_Ve_isFull (X : wx_S) (hc : X 20 5 < 2147483648) : nw_M wd_all yy_Ve_isFull cc_Ve_isFull 1 (some .boolean) 1 0 0 [.ref 20] X (fun v X' => v = some (.int (nI (zb_n (90 ≤ X 20 5)))) ∧ X' = X) := by
  refine nw_of [some (.ref 20)] (by decide +kernel) rfl (Nat.le_of_ble_eq_true rfl) rfl ?_
  intro p l e s m args below meth c A g C
  refine cw_aload_n C dd_Ve_isFull_0 rfl ?_
  refine nw_geti C wc_5 kF_Ve_27 is_5 (by decide) rfl dd_Ve_isFull_1 ?_
  refine cw_bipush (v := nI 90) C dd_Ve_isFull_4 (by decide +kernel) ?_
  refine nw_icmp_lt (tgt := 13) C dd_Ve_isFull_6 (by decide) (by first | omega | (simp [wx_u] <;> omega)) (by first | omega | (simp [wx_u] <;> omega)) (fun h6 => ?_) (fun h6 => ?_)
  · refine cw_iconst (v := nI 0) C dd_Ve_isFull_13 (by decide +kernel) ?_
    exact cw_zreturn C dd_Ve_isFull_14 (nw_zn (by decide)) (Nat.le_of_ble_eq_true rfl) (Nat.le_of_ble_eq_true rfl) ⟨_, rfl, rfl, ⟨by first | exact congrArg (fun z => some (Value.int z)) (zb_t (by first | omega | (simp [wx_u] <;> omega))) | exact congrArg (fun z => some (Value.int z)) (zb_f (by first | omega | (simp [wx_u] <;> omega))), rfl⟩⟩
  · refine cw_iconst (v := nI 1) C dd_Ve_isFull_9 (by decide +kernel) ?_
    refine cw_goto (tgt := 14) C dd_Ve_isFull_10 (by decide) ?_
    exact cw_zreturn C dd_Ve_isFull_14 (nw_zn (by decide)) (Nat.le_of_ble_eq_true rfl) (Nat.le_of_ble_eq_true rfl) ⟨_, rfl, rfl, ⟨by first | exact congrArg (fun z => some (Value.int z)) (zb_t (by first | omega | (simp [wx_u] <;> omega))) | exact congrArg (fun z => some (Value.int z)) (zb_f (by first | omega | (simp [wx_u] <;> omega))), rfl⟩⟩
set_option maxRecDepth 100000 in
set_option maxHeartbeats 4000000 in
theorem mm_Ve_add (X : wx_S) (a w q f u : Nat) (hc : X 20 5 < 90) : nw_M wd_all yy_Ve_add cc_Ve_add 6 (some .int) 1 0 0 [.ref 20, .int (nI a), .int (nI w), .int (nI q), .int (nI f), .int (nI u)] X (fun v X' => v = some (.int (nI (X 20 5))) ∧ X' = wx_u (wx_u (wx_u (wx_u (wx_u (wx_u X 24 (X 20 5) a) 28 (X 20 5) w) 32 (X 20 5) q) 36 (X 20 5) f) 40 (X 20 5) u) 20 5 (X 20 5 + 1)) := by
  refine nw_of [some (.ref 20), some (.int (nI a)), some (.int (nI w)), some (.int (nI q)), some (.int (nI f)), some (.int (nI u))] (by decide +kernel) rfl (Nat.le_of_ble_eq_true rfl) rfl ?_
  intro p l e s m args below meth c A g C
  refine cw_aload_n C dd_Ve_add_0 rfl ?_
  refine cw_getr (q' := 24) C wc_5 kF_Ve_9 is_5 (by decide) rfl dd_Ve_add_1 rfl ?_
  refine cw_aload_n C dd_Ve_add_4 rfl ?_
  refine nw_geti C wc_5 kF_Ve_27 is_5 (by decide) rfl dd_Ve_add_5 ?_
  refine cw_iload_n C dd_Ve_add_8 rfl ?_
  refine nw_iast C is_6 (by first | omega | (simp [wx_u] <;> omega)) (by decide) dd_Ve_add_9 ?_
  refine cw_aload_n C dd_Ve_add_10 rfl ?_
  refine cw_getr (q' := 28) C wc_5 kF_Ve_15 is_5 (by decide) rfl dd_Ve_add_11 rfl ?_
  refine cw_aload_n C dd_Ve_add_14 rfl ?_
  refine nw_geti C wc_5 kF_Ve_27 is_5 (by decide) rfl dd_Ve_add_15 ?_
  refine cw_iload_n C dd_Ve_add_18 rfl ?_
  refine nw_iast C is_7 (by first | omega | (simp [wx_u] <;> omega)) (by decide) dd_Ve_add_19 ?_
  refine cw_aload_n C dd_Ve_add_20 rfl ?_
  refine cw_getr (q' := 32) C wc_5 kF_Ve_18 is_5 (by decide) rfl dd_Ve_add_21 rfl ?_
  refine cw_aload_n C dd_Ve_add_24 rfl ?_
  refine nw_geti C wc_5 kF_Ve_27 is_5 (by decide) rfl dd_Ve_add_25 ?_
  refine cw_iload_n C dd_Ve_add_28 rfl ?_
  refine nw_iast C is_8 (by first | omega | (simp [wx_u] <;> omega)) (by decide) dd_Ve_add_29 ?_
  refine cw_aload_n C dd_Ve_add_30 rfl ?_
  refine cw_getr (q' := 36) C wc_5 kF_Ve_21 is_5 (by decide) rfl dd_Ve_add_31 rfl ?_
  refine cw_aload_n C dd_Ve_add_34 rfl ?_
  refine nw_geti C wc_5 kF_Ve_27 is_5 (by decide) rfl dd_Ve_add_35 ?_
  refine cw_iload C dd_Ve_add_38 rfl ?_
  refine nw_iast C is_9 (by first | omega | (simp [wx_u] <;> omega)) (by decide) dd_Ve_add_40 ?_
  refine cw_aload_n C dd_Ve_add_41 rfl ?_
  refine cw_getr (q' := 40) C wc_5 kF_Ve_24 is_5 (by decide) rfl dd_Ve_add_42 rfl ?_
  refine cw_aload_n C dd_Ve_add_45 rfl ?_
  refine nw_geti C wc_5 kF_Ve_27 is_5 (by decide) rfl dd_Ve_add_46 ?_
  refine cw_iload C dd_Ve_add_49 rfl ?_
  refine nw_iast C is_10 (by first | omega | (simp [wx_u] <;> omega)) (by decide) dd_Ve_add_51 ?_
  refine cw_aload_n C dd_Ve_add_52 rfl ?_
  refine cw_dup C dd_Ve_add_53 rfl ?_
  refine nw_geti C wc_5 kF_Ve_27 is_5 (by decide) rfl dd_Ve_add_54 ?_
  refine cw_iconst (v := nI 1) C dd_Ve_add_57 (by decide +kernel) ?_
  refine nw_iadd C dd_Ve_add_58 ?_
  refine nw_puti C wc_5 kF_Ve_27 is_5 (by decide) rfl rfl rfl rfl dd_Ve_add_59 ?_
  refine cw_aload_n C dd_Ve_add_62 rfl ?_
  refine nw_geti C wc_5 kF_Ve_27 is_5 (by decide) rfl dd_Ve_add_63 ?_
  refine cw_iconst (v := nI 1) C dd_Ve_add_66 (by decide +kernel) ?_
  refine nw_isub C dd_Ve_add_67 (by first | omega | (simp [wx_u] <;> omega)) ?_
  exact cw_ireturn C dd_Ve_add_68 (Nat.le_of_ble_eq_true rfl) (Nat.le_of_ble_eq_true rfl) ⟨_, rfl, rfl, ⟨by first | rfl | simp [wx_u], by first | rfl | simp [wx_u]⟩⟩
abbrev zc_wf (X : wx_S) (u : Nat) : Prop := (X 28 u = 1 ∧ X 32 u = 0) ∨ (X 28 u ≠ 1 ∧ 3 ≤ zn_ones (X 32 u))
set_option maxRecDepth 100000 in
set_option maxHeartbeats 4000000 in
theorem mm_Ve_isWellFormed (X : wx_S) (u : Nat) (hu : u < 90) (h1 : X 28 u < 4294967296) (h2 : X 32 u < 16) : nw_M wd_all yy_Ve_isWellFormed cc_Ve_isWellFormed 2 (some .boolean) 2 0 0 [.ref 20, .int (nI u)] X (fun v X' => v = some (.int (nI (zb_n (zc_wf X u)))) ∧ X' = X) := by
  refine nw_of [some (.ref 20), some (.int (nI u))] (by decide +kernel) rfl (Nat.le_of_ble_eq_true rfl) rfl ?_
  intro p l e s m args below meth c A g C
  refine cw_aload_n C dd_Ve_isWellFormed_0 rfl ?_
  refine cw_getr (q' := 28) C wc_5 kF_Ve_15 is_5 (by decide) rfl dd_Ve_isWellFormed_1 rfl ?_
  refine cw_iload_n C dd_Ve_isWellFormed_4 rfl ?_
  refine nw_iald C is_7 (by first | omega | (simp [wx_u] <;> omega)) (by decide) dd_Ve_isWellFormed_5 ?_
  refine cw_iconst (v := nI 1) C dd_Ve_isWellFormed_6 (by decide +kernel) ?_
  refine nw_icmp_ne (tgt := 25) C dd_Ve_isWellFormed_7 (by decide) (by first | omega | (simp [wx_u] <;> omega)) (by first | omega | (simp [wx_u] <;> omega)) (fun h7 => ?_) (fun h7 => ?_)
  · refine cw_aload_n C dd_Ve_isWellFormed_25 rfl ?_
    refine cw_getr (q' := 32) C wc_5 kF_Ve_18 is_5 (by decide) rfl dd_Ve_isWellFormed_26 rfl ?_
    refine cw_iload_n C dd_Ve_isWellFormed_29 rfl ?_
    refine nw_iald C is_8 (by first | omega | (simp [wx_u] <;> omega)) (by decide) dd_Ve_isWellFormed_30 ?_
    refine cw_callS (As := [_]) C kS_Ve_31 dd_Ve_isWellFormed_31 rfl rfl (Nat.le_of_ble_eq_true rfl) ⟨(Nat.le_of_ble_eq_true rfl), (Nat.le_of_ble_eq_true rfl)⟩ ⟨(Nat.le_of_ble_eq_true rfl), (Nat.le_of_ble_eq_true rfl)⟩ (mm_In_bitCount X (X 32 u) h2) (nw_ki ?_)
    refine cw_iconst (v := nI 3) C dd_Ve_isWellFormed_34 (by decide +kernel) ?_
    refine nw_icmp_lt (tgt := 42) C dd_Ve_isWellFormed_35 (by decide) (by have := zn_ones_le (X 32 u); omega) (by first | omega | (simp [wx_u] <;> omega)) (fun h35 => ?_) (fun h35 => ?_)
    · refine cw_iconst (v := nI 0) C dd_Ve_isWellFormed_42 (by decide +kernel) ?_
      exact cw_zreturn C dd_Ve_isWellFormed_43 (nw_zn (by decide)) (Nat.le_of_ble_eq_true rfl) (Nat.le_of_ble_eq_true rfl) ⟨_, rfl, rfl, ⟨by first | exact congrArg (fun z => some (Value.int z)) (zb_t (by first | omega | (simp [wx_u] <;> omega))) | exact congrArg (fun z => some (Value.int z)) (zb_f (by first | omega | (simp [wx_u] <;> omega))), rfl⟩⟩
    · refine cw_iconst (v := nI 1) C dd_Ve_isWellFormed_38 (by decide +kernel) ?_
      refine cw_goto (tgt := 43) C dd_Ve_isWellFormed_39 (by decide) ?_
      exact cw_zreturn C dd_Ve_isWellFormed_43 (nw_zn (by decide)) (Nat.le_of_ble_eq_true rfl) (Nat.le_of_ble_eq_true rfl) ⟨_, rfl, rfl, ⟨by first | exact congrArg (fun z => some (Value.int z)) (zb_t (by first | omega | (simp [wx_u] <;> omega))) | exact congrArg (fun z => some (Value.int z)) (zb_f (by first | omega | (simp [wx_u] <;> omega))), rfl⟩⟩
  · refine cw_aload_n C dd_Ve_isWellFormed_10 rfl ?_
    refine cw_getr (q' := 32) C wc_5 kF_Ve_18 is_5 (by decide) rfl dd_Ve_isWellFormed_11 rfl ?_
    refine cw_iload_n C dd_Ve_isWellFormed_14 rfl ?_
    refine nw_iald C is_8 (by first | omega | (simp [wx_u] <;> omega)) (by decide) dd_Ve_isWellFormed_15 ?_
    refine nw_if_ne (tgt := 23) C dd_Ve_isWellFormed_16 (by decide) (by first | omega | (simp [wx_u] <;> omega)) (fun h16 => ?_) (fun h16 => ?_)
    · refine cw_iconst (v := nI 0) C dd_Ve_isWellFormed_23 (by decide +kernel) ?_
      exact cw_zreturn C dd_Ve_isWellFormed_24 (nw_zn (by decide)) (Nat.le_of_ble_eq_true rfl) (Nat.le_of_ble_eq_true rfl) ⟨_, rfl, rfl, ⟨by first | exact congrArg (fun z => some (Value.int z)) (zb_t (by first | omega | (simp [wx_u] <;> omega))) | exact congrArg (fun z => some (Value.int z)) (zb_f (by first | omega | (simp [wx_u] <;> omega))), rfl⟩⟩
    · refine cw_iconst (v := nI 1) C dd_Ve_isWellFormed_19 (by decide +kernel) ?_
      refine cw_goto (tgt := 24) C dd_Ve_isWellFormed_20 (by decide) ?_
      exact cw_zreturn C dd_Ve_isWellFormed_24 (nw_zn (by decide)) (Nat.le_of_ble_eq_true rfl) (Nat.le_of_ble_eq_true rfl) ⟨_, rfl, rfl, ⟨by first | exact congrArg (fun z => some (Value.int z)) (zb_t (by first | omega | (simp [wx_u] <;> omega))) | exact congrArg (fun z => some (Value.int z)) (zb_f (by first | omega | (simp [wx_u] <;> omega))), rfl⟩⟩
set_option maxRecDepth 100000 in
set_option maxHeartbeats 4000000 in
theorem mm_Ve_comesBefore (X : wx_S) (u o : Nat) (hu : u < 90) (ho : o < 90) (h1 : X 28 u < 2147483648) (h2 : X 28 o < 2147483648) (h3 : X 24 u < 4) (h4 : X 24 o < 4) : nw_M wd_all yy_Ve_comesBefore cc_Ve_comesBefore 3 (some .boolean) 1 0 0 [.ref 20, .int (nI u), .int (nI o)] X (fun v X' => v = some (.int (nI (zb_n (4 * X 28 u + X 24 u < 4 * X 28 o + X 24 o)))) ∧ X' = X) := by
  refine nw_of [some (.ref 20), some (.int (nI u)), some (.int (nI o))] (by decide +kernel) rfl (Nat.le_of_ble_eq_true rfl) rfl ?_
  intro p l e s m args below meth c A g C
  refine cw_aload_n C dd_Ve_comesBefore_0 rfl ?_
  refine cw_getr (q' := 28) C wc_5 kF_Ve_15 is_5 (by decide) rfl dd_Ve_comesBefore_1 rfl ?_
  refine cw_iload_n C dd_Ve_comesBefore_4 rfl ?_
  refine nw_iald C is_7 (by first | omega | (simp [wx_u] <;> omega)) (by decide) dd_Ve_comesBefore_5 ?_
  refine cw_aload_n C dd_Ve_comesBefore_6 rfl ?_
  refine cw_getr (q' := 28) C wc_5 kF_Ve_15 is_5 (by decide) rfl dd_Ve_comesBefore_7 rfl ?_
  refine cw_iload_n C dd_Ve_comesBefore_10 rfl ?_
  refine nw_iald C is_7 (by first | omega | (simp [wx_u] <;> omega)) (by decide) dd_Ve_comesBefore_11 ?_
  refine nw_icmp_eq (tgt := 36) C dd_Ve_comesBefore_12 (by decide) (by first | omega | (simp [wx_u] <;> omega)) (by first | omega | (simp [wx_u] <;> omega)) (fun h12 => ?_) (fun h12 => ?_)
  · refine cw_aload_n C dd_Ve_comesBefore_36 rfl ?_
    refine cw_getr (q' := 24) C wc_5 kF_Ve_9 is_5 (by decide) rfl dd_Ve_comesBefore_37 rfl ?_
    refine cw_iload_n C dd_Ve_comesBefore_40 rfl ?_
    refine nw_iald C is_6 (by first | omega | (simp [wx_u] <;> omega)) (by decide) dd_Ve_comesBefore_41 ?_
    refine cw_aload_n C dd_Ve_comesBefore_42 rfl ?_
    refine cw_getr (q' := 24) C wc_5 kF_Ve_9 is_5 (by decide) rfl dd_Ve_comesBefore_43 rfl ?_
    refine cw_iload_n C dd_Ve_comesBefore_46 rfl ?_
    refine nw_iald C is_6 (by first | omega | (simp [wx_u] <;> omega)) (by decide) dd_Ve_comesBefore_47 ?_
    refine nw_icmp_ge (tgt := 55) C dd_Ve_comesBefore_48 (by decide) (by first | omega | (simp [wx_u] <;> omega)) (by first | omega | (simp [wx_u] <;> omega)) (fun h48 => ?_) (fun h48 => ?_)
    · refine cw_iconst (v := nI 0) C dd_Ve_comesBefore_55 (by decide +kernel) ?_
      exact cw_zreturn C dd_Ve_comesBefore_56 (nw_zn (by decide)) (Nat.le_of_ble_eq_true rfl) (Nat.le_of_ble_eq_true rfl) ⟨_, rfl, rfl, ⟨by first | exact congrArg (fun z => some (Value.int z)) (zb_t (by first | omega | (simp [wx_u] <;> omega))) | exact congrArg (fun z => some (Value.int z)) (zb_f (by first | omega | (simp [wx_u] <;> omega))), rfl⟩⟩
    · refine cw_iconst (v := nI 1) C dd_Ve_comesBefore_51 (by decide +kernel) ?_
      refine cw_goto (tgt := 56) C dd_Ve_comesBefore_52 (by decide) ?_
      exact cw_zreturn C dd_Ve_comesBefore_56 (nw_zn (by decide)) (Nat.le_of_ble_eq_true rfl) (Nat.le_of_ble_eq_true rfl) ⟨_, rfl, rfl, ⟨by first | exact congrArg (fun z => some (Value.int z)) (zb_t (by first | omega | (simp [wx_u] <;> omega))) | exact congrArg (fun z => some (Value.int z)) (zb_f (by first | omega | (simp [wx_u] <;> omega))), rfl⟩⟩
  · refine cw_aload_n C dd_Ve_comesBefore_15 rfl ?_
    refine cw_getr (q' := 28) C wc_5 kF_Ve_15 is_5 (by decide) rfl dd_Ve_comesBefore_16 rfl ?_
    refine cw_iload_n C dd_Ve_comesBefore_19 rfl ?_
    refine nw_iald C is_7 (by first | omega | (simp [wx_u] <;> omega)) (by decide) dd_Ve_comesBefore_20 ?_
    refine cw_aload_n C dd_Ve_comesBefore_21 rfl ?_
    refine cw_getr (q' := 28) C wc_5 kF_Ve_15 is_5 (by decide) rfl dd_Ve_comesBefore_22 rfl ?_
    refine cw_iload_n C dd_Ve_comesBefore_25 rfl ?_
    refine nw_iald C is_7 (by first | omega | (simp [wx_u] <;> omega)) (by decide) dd_Ve_comesBefore_26 ?_
    refine nw_icmp_ge (tgt := 34) C dd_Ve_comesBefore_27 (by decide) (by first | omega | (simp [wx_u] <;> omega)) (by first | omega | (simp [wx_u] <;> omega)) (fun h27 => ?_) (fun h27 => ?_)
    · refine cw_iconst (v := nI 0) C dd_Ve_comesBefore_34 (by decide +kernel) ?_
      exact cw_zreturn C dd_Ve_comesBefore_35 (nw_zn (by decide)) (Nat.le_of_ble_eq_true rfl) (Nat.le_of_ble_eq_true rfl) ⟨_, rfl, rfl, ⟨by first | exact congrArg (fun z => some (Value.int z)) (zb_t (by first | omega | (simp [wx_u] <;> omega))) | exact congrArg (fun z => some (Value.int z)) (zb_f (by first | omega | (simp [wx_u] <;> omega))), rfl⟩⟩
    · refine cw_iconst (v := nI 1) C dd_Ve_comesBefore_30 (by decide +kernel) ?_
      refine cw_goto (tgt := 35) C dd_Ve_comesBefore_31 (by decide) ?_
      exact cw_zreturn C dd_Ve_comesBefore_35 (nw_zn (by decide)) (Nat.le_of_ble_eq_true rfl) (Nat.le_of_ble_eq_true rfl) ⟨_, rfl, rfl, ⟨by first | exact congrArg (fun z => some (Value.int z)) (zb_t (by first | omega | (simp [wx_u] <;> omega))) | exact congrArg (fun z => some (Value.int z)) (zb_f (by first | omega | (simp [wx_u] <;> omega))), rfl⟩⟩
