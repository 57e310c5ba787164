/-! the constructor of DagLedger (written by wip/whole/m43.py) -/
/-- the fresh world -/
def kx_0 : wx_S := fun c k => if c = 0 then (if k = 4 then 4294967295 else 0) else if c < 64 then 0 else if c < 68 then (if k = 0 then c - 64 else if k = 8 then 1 else 0) else if 104 ≤ c ∧ c < 108 then (if k < 64 then 4294967295 else 0) else if 120 ≤ c ∧ c < 124 then (if k < 4 then 100 else 0) else if c = 192 then (if k < 4 then 1 else 0) else if c = 200 then (if k < 4 then 4294967295 else 0) else if c = 252 then (if k < 16 then 100 else 0) else 0
def kw_f : List (Nat × Nat) → Nat → Nat
  | [], _ => 0
  | (k, a) :: t, c => if c = k then a else kw_f t c
theorem kw_arr {p : Program} {l : Launch} {e : Env} {R : Room} {s : State} {m : MethodId} {args : Array Value} {below : List Frame} {meth : Method} {c : Code} {A : Nat → Prop} {g : wd_G} {cells slots : Nat} {G : State → Prop} {nL pc : Nat} {ls : List (Option Value)} {st : List Value} {V : va_W} (i : Nat) {a n : Nat} {cA : ClassId} {f : Nat → Option Nat} (f' : Nat → Option Nat) (h : V[i]? = some (a, .inl (cA, n, .inr (.inr (.inr (.inr f)))))) (hf : ∀ j, j < n → f j = f' j)
    (k : kw_W p l e R s m args below meth c A g (V.set i (a, .inl (cA, n, .inr (.inr (.inr (.inr f')))))) cells slots G nL pc ls st) : kw_W p l e R s m args below meth c A g V cells slots G nL pc ls st := by
  intro H locs la hl hP hD hS
  have hil : i < V.length := (List.getElem?_eq_some_iff.mp h).1
  have ec : vp_cell cA (n, .inr (.inr (.inr (.inr f)))) = vp_cell cA (n, .inr (.inr (.inr (.inr f')))) := by
    show arrV cA n (fun j => va_rf (f j)) = arrV cA n (fun j => va_rf (f' j))
    unfold arrV
    congr 1
    apply Array.ext
    · simp
    · intro j h1 h2
      simp only [Array.getElem_ofFn]
      rw [hf j (by simpa using h1)]
  refine k H locs la hl (fun k' q hq => ?_) ⟨fun i' j' a1 b1 ha hb' hab => ?_, fun k' q hq => ?_⟩ hS
  · by_cases hki : i = k'
    · subst hki
      rw [List.getElem?_set_self hil] at hq
      cases hq
      have z : H[a]? = some (vp_cell cA (n, .inr (.inr (.inr (.inr f))))) := hP _ _ h
      show H[a]? = some (vp_cell cA (n, .inr (.inr (.inr (.inr f')))))
      rw [← ec]; exact z
    · rw [List.getElem?_set_ne hki] at hq
      exact hP k' q hq
  · have key : ∀ (k : Nat) (q : Nat × va_E), (V.set i (a, .inl (cA, n, .inr (.inr (.inr (.inr f'))))))[k]? = some q → ∃ q', V[k]? = some q' ∧ q'.1 = q.1 := fun k q hq => by
      by_cases hki : i = k
      · subst hki
        rw [List.getElem?_set_self hil] at hq
        cases hq
        exact ⟨_, h, rfl⟩
      · rw [List.getElem?_set_ne hki] at hq
        exact ⟨q, hq, rfl⟩
    obtain ⟨a2, ha2, ea⟩ := key i' a1 ha
    obtain ⟨b2, hb2, eb⟩ := key j' b1 hb'
    exact hD.1 i' j' a2 b2 ha2 hb2 (by rw [ea, eb]; exact hab)
  · by_cases hki : i = k'
    · subst hki
      rw [List.getElem?_set_self hil] at hq
      cases hq
      have z := hD.2 _ _ h
      exact z
    · rw [List.getElem?_set_ne hki] at hq
      exact hD.2 k' q hq
def kw_ord : List Nat := [0, 4, 8, 12, 16, 20, 24, 28, 32, 36, 40, 44, 48, 52, 56, 60, 64, 68, 72, 76, 80, 84, 88, 92, 96, 100, 104, 108, 112, 116, 120, 124, 128, 132, 65, 69, 73, 77, 81, 85, 89, 93, 97, 101, 105, 109, 113, 117, 121, 125, 129, 133, 66, 70, 74, 78, 82, 86, 90, 94, 98, 102, 106, 110, 114, 118, 122, 126, 130, 134, 67, 71, 75, 79, 83, 87, 91, 95, 99, 103, 107, 111, 115, 119, 123, 127, 131, 135]
theorem ko_Le : Cond.methodLink "DagLedger" 3 Lib.objectInit ∈ wd_tb := ct_w (by decide +kernel) (by decide +kernel)
theorem kl_Le_9 : Cond.classLink "DagLedger" 9 "DagLedger$Transfers" ∈ wd_tb := ct_w (by decide +kernel) (by decide +kernel)
theorem kn_Tr : Cond.instantiable "DagLedger$Transfers" 4 ∈ wd_tb := ct_w (by decide +kernel) (by decide +kernel)
theorem ki_Tr : Cond.initialized "DagLedger$Transfers" ∈ wd_tb := ct_w (by decide +kernel) (by decide +kernel)
theorem kd_Tr : ∀ j, j < 4 → defaultValue (ty_Tr j) = vp_V [.null, .null, .null, .int 0] j := by
  intro j hj
  rcases (show j = 0 ∨ j = 1 ∨ j = 2 ∨ j = 3 by omega) with rfl | rfl | rfl | rfl <;> rfl
theorem kI_Le_11 : kw_kI "DagLedger" 11 yy_Tr_init cc_Tr_init 1 0 := ⟨Or.inr (List.mem_of_getElem? (i := 0) rfl), ct_w (by decide +kernel) (by decide +kernel), ki_Tr, ct_w (by decide +kernel) (by decide +kernel), rfl, ⟨by decide, by decide, by decide +kernel⟩⟩
theorem kl_Le_16 : Cond.classLink "DagLedger" 16 "DagLedger$Vertices" ∈ wd_tb := ct_w (by decide +kernel) (by decide +kernel)
theorem kn_Ve : Cond.instantiable "DagLedger$Vertices" 6 ∈ wd_tb := ct_w (by decide +kernel) (by decide +kernel)
theorem ki_Ve : Cond.initialized "DagLedger$Vertices" ∈ wd_tb := ct_w (by decide +kernel) (by decide +kernel)
theorem kd_Ve : ∀ j, j < 6 → defaultValue (ty_Ve j) = vp_V [.null, .null, .null, .null, .null, .int 0] j := by
  intro j hj
  rcases (show j = 0 ∨ j = 1 ∨ j = 2 ∨ j = 3 ∨ j = 4 ∨ j = 5 by omega) with rfl | rfl | rfl | rfl | rfl | rfl <;> rfl
theorem kI_Le_18 : kw_kI "DagLedger" 18 yy_Ve_init cc_Ve_init 1 0 := ⟨Or.inr (List.mem_of_getElem? (i := 1) rfl), ct_w (by decide +kernel) (by decide +kernel), ki_Ve, ct_w (by decide +kernel) (by decide +kernel), rfl, ⟨by decide, by decide, by decide +kernel⟩⟩
theorem kl_Le_23 : Cond.classLink "DagLedger" 23 "DagLedger$Board" ∈ wd_tb := ct_w (by decide +kernel) (by decide +kernel)
theorem kn_Bo : Cond.instantiable "DagLedger$Board" 4 ∈ wd_tb := ct_w (by decide +kernel) (by decide +kernel)
theorem ki_Bo : Cond.initialized "DagLedger$Board" ∈ wd_tb := ct_w (by decide +kernel) (by decide +kernel)
theorem kd_Bo : ∀ j, j < 4 → defaultValue (ty_Bo j) = vp_V [.null, .null, .null, .int 0] j := by
  intro j hj
  rcases (show j = 0 ∨ j = 1 ∨ j = 2 ∨ j = 3 by omega) with rfl | rfl | rfl | rfl <;> rfl
theorem kI_Le_25 : kw_kI "DagLedger" 25 yy_Bo_init cc_Bo_init 1 0 := ⟨Or.inr (List.mem_of_getElem? (i := 2) rfl), ct_w (by decide +kernel) (by decide +kernel), ki_Bo, ct_w (by decide +kernel) (by decide +kernel), rfl, ⟨by decide, by decide, by decide +kernel⟩⟩
theorem kl_Le_30 : Cond.classLink "DagLedger" 30 "DagLedger$Replica" ∈ wd_tb := ct_w (by decide +kernel) (by decide +kernel)
theorem kn_Re : Cond.instantiable "DagLedger$Replica" 13 ∈ wd_tb := ct_w (by decide +kernel) (by decide +kernel)
theorem ki_Re : Cond.initialized "DagLedger$Replica" ∈ wd_tb := ct_w (by decide +kernel) (by decide +kernel)
theorem kd_Re : ∀ j, j < 13 → defaultValue (ty_Re j) = vp_V [.int 0, .null, .null, .null, .null, .null, .null, .null, .int 0, .int 0, .int 0, .int 0, .int 0] j := by
  intro j hj
  rcases (show j = 0 ∨ j = 1 ∨ j = 2 ∨ j = 3 ∨ j = 4 ∨ j = 5 ∨ j = 6 ∨ j = 7 ∨ j = 8 ∨ j = 9 ∨ j = 10 ∨ j = 11 ∨ j = 12 by omega) with rfl | rfl | rfl | rfl | rfl | rfl | rfl | rfl | rfl | rfl | rfl | rfl | rfl <;> rfl
theorem kI_Le_36 : kw_kI "DagLedger" 36 yy_Re_init cc_Re_init 5 4 := ⟨Or.inl (ct_w (by decide +kernel) (by decide +kernel)), ct_w (by decide +kernel) (by decide +kernel), ki_Re, ct_w (by decide +kernel) (by decide +kernel), rfl, ⟨by decide, by decide, by decide +kernel⟩⟩
set_option maxRecDepth 100000 in
set_option maxHeartbeats 4000000 in
theorem kc_Le (a : Nat) : kw_M yy_Le_init cc_Le_init 2 4 87 5038 [.ref a] [(a, .inr (0, [.null, .null, .null, .null, .int 0]))] (fun g V' => ∃ f : Nat → Nat, f 0 = a ∧ V' = wd_w kw_ord ((f, g.2) : wd_G) (wx_e kx_0) (wx_l kx_0)) := by
  refine kw_M.of [some (.ref a), none] (by decide +kernel) rfl rfl (Nat.le_of_ble_eq_true rfl) rfl ?_
  intro p l e s m args below meth c A g C hin
  refine kw_aload_n C dd_Le_init_0 rfl ?_
  refine kw_objInit C ko_Le ko_inst ko_code dd_Le_init_1 ⟨(Nat.le_of_ble_eq_true rfl), (Nat.le_of_ble_eq_true rfl)⟩ (Nat.le_of_ble_eq_true rfl) ?_
  refine kw_aload_n C dd_Le_init_4 rfl ?_
  refine kw_new C wc_1 kl_Le_9 kn_Tr ki_Tr [.null, .null, .null, .int 0] kd_Tr ⟨(Nat.le_of_ble_eq_true rfl), (Nat.le_of_ble_eq_true rfl)⟩ dd_Le_init_5 (fun b0 => ?_)
  refine kw_dup C dd_Le_init_8 rfl ?_
  refine kw_ctor (As := []) C kI_Le_11 dd_Le_init_9 rfl rfl (Nat.le_of_ble_eq_true rfl) ⟨(Nat.le_of_ble_eq_true rfl), (Nat.le_of_ble_eq_true rfl)⟩ ⟨(Nat.le_of_ble_eq_true rfl), (Nat.le_of_ble_eq_true rfl)⟩ (kc_Tr b0) (fun V9 hV9 => ?_)
  obtain ⟨b1, b2, b3, rfl⟩ := hV9
  refine kw_putF C hin 0 wc_0 kF_Le_12 rfl (by decide) rfl rfl rfl rfl rfl (Nat.le_of_ble_eq_true rfl) dd_Le_init_12 ?_
  refine kw_aload_n C dd_Le_init_15 rfl ?_
  refine kw_new C wc_5 kl_Le_16 kn_Ve ki_Ve [.null, .null, .null, .null, .null, .int 0] kd_Ve ⟨(Nat.le_of_ble_eq_true rfl), (Nat.le_of_ble_eq_true rfl)⟩ dd_Le_init_16 (fun b4 => ?_)
  refine kw_dup C dd_Le_init_19 rfl ?_
  refine kw_ctor (As := []) C kI_Le_18 dd_Le_init_20 rfl rfl (Nat.le_of_ble_eq_true rfl) ⟨(Nat.le_of_ble_eq_true rfl), (Nat.le_of_ble_eq_true rfl)⟩ ⟨(Nat.le_of_ble_eq_true rfl), (Nat.le_of_ble_eq_true rfl)⟩ (kc_Ve b4) (fun V9 hV9 => ?_)
  obtain ⟨b5, b6, b7, b8, b9, rfl⟩ := hV9
  refine kw_putF C hin 0 wc_0 kF_Le_19 rfl (by decide) rfl rfl rfl rfl rfl (Nat.le_of_ble_eq_true rfl) dd_Le_init_23 ?_
  refine kw_aload_n C dd_Le_init_26 rfl ?_
  refine kw_new C wc_11 kl_Le_23 kn_Bo ki_Bo [.null, .null, .null, .int 0] kd_Bo ⟨(Nat.le_of_ble_eq_true rfl), (Nat.le_of_ble_eq_true rfl)⟩ dd_Le_init_27 (fun b10 => ?_)
  refine kw_dup C dd_Le_init_30 rfl ?_
  refine kw_ctor (As := []) C kI_Le_25 dd_Le_init_31 rfl rfl (Nat.le_of_ble_eq_true rfl) ⟨(Nat.le_of_ble_eq_true rfl), (Nat.le_of_ble_eq_true rfl)⟩ ⟨(Nat.le_of_ble_eq_true rfl), (Nat.le_of_ble_eq_true rfl)⟩ (kc_Bo b10) (fun V9 hV9 => ?_)
  obtain ⟨b11, b12, b13, rfl⟩ := hV9
  refine kw_putF C hin 0 wc_0 kF_Le_26 rfl (by decide) rfl rfl rfl rfl rfl (Nat.le_of_ble_eq_true rfl) dd_Le_init_34 ?_
  refine kw_aload_n C dd_Le_init_37 rfl ?_
  refine kw_iconst (v := nI 4) C dd_Le_init_38 (by decide +kernel) ?_
  refine kw_newq (N := 4) C (by decide) kl_Le_30 ⟨(Nat.le_of_ble_eq_true rfl), (Nat.le_of_ble_eq_true rfl)⟩ dd_Le_init_39 (fun b14 => ?_)
  refine kw_putF C hin 0 wc_0 kF_Le_32 rfl (by decide) rfl rfl rfl rfl rfl (Nat.le_of_ble_eq_true rfl) dd_Le_init_42 ?_
  refine kw_iconst (v := nI 0) C dd_Le_init_45 (by decide +kernel) ?_
  refine kw_istore_n C dd_Le_init_46 (Nat.le_of_ble_eq_true rfl) ?_
  refine kw_iload_n C dd_Le_init_47 rfl ?_
  refine kw_iconst (v := nI 4) C dd_Le_init_48 (by decide +kernel) ?_
  refine kw_icmp_ge (tgt := 84) C dd_Le_init_49 (by decide) (fun h9 => absurd h9 (by decide +kernel)) (fun _ => ?_)
  refine kw_aload_n C dd_Le_init_52 rfl ?_
  refine kw_get C 0 wc_0 kF_Le_32 rfl (by decide) rfl rfl dd_Le_init_53 ?_
  refine kw_iload_n C dd_Le_init_56 rfl ?_
  refine kw_new C wc_16 kl_Le_30 kn_Re ki_Re [.int 0, .null, .null, .null, .null, .null, .null, .null, .int 0, .int 0, .int 0, .int 0, .int 0] kd_Re ⟨(Nat.le_of_ble_eq_true rfl), (Nat.le_of_ble_eq_true rfl)⟩ dd_Le_init_57 (fun b15 => ?_)
  refine kw_dup C dd_Le_init_60 rfl ?_
  refine kw_iload_n C dd_Le_init_61 rfl ?_
  refine kw_aload_n C dd_Le_init_62 rfl ?_
  refine kw_get C 0 wc_0 kF_Le_26 rfl (by decide) rfl rfl dd_Le_init_63 ?_
  refine kw_aload_n C dd_Le_init_66 rfl ?_
  refine kw_get C 0 wc_0 kF_Le_19 rfl (by decide) rfl rfl dd_Le_init_67 ?_
  refine kw_aload_n C dd_Le_init_70 rfl ?_
  refine kw_get C 0 wc_0 kF_Le_12 rfl (by decide) rfl rfl dd_Le_init_71 ?_
  refine kw_ctor (As := [.int (nI 0), .ref b10, .ref b4, .ref b0]) C kI_Le_36 dd_Le_init_74 rfl rfl (Nat.le_of_ble_eq_true rfl) ⟨(Nat.le_of_ble_eq_true rfl), (Nat.le_of_ble_eq_true rfl)⟩ ⟨(Nat.le_of_ble_eq_true rfl), (Nat.le_of_ble_eq_true rfl)⟩ (kc_Re b15 0 b10 b4 b0) (fun V9 hV9 => ?_)
  obtain ⟨b16, b17, b18, b19, b20, b21, b22, b23, b24, b25, b26, b27, b28, b29, b30, b31, b32, rfl⟩ := hV9
  refine kw_aast C 15 16 rfl rfl (by decide) (by decide) dd_Le_init_77 ?_
  refine kw_iinc (v := nI 1) C dd_Le_init_78 rfl (by decide +kernel) (Nat.le_of_ble_eq_true rfl) ?_
  refine kw_goto (tgt := 47) C dd_Le_init_81 (by decide) ?_
  refine kw_iload_n C dd_Le_init_47 rfl ?_
  refine kw_iconst (v := nI 4) C dd_Le_init_48 (by decide +kernel) ?_
  refine kw_icmp_ge (tgt := 84) C dd_Le_init_49 (by decide) (fun h9 => absurd h9 (by decide +kernel)) (fun _ => ?_)
  refine kw_aload_n C dd_Le_init_52 rfl ?_
  refine kw_get C 0 wc_0 kF_Le_32 rfl (by decide) rfl rfl dd_Le_init_53 ?_
  refine kw_iload_n C dd_Le_init_56 rfl ?_
  refine kw_new C wc_16 kl_Le_30 kn_Re ki_Re [.int 0, .null, .null, .null, .null, .null, .null, .null, .int 0, .int 0, .int 0, .int 0, .int 0] kd_Re ⟨(Nat.le_of_ble_eq_true rfl), (Nat.le_of_ble_eq_true rfl)⟩ dd_Le_init_57 (fun b33 => ?_)
  refine kw_dup C dd_Le_init_60 rfl ?_
  refine kw_iload_n C dd_Le_init_61 rfl ?_
  refine kw_aload_n C dd_Le_init_62 rfl ?_
  refine kw_get C 0 wc_0 kF_Le_26 rfl (by decide) rfl rfl dd_Le_init_63 ?_
  refine kw_aload_n C dd_Le_init_66 rfl ?_
  refine kw_get C 0 wc_0 kF_Le_19 rfl (by decide) rfl rfl dd_Le_init_67 ?_
  refine kw_aload_n C dd_Le_init_70 rfl ?_
  refine kw_get C 0 wc_0 kF_Le_12 rfl (by decide) rfl rfl dd_Le_init_71 ?_
  refine kw_ctor (As := [.int (nI 1), .ref b10, .ref b4, .ref b0]) C kI_Le_36 dd_Le_init_74 rfl rfl (Nat.le_of_ble_eq_true rfl) ⟨(Nat.le_of_ble_eq_true rfl), (Nat.le_of_ble_eq_true rfl)⟩ ⟨(Nat.le_of_ble_eq_true rfl), (Nat.le_of_ble_eq_true rfl)⟩ (kc_Re b33 1 b10 b4 b0) (fun V9 hV9 => ?_)
  obtain ⟨b34, b35, b36, b37, b38, b39, b40, b41, b42, b43, b44, b45, b46, b47, b48, b49, b50, rfl⟩ := hV9
  refine kw_aast C 15 34 rfl rfl (by decide) (by decide) dd_Le_init_77 ?_
  refine kw_iinc (v := nI 2) C dd_Le_init_78 rfl (by decide +kernel) (Nat.le_of_ble_eq_true rfl) ?_
  refine kw_goto (tgt := 47) C dd_Le_init_81 (by decide) ?_
  refine kw_iload_n C dd_Le_init_47 rfl ?_
  refine kw_iconst (v := nI 4) C dd_Le_init_48 (by decide +kernel) ?_
  refine kw_icmp_ge (tgt := 84) C dd_Le_init_49 (by decide) (fun h9 => absurd h9 (by decide +kernel)) (fun _ => ?_)
  refine kw_aload_n C dd_Le_init_52 rfl ?_
  refine kw_get C 0 wc_0 kF_Le_32 rfl (by decide) rfl rfl dd_Le_init_53 ?_
  refine kw_iload_n C dd_Le_init_56 rfl ?_
  refine kw_new C wc_16 kl_Le_30 kn_Re ki_Re [.int 0, .null, .null, .null, .null, .null, .null, .null, .int 0, .int 0, .int 0, .int 0, .int 0] kd_Re ⟨(Nat.le_of_ble_eq_true rfl), (Nat.le_of_ble_eq_true rfl)⟩ dd_Le_init_57 (fun b51 => ?_)
  refine kw_dup C dd_Le_init_60 rfl ?_
  refine kw_iload_n C dd_Le_init_61 rfl ?_
  refine kw_aload_n C dd_Le_init_62 rfl ?_
  refine kw_get C 0 wc_0 kF_Le_26 rfl (by decide) rfl rfl dd_Le_init_63 ?_
  refine kw_aload_n C dd_Le_init_66 rfl ?_
  refine kw_get C 0 wc_0 kF_Le_19 rfl (by decide) rfl rfl dd_Le_init_67 ?_
  refine kw_aload_n C dd_Le_init_70 rfl ?_
  refine kw_get C 0 wc_0 kF_Le_12 rfl (by decide) rfl rfl dd_Le_init_71 ?_
  refine kw_ctor (As := [.int (nI 2), .ref b10, .ref b4, .ref b0]) C kI_Le_36 dd_Le_init_74 rfl rfl (Nat.le_of_ble_eq_true rfl) ⟨(Nat.le_of_ble_eq_true rfl), (Nat.le_of_ble_eq_true rfl)⟩ ⟨(Nat.le_of_ble_eq_true rfl), (Nat.le_of_ble_eq_true rfl)⟩ (kc_Re b51 2 b10 b4 b0) (fun V9 hV9 => ?_)
  obtain ⟨b52, b53, b54, b55, b56, b57, b58, b59, b60, b61, b62, b63, b64, b65, b66, b67, b68, rfl⟩ := hV9
  refine kw_aast C 15 52 rfl rfl (by decide) (by decide) dd_Le_init_77 ?_
  refine kw_iinc (v := nI 3) C dd_Le_init_78 rfl (by decide +kernel) (Nat.le_of_ble_eq_true rfl) ?_
  refine kw_goto (tgt := 47) C dd_Le_init_81 (by decide) ?_
  refine kw_iload_n C dd_Le_init_47 rfl ?_
  refine kw_iconst (v := nI 4) C dd_Le_init_48 (by decide +kernel) ?_
  refine kw_icmp_ge (tgt := 84) C dd_Le_init_49 (by decide) (fun h9 => absurd h9 (by decide +kernel)) (fun _ => ?_)
  refine kw_aload_n C dd_Le_init_52 rfl ?_
  refine kw_get C 0 wc_0 kF_Le_32 rfl (by decide) rfl rfl dd_Le_init_53 ?_
  refine kw_iload_n C dd_Le_init_56 rfl ?_
  refine kw_new C wc_16 kl_Le_30 kn_Re ki_Re [.int 0, .null, .null, .null, .null, .null, .null, .null, .int 0, .int 0, .int 0, .int 0, .int 0] kd_Re ⟨(Nat.le_of_ble_eq_true rfl), (Nat.le_of_ble_eq_true rfl)⟩ dd_Le_init_57 (fun b69 => ?_)
  refine kw_dup C dd_Le_init_60 rfl ?_
  refine kw_iload_n C dd_Le_init_61 rfl ?_
  refine kw_aload_n C dd_Le_init_62 rfl ?_
  refine kw_get C 0 wc_0 kF_Le_26 rfl (by decide) rfl rfl dd_Le_init_63 ?_
  refine kw_aload_n C dd_Le_init_66 rfl ?_
  refine kw_get C 0 wc_0 kF_Le_19 rfl (by decide) rfl rfl dd_Le_init_67 ?_
  refine kw_aload_n C dd_Le_init_70 rfl ?_
  refine kw_get C 0 wc_0 kF_Le_12 rfl (by decide) rfl rfl dd_Le_init_71 ?_
  refine kw_ctor (As := [.int (nI 3), .ref b10, .ref b4, .ref b0]) C kI_Le_36 dd_Le_init_74 rfl rfl (Nat.le_of_ble_eq_true rfl) ⟨(Nat.le_of_ble_eq_true rfl), (Nat.le_of_ble_eq_true rfl)⟩ ⟨(Nat.le_of_ble_eq_true rfl), (Nat.le_of_ble_eq_true rfl)⟩ (kc_Re b69 3 b10 b4 b0) (fun V9 hV9 => ?_)
  obtain ⟨b70, b71, b72, b73, b74, b75, b76, b77, b78, b79, b80, b81, b82, b83, b84, b85, b86, rfl⟩ := hV9
  refine kw_aast C 15 70 rfl rfl (by decide) (by decide) dd_Le_init_77 ?_
  refine kw_iinc (v := nI 4) C dd_Le_init_78 rfl (by decide +kernel) (Nat.le_of_ble_eq_true rfl) ?_
  refine kw_goto (tgt := 47) C dd_Le_init_81 (by decide) ?_
  refine kw_iload_n C dd_Le_init_47 rfl ?_
  refine kw_iconst (v := nI 4) C dd_Le_init_48 (by decide +kernel) ?_
  refine kw_icmp_ge (tgt := 84) C dd_Le_init_49 (by decide) (fun _ => ?_) (fun h9 => absurd (by decide +kernel) h9)
  refine kw_aload_n C dd_Le_init_84 rfl ?_
  refine kw_iconst (v := nI 4294967295) C dd_Le_init_85 (by decide +kernel) ?_
  refine kw_put C 0 wc_0 kF_Le_39 rfl (by decide) rfl rfl rfl rfl (Nat.le_of_ble_eq_true rfl) dd_Le_init_86 ?_
  refine kw_arr 15 (fun i => some (kw_f [(0, a), (4, b0), (8, b1), (12, b2), (16, b3), (20, b4), (24, b5), (28, b6), (32, b7), (36, b8), (40, b9), (44, b10), (48, b11), (52, b12), (56, b13), (60, b14), (64, b15), (68, b16), (72, b17), (76, b18), (80, b19), (84, b20), (88, b21), (92, b22), (96, b23), (100, b24), (104, b25), (108, b26), (112, b27), (116, b28), (120, b29), (124, b30), (128, b31), (132, b32), (65, b33), (69, b34), (73, b35), (77, b36), (81, b37), (85, b38), (89, b39), (93, b40), (97, b41), (101, b42), (105, b43), (109, b44), (113, b45), (117, b46), (121, b47), (125, b48), (129, b49), (133, b50), (66, b51), (70, b52), (74, b53), (78, b54), (82, b55), (86, b56), (90, b57), (94, b58), (98, b59), (102, b60), (106, b61), (110, b62), (114, b63), (118, b64), (122, b65), (126, b66), (130, b67), (134, b68), (67, b69), (71, b70), (75, b71), (79, b72), (83, b73), (87, b74), (91, b75), (95, b76), (99, b77), (103, b78), (107, b79), (111, b80), (115, b81), (119, b82), (123, b83), (127, b84), (131, b85), (135, b86)] (64 + i))) rfl (fun j hj => by rcases (show j = 0 ∨ j = 1 ∨ j = 2 ∨ j = 3 by omega) with rfl | rfl | rfl | rfl <;> rfl) ?_
  exact kw_vret C dd_Le_init_89 (Nat.le_of_ble_eq_true rfl) (Nat.le_of_ble_eq_true rfl) ⟨kw_f [(0, a), (4, b0), (8, b1), (12, b2), (16, b3), (20, b4), (24, b5), (28, b6), (32, b7), (36, b8), (40, b9), (44, b10), (48, b11), (52, b12), (56, b13), (60, b14), (64, b15), (68, b16), (72, b17), (76, b18), (80, b19), (84, b20), (88, b21), (92, b22), (96, b23), (100, b24), (104, b25), (108, b26), (112, b27), (116, b28), (120, b29), (124, b30), (128, b31), (132, b32), (65, b33), (69, b34), (73, b35), (77, b36), (81, b37), (85, b38), (89, b39), (93, b40), (97, b41), (101, b42), (105, b43), (109, b44), (113, b45), (117, b46), (121, b47), (125, b48), (129, b49), (133, b50), (66, b51), (70, b52), (74, b53), (78, b54), (82, b55), (86, b56), (90, b57), (94, b58), (98, b59), (102, b60), (106, b61), (110, b62), (114, b63), (118, b64), (122, b65), (126, b66), (130, b67), (134, b68), (67, b69), (71, b70), (75, b71), (79, b72), (83, b73), (87, b74), (91, b75), (95, b76), (99, b77), (103, b78), (107, b79), (111, b80), (115, b81), (119, b82), (123, b83), (127, b84), (131, b85), (135, b86)], rfl, rfl⟩
