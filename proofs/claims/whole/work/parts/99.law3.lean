/-! the law's loop -/
def R_law : String := "DagLedgerLaw"
def lw_P (b : Addr) (xs : List Int32) (args : Array Value) (s : State) : Prop := args = #[.ref b] ∧ s.IntsAt b xs ∧ xs.length ≤ 2560 ∧ (Jvm.Cond.and given_1 narrow_1).before args s = true
def lw_Q (_ : Array Value) (s : State) (o : Outcome) (t : State) : Prop := o = .returned (some (.int 1)) ∧ Framed s o t [] 601024 7293034
def lw_Z (below : List Frame) (a : Array Value) (s : State) : State → Prop := fun t => ∃ o, t.status = .running ∧ Ended t below o ∧ lw_Q a s o t
/-- the law's own end, with 1 on the stack, nothing written that was there before, its room as the claim has it -/
theorem lw_ret {p : Program} {l : Launch} {e : Env} {s : State} {m : MethodId} {below : List Frame} {meth : Method} {c : Code} {b : Nat} (hx : p.tables.exec = Jvm.exec) (hb : c.code = code) (hr : meth.sig.returnType = ret) (hlocks : meth.locks = false) {pc : Nat} {H : Heap} {ls : Array Slot} (hdg : decode code pc = .ok (.ireturn, 1)) : W p l e room_1 s m #[Value.ref b] below meth c H [] 601024 7293034 (lw_Z below #[Value.ref b] s) (F0 m pc ls [.int 1]) := by
  intro T hT X
  obtain ⟨fs, hret, hrun, hended, hW, hframe⟩ := X.leave (v := some (.int 1)) (hlocks := hlocks) (fun h => by rw [hr] at h; cases h)
  have hmeth' : T.vm.method? m = some meth := X.method'
  refine ⟨T.setFrames fs, ?_, .returned (some (.int 1)), hrun, hended, rfl, ⟨_, rfl⟩, hW, hframe⟩
  jvm_step X.here [X.here.top, hx, hb, hdg, hmeth', hr, ret, narrow_b1]
  (try refine ⟨rfl, ?_⟩); (try refine ⟨rfl, ?_⟩)
  first | (intro acts; rw [hret _ acts rfl rfl rfl]) | rw [hret _ _ rfl rfl rfl]
  exact Steps.refl _
set_option maxRecDepth 100000 in
set_option maxHeartbeats 4000000 in
theorem la_loop {p : Program} {l : Launch} {e : Env} {s : State} {m : MethodId} {below : List Frame} {meth : Method} {c : Code} {A : Nat → Prop} {g : wd_G} {S0 : State} {b L : Nat} {xs : Nat → Int32} (C : cw_C p s m #[Value.ref b] meth c A wd_all g code 7 "DagLedgerLaw" ret) (D : ct_C l S0 s A g) (hX : va_X b L xs s s.heap) (hbl : b < s.heap.size) (hbA : ¬ A b) (hL : L ≤ 2560) (hA : ∀ q, A q → s.heap.size ≤ q) : ∀ (j n : Nat) (X : wx_S) (cells slots : Nat), 5 * (n + j) ≤ L → L < 5 * (n + j) + 5 → rl_all X X → cells ≤ 120 + n → slots ≤ 10273 + 6 * n →
    cw_W p l e room_1 s m #[Value.ref b] below meth c A wd_all g cells slots (lw_Z below #[Value.ref b] s) 7 23 [some (.retAddr b), some (.ref 0), some (.ref 136), some (.ref 260), some (.int (nI (5 * n))), none, none] [] (wx_e X) (wx_l X) := by
  intro j
  induction j with
  | zero =>
    intro n X cells slots h1 h2 hall hc hs
    refine cw_iload C dd_La_law_23 rfl ?_
    refine cw_aload_nq C dd_La_law_25 rfl ?_
    refine nw_slen C hX hbl hbA dd_La_law_26 ?_
    refine cw_iconst (v := nI 5) C dd_La_law_27 (by decide +kernel) ?_
    refine cw_isub C dd_La_law_28 ?_
    refine cw_icmp_gt (tgt := 1140) C dd_La_law_29 (by decide) (fun _ => ?_) (fun h9 => absurd ((la_sub5 hL (by omega)).mpr (by omega)) h9)
    refine cw_iconst (v := nI 1) C dd_La_law_1140 (by decide +kernel) ?_
    intro H locs la hl hP hS
    refine va_forget (fun q hq => hA _ (hS.2.2 q hq)) ?_
    exact W.widen (k := 601024) (n := 7293034) (by omega) (by omega) (lw_ret C.1 C.2.1 (cw_hr C) (cw_hlk C) dd_La_law_1141)
  | succ j ih =>
    intro n X cells slots h1 h2 hall hc hs
    refine cw_iload C dd_La_law_23 rfl ?_
    refine cw_aload_nq C dd_La_law_25 rfl ?_
    refine nw_slen C hX hbl hbA dd_La_law_26 ?_
    refine cw_iconst (v := nI 5) C dd_La_law_27 (by decide +kernel) ?_
    refine cw_isub C dd_La_law_28 ?_
    refine cw_icmp_gt (tgt := 1140) C dd_La_law_29 (by decide) (fun h9 => absurd ((la_sub5 hL (by omega)).mp h9) (by omega)) (fun _ => ?_)
    refine cw_aload_nq C dd_La_law_32 rfl ?_
    refine cw_iload C dd_La_law_33 rfl ?_
    refine nw_sld C hX hbl hbA (by omega) hL dd_La_law_35 ?_
    refine cw_bipush (v := nI 15) C dd_La_law_36 (by decide +kernel) ?_
    refine nw_iand C dd_La_law_38 ?_
    have hk : ∀ (X' : wx_S) (cells' slots' : Nat), rl_all X' X' → cells' ≤ cells + 1 → slots' ≤ slots + 6 → cw_W p l e room_1 s m #[Value.ref b] below meth c A wd_all g cells' slots' (lw_Z below #[Value.ref b] s) 7 1134 [some (.retAddr b), some (.ref 0), some (.ref 136), some (.ref 260), some (.int (nI (5 * n))), none, none] [] (wx_e X') (wx_l X') := fun X' c' s' ha' hc' hs' => by
      refine nw_iinc (b := 5) C dd_La_law_1134 (by decide +kernel) rfl (Nat.le_of_ble_eq_true rfl) ?_
      refine cw_goto (tgt := 23) C dd_La_law_1137 (by decide) ?_
      exact ih (n + 1) X' c' s' (by omega) (by omega) ha' (by omega) (by omega)
    have h15 : la_y xs (5 * n) &&& 15 ≤ 15 := Nat.and_le_right
    generalize la_y xs (5 * n) &&& 15 = z at h15 ⊢
    rcases (show z = 0 ∨ z = 1 ∨ z = 2 ∨ z = 3 ∨ z = 4 ∨ z = 5 ∨ z = 6 ∨ z = 7 ∨ z = 8 ∨ z = 9 ∨ z = 10 ∨ z = 11 ∨ z = 12 ∨ z = 13 ∨ z = 14 ∨ z = 15 by omega) with rfl | rfl | rfl | rfl | rfl | rfl | rfl | rfl | rfl | rfl | rfl | rfl | rfl | rfl | rfl | rfl
    · exact cw_tableIn (off := 77) (tgt := 116) C dd_La_law_39 (by decide +kernel) (by decide +kernel) (by decide +kernel) (by decide) (la_arm_0 C D hX hbl hbA hL (by omega) hall (by omega) (by omega) hk)
    · exact cw_tableIn (off := 169) (tgt := 208) C dd_La_law_39 (by decide +kernel) (by decide +kernel) (by decide +kernel) (by decide) (la_arm_1 C D hX hbl hbA hL (by omega) hall (by omega) (by omega) hk)
    · exact cw_tableIn (off := 244) (tgt := 283) C dd_La_law_39 (by decide +kernel) (by decide +kernel) (by decide +kernel) (by decide) (la_arm_2 C D hX hbl hbA hL (by omega) hall (by omega) (by omega) hk)
    · exact cw_tableIn (off := 312) (tgt := 351) C dd_La_law_39 (by decide +kernel) (by decide +kernel) (by decide +kernel) (by decide) (la_arm_3 C D hX hbl hbA hL (by omega) hall (by omega) (by omega) hk)
    · exact cw_tableIn (off := 375) (tgt := 414) C dd_La_law_39 (by decide +kernel) (by decide +kernel) (by decide +kernel) (by decide) (la_arm_4 C D hX hbl hbA hL (by omega) hall (by omega) (by omega) hk)
    · exact cw_tableIn (off := 438) (tgt := 477) C dd_La_law_39 (by decide +kernel) (by decide +kernel) (by decide +kernel) (by decide) (la_arm_5 C D hX hbl hbA hL (by omega) hall (by omega) (by omega) hk)
    · exact cw_tableIn (off := 501) (tgt := 540) C dd_La_law_39 (by decide +kernel) (by decide +kernel) (by decide +kernel) (by decide) (la_arm_6 C D hX hbl hbA hL (by omega) hall (by omega) (by omega) hk)
    · exact cw_tableIn (off := 576) (tgt := 615) C dd_La_law_39 (by decide +kernel) (by decide +kernel) (by decide +kernel) (by decide) (la_arm_7 C D hX hbl hbA hL (by omega) hall (by omega) (by omega) hk)
    · exact cw_tableIn (off := 639) (tgt := 678) C dd_La_law_39 (by decide +kernel) (by decide +kernel) (by decide +kernel) (by decide) (la_arm_8 C D hX hbl hbA hL (by omega) hall (by omega) (by omega) hk)
    · exact cw_tableIn (off := 700) (tgt := 739) C dd_La_law_39 (by decide +kernel) (by decide +kernel) (by decide +kernel) (by decide) (la_arm_9 C D hX hbl hbA hL (by omega) hall (by omega) (by omega) hk)
    · exact cw_tableIn (off := 737) (tgt := 776) C dd_La_law_39 (by decide +kernel) (by decide +kernel) (by decide +kernel) (by decide) (la_arm_10 C D hX hbl hbA hL (by omega) hall (by omega) (by omega) hk)
    · exact cw_tableIn (off := 774) (tgt := 813) C dd_La_law_39 (by decide +kernel) (by decide +kernel) (by decide +kernel) (by decide) (la_arm_11 C D hX hbl hbA hL (by omega) hall (by omega) (by omega) hk)
    · exact cw_tableIn (off := 811) (tgt := 850) C dd_La_law_39 (by decide +kernel) (by decide +kernel) (by decide +kernel) (by decide) (la_arm_12 C D hX hbl hbA hL (by omega) hall (by omega) (by omega) hk)
    · exact cw_tableIn (off := 879) (tgt := 918) C dd_La_law_39 (by decide +kernel) (by decide +kernel) (by decide +kernel) (by decide) (la_arm_13 C D hX hbl hbA hL (by omega) hall (by omega) (by omega) hk)
    · exact cw_tableIn (off := 959) (tgt := 998) C dd_La_law_39 (by decide +kernel) (by decide +kernel) (by decide +kernel) (by decide) (la_arm_14 C D hX hbl hbA hL (by omega) hall (by omega) (by omega) hk)
    · exact cw_tableIn (off := 1027) (tgt := 1066) C dd_La_law_39 (by decide +kernel) (by decide +kernel) (by decide +kernel) (by decide) (la_arm_15 C D hX hbl hbA hL (by omega) hall (by omega) (by omega) hk)
