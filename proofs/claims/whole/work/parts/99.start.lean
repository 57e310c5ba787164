/-! the law's start -/
/-- what holds at the law's entry: the machine, the code, the tables' words (any of lw_tbl by 'hts w (by decide +kernel)'), the script of L ints xs at the cell b, what the Statement gives of the start (any of its parts by flat_of_before) -/
def lw_At (p : Program) (s : State) (m : MethodId) (meth : Method) (c : Code) (b L : Nat) (xs : Nat → Int32) : Prop :=
  p.tables.exec = Jvm.exec ∧ c.code = code ∧ meth.sig.returnType = ret ∧ c.maxLocals = 7 ∧ s.vm.findClass R_law = some m.cls ∧ (∀ w ∈ lw_tbl, w.before #[Value.ref b] s = true) ∧ va_X b L xs s s.heap ∧ b < s.heap.size ∧ meth.locks = false ∧ (Jvm.Cond.and given_1 narrow_1).before #[Value.ref b] s = true

theorem kn_Le : Cond.instantiable "DagLedger" 5 ∈ wd_tb := ct_w (by decide +kernel) (by decide +kernel)
theorem kn_Mo : Cond.instantiable "DagLedgerModel" 35 ∈ wd_tb := ct_w (by decide +kernel) (by decide +kernel)
theorem ki_Le : Cond.initialized "DagLedger" ∈ wd_tb := ct_w (by decide +kernel) (by decide +kernel)
theorem ki_Mo : Cond.initialized "DagLedgerModel" ∈ wd_tb := ct_w (by decide +kernel) (by decide +kernel)
theorem kl_La_8 : Cond.classLink "DagLedgerLaw" 8 "DagLedger" ∈ wd_tb := ct_w (by decide +kernel) (by decide +kernel)
theorem kl_La_55 : Cond.classLink "DagLedgerLaw" 55 "DagLedgerModel" ∈ wd_tb := ct_w (by decide +kernel) (by decide +kernel)
theorem kd_Le : ∀ j, j < 5 → defaultValue (ty_Le j) = vp_V [.null, .null, .null, .null, .int 0] j := by
  intro j hj
  rcases (show j = 0 ∨ j = 1 ∨ j = 2 ∨ j = 3 ∨ j = 4 by omega) with rfl | rfl | rfl | rfl | rfl <;> rfl
theorem kd_Mo : ∀ j, j < 35 → defaultValue (ty_Mo j) = vp_V [.int 0, .int 0, .null, .null, .null, .null, .null, .int 0, .null, .null, .null, .null, .null, .int 0, .null, .null, .null, .null, .null, .null, .null, .null, .null, .null, .null, .null, .null, .null, .null, .null, .null, .null, .null, .null, .int 0] j := by
  intro j hj
  rcases (show j = 0 ∨ j = 1 ∨ j = 2 ∨ j = 3 ∨ j = 4 ∨ j = 5 ∨ j = 6 ∨ j = 7 ∨ j = 8 ∨ j = 9 ∨ j = 10 ∨ j = 11 ∨ j = 12 ∨ j = 13 ∨ j = 14 ∨ j = 15 ∨ j = 16 ∨ j = 17 ∨ j = 18 ∨ j = 19 ∨ j = 20 ∨ j = 21 ∨ j = 22 ∨ j = 23 ∨ j = 24 ∨ j = 25 ∨ j = 26 ∨ j = 27 ∨ j = 28 ∨ j = 29 ∨ j = 30 ∨ j = 31 ∨ j = 32 ∨ j = 33 ∨ j = 34 by omega) with rfl | rfl | rfl | rfl | rfl | rfl | rfl | rfl | rfl | rfl | rfl | rfl | rfl | rfl | rfl | rfl | rfl | rfl | rfl | rfl | rfl | rfl | rfl | rfl | rfl | rfl | rfl | rfl | rfl | rfl | rfl | rfl | rfl | rfl | rfl <;> rfl
theorem kI_La_54 : kw_kI "DagLedgerLaw" 54 yy_Le_init cc_Le_init 2 0 := ⟨Or.inl (ct_w (by decide +kernel) (by decide +kernel)), ct_w (by decide +kernel) (by decide +kernel), ki_Le, ct_w (by decide +kernel) (by decide +kernel), rfl, ⟨by decide, by decide, by decide +kernel⟩⟩
theorem kI_La_57 : kw_kI "DagLedgerLaw" 57 yy_Mo_init cc_Mo_init 2 0 := ⟨Or.inl (ct_w (by decide +kernel) (by decide +kernel)), ct_w (by decide +kernel) (by decide +kernel), ki_Mo, ct_w (by decide +kernel) (by decide +kernel), rfl, ⟨by decide, by decide, by decide +kernel⟩⟩
theorem ka_over : Cond.arrayOver (.object "DagLedger$Replica") ∈ lw_tbl := of_decide_eq_true (by decide +kernel)
/-- the numbers of the classes and of the arrays' classes -/
theorem kw_K0 {s : State} {args : Array Value} (hts : ∀ w ∈ wd_tb, w.before args s = true) (hao : va_AO wd_R s) : ∃ g : va_G × (Nat → ClassId), va_K g.1 wd_cl (wd_ty ((fun _ => 0, g) : wd_G)) s := by
  have h0 : ∀ ci : Nat, ∃ x : ClassId × (Nat → Nat), ∀ q : vw_C, wd_cl[ci]? = some q → u_Kn s q.1 q.2.1 q.2.2 x.1 x.2 := by
    intro ci
    by_cases hc : ci < 11
    · rcases (show ci = 0 ∨ ci = 1 ∨ ci = 2 ∨ ci = 3 ∨ ci = 4 ∨ ci = 5 ∨ ci = 6 ∨ ci = 7 ∨ ci = 8 ∨ ci = 9 ∨ ci = 10 by omega) with rfl | rfl | rfl | rfl | rfl | rfl | rfl | rfl | rfl | rfl | rfl
      · obtain ⟨cC, iS, h⟩ := u_known (n := 5) hts wc_0.2.1 (hts _ kn_Le)
        exact ⟨(cC, iS), fun q hq => by cases hq; exact h⟩
      · obtain ⟨cC, iS, h⟩ := u_known (n := 4) hts wc_1.2.1 (hts _ kn_Tr)
        exact ⟨(cC, iS), fun q hq => by cases hq; exact h⟩
      · obtain ⟨cC, iS, h⟩ := u_known (n := 6) hts wc_5.2.1 (hts _ kn_Ve)
        exact ⟨(cC, iS), fun q hq => by cases hq; exact h⟩
      · obtain ⟨cC, iS, h⟩ := u_known (n := 4) hts wc_11.2.1 (hts _ kn_Bo)
        exact ⟨(cC, iS), fun q hq => by cases hq; exact h⟩
      · obtain ⟨cC, iS, h⟩ := u_known (n := 13) hts wc_16.2.1 (hts _ kn_Re)
        exact ⟨(cC, iS), fun q hq => by cases hq; exact h⟩
      · obtain ⟨cC, iS, h⟩ := u_known (n := 7) hts wc_17.2.1 (hts _ kn_Di)
        exact ⟨(cC, iS), fun q hq => by cases hq; exact h⟩
      · obtain ⟨cC, iS, h⟩ := u_known (n := 4) hts wc_21.2.1 (hts _ kn_No)
        exact ⟨(cC, iS), fun q hq => by cases hq; exact h⟩
      · obtain ⟨cC, iS, h⟩ := u_known (n := 4) hts wc_25.2.1 (hts _ kn_Dg)
        exact ⟨(cC, iS), fun q hq => by cases hq; exact h⟩
      · obtain ⟨cC, iS, h⟩ := u_known (n := 5) hts wc_28.2.1 (hts _ kn_Bk)
        exact ⟨(cC, iS), fun q hq => by cases hq; exact h⟩
      · obtain ⟨cC, iS, h⟩ := u_known (n := 6) hts wc_31.2.1 (hts _ kn_Co)
        exact ⟨(cC, iS), fun q hq => by cases hq; exact h⟩
      · obtain ⟨cC, iS, h⟩ := u_known (n := 35) hts wc_34.2.1 (hts _ kn_Mo)
        exact ⟨(cC, iS), fun q hq => by cases hq; exact h⟩
    · exact ⟨(0, fun _ => 0), fun q hq => absurd (List.getElem?_eq_some_iff.mp hq).1 (by show ¬ ci < 11; exact hc)⟩
  obtain ⟨D, hD⟩ := Classical.axiomOfChoice h0
  obtain ⟨c0, k0, p0, f0, g0, e0⟩ := Cond.arrayClass_spec (hts _ ko_ai)
  obtain ⟨c1, k1, p1, f1, g1, e1⟩ := Cond.arrayClass_spec (hts _ ko_az)
  obtain ⟨c2, k2, p2, f2, g2, e2⟩ := Cond.arrayClass_spec (hts _ ko_al)
  obtain ⟨comp, c3, k3, a1, -, g3, e3, f3⟩ := Cond.arrayOver_spec hao
  refine ⟨((fun ci => (D ci).1, fun ci => (D ci).2), fun i => if i = 0 then c0 else if i = 1 then c1 else if i = 2 then c2 else c3), fun ci q hq => hD ci q hq, fun k q hk => ?_⟩
  rcases k with _ | _ | _ | _ | k
  · cases hk; exact ⟨fun N z => ⟨(fun k h => by cases h), k0, g0, p0, e0⟩, f0⟩
  · cases hk; exact ⟨fun N z => ⟨(fun k h => by cases h), k1, g1, p1, e1⟩, f1⟩
  · cases hk; exact ⟨fun N z => ⟨(fun k h => by cases h), k2, g2, p2, e2⟩, f2⟩
  · cases hk; exact ⟨fun N z => ⟨(fun k h => by cases h), k3, g3, comp, e3⟩, k3, comp, g3, e3, a1, f3⟩
  · simp at hk
theorem kw_sub {p : Program} {l : Launch} {e : Env} {R : Room} {s : State} {m : MethodId} {args : Array Value} {below : List Frame} {meth : Method} {c : Code} {A : Nat → Prop} {g : wd_G} {cells slots : Nat} {G : State → Prop} {nL pc : Nat} {ls : List (Option Value)} {st : List Value} {V : va_W} (V' : va_W) (is : List Nat) (hn : va_nd is = true) (hs : is.map (fun i => V[i]?) = V'.map some)
    (k : kw_W p l e R s m args below meth c A g V' cells slots G nL pc ls st) : kw_W p l e R s m args below meth c A g V cells slots G nL pc ls st := fun H locs la hl hP hD hS =>
  k H locs la hl (hP.sub is (by
    have e1 : is.filterMap (fun i => V[i]?) = (is.map (fun i => V[i]?)).filterMap id := by rw [List.filterMap_map]; rfl
    rw [e1, hs]
    simp [List.filterMap_map])) (hD.sub is hn hs) hS
def kw_pl : List Nat := [0, 1, 2, 3, 4, 5, 6, 7, 8, 9, 10, 11, 12, 13, 14, 15, 16, 34, 52, 70, 17, 35, 53, 71, 18, 36, 54, 72, 19, 37, 55, 73, 20, 38, 56, 74, 21, 39, 57, 75, 22, 40, 58, 76, 23, 41, 59, 77, 24, 42, 60, 78, 25, 43, 61, 79, 26, 44, 62, 80, 27, 45, 63, 81, 28, 46, 64, 82, 29, 47, 65, 83, 30, 48, 66, 84, 31, 49, 67, 85, 32, 50, 68, 86, 33, 51, 69, 87, 88, 89, 90, 91, 92, 93, 94, 95, 96, 97, 98, 99, 100, 101, 102, 103, 104, 105, 106, 107, 108, 109, 110, 111, 112, 113, 114, 115, 116, 117, 118, 119]
def kw_F (f f2 : Nat → Nat) (q c : Nat) : Nat := if c < 136 then f c else if c < 260 then f2 c else q
abbrev kw_V (f f2 : Nat → Nat) (q : Nat) (g : va_G × (Nat → ClassId)) : va_W := ([] ++ wd_w kw_ord ((f, g) : wd_G) (wx_e kx_0) (wx_l kx_0)) ++ wd_w wd_mo ((f2, g) : wd_G) (wx_e kx_0) (wx_l kx_0) ++ [(q, .inl (g.2 2, 1, .inr (.inl (fun _ => 0))))]
set_option maxRecDepth 100000 in
set_option maxHeartbeats 8000000 in
theorem kw_plE (f f2 : Nat → Nat) (q : Nat) (g : va_G × (Nat → ClassId)) : kw_pl.map (fun i => ((kw_V f f2 q g).set 15 (f 60, .inl (g.2 3, 4, .inr (.inr (.inr (.inr (fun i => some (kw_F f f2 q (64 + i)))))))) )[i]?) = (wd_w wd_all ((kw_F f f2 q, g) : wd_G) (wx_e kx_0) (wx_l kx_0)).map some := rfl
