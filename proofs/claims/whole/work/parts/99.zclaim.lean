/-! the claim -/
set_option maxRecDepth 100000 in
set_option maxHeartbeats 8000000 in
theorem whole_start {p : Program} {e : Env} {s : State} {m : MethodId} {below : List Frame} {meth : Method} {c : Code} (l : Launch) (hfl : l.flags = flags0) {b L : Nat} {xs : Nat → Int32} (hL : L ≤ 2560) (C0 : lw_At p s m meth c b L xs) : W p l e room_1 s m #[Value.ref b] below meth c s.heap [] 0 0 (lw_Z below #[Value.ref b] s) (entryFrame m ([Value.ref b] : List Value).toArray 7) := by
  obtain ⟨hx, hb, hr, hml, hown, hts, hX, hbl, hlk, hgv⟩ := C0
  have htb : ∀ w ∈ wd_tb, w.before #[Value.ref b] s = true := fun w hw => hts w (List.mem_filter.mp hw).1
  have hao : va_AO wd_R s := va_AO.of (hts _ ka_over)
  obtain ⟨g0, hK⟩ := kw_K0 htb hao
  have hfl0 := flat_of_before _ hgv
  have h0 : ct_0 s #[Value.ref b] := ⟨hts, fun w hw => by
    simp only [ct_sf, List.mem_cons, List.not_mem_nil, or_false] at hw
    rcases hw with rfl | rfl
    · exact hfl0 _ (by decide +kernel)
    · exact hfl0 _ (by decide +kernel), hfl0 _ (by decide +kernel)⟩
  have C : kw_C p s m #[Value.ref b] meth c (fun q => s.heap.size ≤ q) ((fun _ => 0, g0) : wd_G) code 7 "DagLedgerLaw" ret := ⟨hx, hb, hml, hown, htb, fun w hw => va_Nw.of (cw_N_on (wd_nbN w hw)) (hts w (List.mem_append_right _ (wd_nb_in w hw))), hK, fun q h => h, hr, hlk, hao⟩
  have key : kw_W p l e room_1 s m #[Value.ref b] below meth c (fun q => s.heap.size ≤ q) ((fun _ => 0, g0) : wd_G) [] 0 0 (lw_Z below #[Value.ref b] s) 7 0 [some (.ref b), none, none, none, none, none, none] [] := by
    refine kw_new C wc_0 kl_La_8 kn_Le ki_Le [.null, .null, .null, .null, .int 0] kd_Le ⟨(Nat.le_of_ble_eq_true rfl), (Nat.le_of_ble_eq_true rfl)⟩ dd_La_law_0 (fun q0 => ?_)
    refine kw_dup C dd_La_law_3 rfl ?_
    refine kw_ctor (As := []) C kI_La_54 dd_La_law_4 rfl rfl (Nat.le_of_ble_eq_true rfl) ⟨(Nat.le_of_ble_eq_true rfl), (Nat.le_of_ble_eq_true rfl)⟩ ⟨(Nat.le_of_ble_eq_true rfl), (Nat.le_of_ble_eq_true rfl)⟩ (kc_Le q0) (fun V1 hV1 => ?_)
    obtain ⟨f, hf0, rfl⟩ := hV1
    refine kw_astore_n C dd_La_law_7 (Nat.le_of_ble_eq_true rfl) ?_
    refine kw_new C wc_34 kl_La_55 kn_Mo ki_Mo [.int 0, .int 0, .null, .null, .null, .null, .null, .int 0, .null, .null, .null, .null, .null, .int 0, .null, .null, .null, .null, .null, .null, .null, .null, .null, .null, .null, .null, .null, .null, .null, .null, .null, .null, .null, .null, .int 0] kd_Mo ⟨(Nat.le_of_ble_eq_true rfl), (Nat.le_of_ble_eq_true rfl)⟩ dd_La_law_8 (fun q1 => ?_)
    refine kw_dup C dd_La_law_11 rfl ?_
    refine kw_ctor (As := []) C kI_La_57 dd_La_law_12 rfl rfl (Nat.le_of_ble_eq_true rfl) ⟨(Nat.le_of_ble_eq_true rfl), (Nat.le_of_ble_eq_true rfl)⟩ ⟨(Nat.le_of_ble_eq_true rfl), (Nat.le_of_ble_eq_true rfl)⟩ (kc_Mo q1) (fun V2 hV2 => ?_)
    obtain ⟨f2, hf2, rfl⟩ := hV2
    refine kw_astore_n C dd_La_law_15 (Nat.le_of_ble_eq_true rfl) ?_
    refine kw_iconst (v := nI 1) C dd_La_law_16 (by decide +kernel) ?_
    refine kw_newl (N := 1) C (by decide) ko_al ⟨(Nat.le_of_ble_eq_true rfl), (Nat.le_of_ble_eq_true rfl)⟩ dd_La_law_17 (fun q2 => ?_)
    refine kw_astore_n C dd_La_law_19 (Nat.le_of_ble_eq_true rfl) ?_
    refine kw_arr 15 (a := f 60) (n := 4) (cA := g0.2 3) (f := fun i => some (f (4 * 16 + i))) (fun i => some (kw_F f f2 q2 (64 + i))) rfl (fun j hj => by unfold kw_F; rw [if_pos (by omega)]) ?_
    refine kw_sub (wd_w wd_all ((kw_F f f2 q2, g0) : wd_G) (wx_e kx_0) (wx_l kx_0)) kw_pl (by decide +kernel) (kw_plE f f2 q2 g0) ?_
    refine kw_cw C (ids := wd_all) (kw_F f f2 q2) rfl wd_nd [some (.retAddr b), some (.ref 0), some (.ref 136), some (.ref 260), none, none, none] [] ?_ rfl (fun C' => ?_)
    · intro i v hv
      rcases i with _ | _ | _ | _ | _ | _ | _ | i
      · cases hv; exact ⟨.ref b, rfl, rfl⟩
      · cases hv; exact ⟨.ref q0, rfl, by show Value.ref q0 = .ref (f 0); rw [hf0]⟩
      · cases hv; exact ⟨.ref q1, rfl, by show Value.ref q1 = .ref (f2 136); rw [hf2]⟩
      · cases hv; exact ⟨.ref q2, rfl, rfl⟩
      · cases hv
      · cases hv
      · cases hv
      · simp at hv
    have D : ct_C l s s (fun q => s.heap.size ≤ q) ((kw_F f f2 q2, g0) : wd_G) := ⟨hfl, ⟨_, h0⟩, ⟨State.WarmedH.refl s, Nat.le_refl _, fun _ _ => rfl⟩, fun _ h => h, fun c' hc' => by
      obtain ⟨i, hi⟩ := List.getElem?_of_mem hc'
      exact (cw_hD C' (wx_e kx_0) (wx_l kx_0)).2 i _ (wd_at hi), fun q cell hq hcell => absurd (Array.getElem?_eq_some_iff.mp hcell).1 (Nat.not_lt.mpr hq)⟩
    refine cw_iconst (v := nI 0) C' dd_La_law_20 (by decide +kernel) ?_
    refine cw_istore C' dd_La_law_21 (Nat.le_of_ble_eq_true rfl) ?_
    exact la_loop C' D hX hbl (Nat.not_le.mpr hbl) hL (fun _ h => h) (L / 5) 0 kx_0 _ _ (by omega) (by omega) kx_all (Nat.le_of_ble_eq_true rfl) (Nat.le_of_ble_eq_true rfl)
  rw [lg_entry_eq]
  exact key s.heap [] _ (cw_lh_in (ad := fun x => x) (av := [.ref b]) (nL := 7) (fun w hw => by
    simp only [List.mem_cons, List.not_mem_nil, or_false] at hw
    subst hw; rfl) (Nat.le_of_ble_eq_true rfl)) (fun k q hq => by simp at hq) ⟨fun i j a b' ha => by simp at ha, fun k q hq => by simp at hq⟩ va_S.rf
set_option maxHeartbeats 4000000 in
theorem lw_walk (l : Launch) (hfl : l.flags = flags0) (b : Addr) (xs : List Int32) : MetFree l x (headSpec (Jvm.Cond.code x code maxLocals ret :: tables_1) room_1) (lw_P b xs) (fun _ _ _ _ _ => True) lw_Q := by
  refine MetFree.of_bodyS (code := code) (maxLocals := maxLocals) (ret := ret) (by decide) ?_ ?_
  · intro args s m h hn
    obtain ⟨meth, c, h1, h2, h3, h4, h5, h6, -, -⟩ := Cond.code_spec hn (atoms_spec (ws := Jvm.Cond.code x code maxLocals ret :: tables_1) h _ List.mem_cons_self)
    exact ⟨meth, c, h1, h2, h3, h4, h5, h6⟩
  · intro p e s m args below meth c s₁ B hml0 hP _
    obtain ⟨rfl, hx, hbd, hgv⟩ := hP
    obtain ⟨scr, harrAt, hlist, hof, hsmall⟩ := hx
    obtain ⟨hcb, hkn, -, -⟩ := State.arrayAt?_spec harrAt
    have hown : s.vm.findClass R_law = some m.cls := findClass_of_methodNamed B.named
    have hts0 : ∀ c ∈ (Jvm.Cond.code x code maxLocals ret :: tables_1), c.before #[Value.ref b] s = true := atoms_spec (ws := Jvm.Cond.code x code maxLocals ret :: tables_1) B.pre
    have hts : ∀ w ∈ lw_tbl, w.before #[Value.ref b] s = true := k2_hts_sels lw_privs (fun w hw => hts0 w (List.mem_cons_of_mem _ hw)) lw_privs_ok
    have hml : c.maxLocals = 7 := B.maxLocals_eq (hts0 _ List.mem_cons_self)
    have X₀ : Stand p l e room_1 s m #[Value.ref b] below meth c s₁ [] 0 0 := Stand.of_body B
    have hh0 : s₁.heap = s.heap := by rw [B.state]; rfl
    have hsz : scr.slots.size = xs.length := by rw [← Array.length_toList, hlist, List.length_map]
    have hval : ∀ j : Nat, j < xs.length → scr.slots[j]? = some (.int (xs.getD j 0)) := fun j hj => by
      rw [← Array.getElem?_toList, hlist]
      simp [hj]
    have hbl : b < s.heap.size := (Array.getElem?_eq_some_iff.mp hcb).1
    have hX : va_X b xs.length (fun j => xs.getD j 0) s s.heap := ⟨scr, hcb, hof, hkn, hsz, hval⟩
    have K : W p l e room_1 s m #[Value.ref b] below meth c s₁.heap [] 0 0 (lw_Z below #[Value.ref b] s) (entryFrame m ([Value.ref b] : List Value).toArray 7) := by
      rw [hh0]
      exact whole_start l hfl hbd ⟨B.exec, B.bytes, B.returns, hml, hown, hts, hX, hbl, B.notSynchronized, hgv⟩
    obtain ⟨t, a1, o, b1, b2, b3⟩ := K s₁ rfl X₀
    exact ⟨t, o, a1, b1, b2, b3⟩
theorem lw_pre_spec {args : Array Value} {s : State} (h : (Jvm.Cond.and given_1 narrow_1).before args s = true) (hr : rest_1_c.before args s = true) : ∃ (b : Addr) (xs : List Int32), lw_P b xs args s := by
  have hs := flat_of_before _ h
  have hq := flat_of_before _ hr
  have hc : (Cond.count 1).before args s = true := hs _ (by decide +kernel)
  have harr : (Cond.arrayOf (.arg 0) .int).before args s = true := hs _ (by decide +kernel)
  have hle : (Cond.le (.length (.arg 0)) (.int 2560)).before args s = true := hs _ (by decide +kernel)
  have hlen : (Cond.isInt (.length (.arg 0))).before args s = true := hq _ (by decide +kernel)
  have hall : (Cond.all (.arg 0) (.isInt (.elem (.arg 0) (.index 0)))).before args s = true := hq _ (by decide +kernel)
  obtain ⟨b, xs, hb, hx⟩ := State.ints_of_pre rfl harr hlen hall
  have hsm : xs.length < 2 ^ 31 := hx.choose_spec.2.2.2
  have hev : (Term.length (.arg 0)).eval args s none [] s = some (.int xs.length.toInt32) := hx.length_eval hb
  have hv := Cond.le_ints hev (show (Term.int 2560).eval args s none [] s = some (.int 2560) from rfl)
  have hd : xs.length.toInt32 ≤ 2560 := by
    simpa [Cond.before, Cond.holds, hv] using hle
  have hN : xs.length ≤ 2560 := (Int32.ofNat_le_ofNat hsm (by decide)).mp (show Int32.ofNat xs.length ≤ Int32.ofNat 2560 from hd)
  exact ⟨b, xs, Cond.one_arg hc (show args[0]? = some (.ref b) from hb), hx, hN, h⟩
theorem lw_comes (l : Launch) (hfl : l.flags = flags0) : Comes l x (Jvm.Cond.code x code maxLocals ret :: tables_1) room_1 (fun tb e args s => Calls_1 tb e args s ∧ rest_1 tb e args s ∧ Pre_1 tb e args s)
    (fun _ _ args s o t => lw_Q args s o t) := by
  intro p e ha hc hk s m args below hf hfit hheap happ hpre
  obtain ⟨b, xs, hP⟩ := lw_pre_spec hpre.2.2 hpre.2.1
  obtain ⟨k, o, h1, h2, h3, hQ⟩ := lw_walk l hfl b xs p e ha hc hk s m args below hf ((Spec.applies_iff_loose hf).mp happ).1 hP trivial
  exact ⟨k, o, h1, h2, h3, hQ⟩
theorem lw_frame {s t : State} {o : Outcome} {args : Array Value} (h : Framed s o t [] 601024 7293034) :
    Framed s o t (fieldLocs frame_1_writes args s ++ arrayLocs frame_1_arrays args s ++ staticLocs frame_1_statics s) 601024 7293034 := h
theorem lw_limb (L : Cond) (hL : ∀ (args : Array Value) (s t : State), L.after args s (.returned (some (.int 1))) t = true) :
    ArmFor flags0 classFile x code maxLocals ret World_1 tables_1 room_1 Calls_1 rest_1 Pre_1
      (fun tb e a s o t => postC L tb e a s o t ∧ Framed s o t (fieldLocs frame_1_writes a s ++ arrayLocs frame_1_arrays a s ++ staticLocs frame_1_statics s) 601024 7293034) := by
  intro l hfl _ _ p e ha hc hk s m args below hf hfit hheap happ hpre
  obtain ⟨k, o, h1, h2, h3, rfl, hF⟩ := lw_comes l hfl p e ha hc hk s m args below hf hfit hheap happ hpre
  exact ⟨k, _, h1, h2, h3, hL args s _, lw_frame hF⟩
theorem i_vc : Claimed_1_1 ∧ Claimed_1_2 := ⟨lw_limb limb_1_1 (fun args s t => by simp [limb_1_1, Cond.after, Cond.holds, Cond.value]), lw_limb limb_1_2 (fun args s t => Cond.after_iff.mpr (by
  first | (rw [show limb_1_2 = Cond.eq .result (.int 1) from rfl, Cond.eq_ints (x := 1) (y := 1) rfl rfl]; simp; done) | (simp [limb_1_2, Cond.value, Term.eval]; done)))⟩
