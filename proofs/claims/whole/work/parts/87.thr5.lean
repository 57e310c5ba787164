/-! the class's throwing methods -/
theorem ct_w {w : Cond} (h : decide (w ∈ lw_tbl) = true) (hg : goodWord w = true) : w ∈ wd_tb := List.mem_filter.mpr ⟨of_decide_eq_true h, hg⟩
theorem ct_cl1 : Cond.classLink "DagLedger" 190 ct_IO ∈ wd_tb := ct_w (by decide +kernel) (by decide +kernel)
theorem ct_cl2 : Cond.classLink "DagLedger" 197 ct_IS ∈ wd_tb := ct_w (by decide +kernel) (by decide +kernel)
theorem ct_ins1 : Cond.instantiable ct_IO 6 ∈ wd_tb := ct_w (by decide +kernel) (by decide +kernel)
theorem ct_ins2 : Cond.instantiable ct_IS 6 ∈ wd_tb := ct_w (by decide +kernel) (by decide +kernel)
theorem ct_ini1 : Cond.initialized ct_IO ∈ wd_tb := ct_w (by decide +kernel) (by decide +kernel)
theorem ct_ini2 : Cond.initialized ct_IS ∈ wd_tb := ct_w (by decide +kernel) (by decide +kernel)
theorem ct_str1 : Cond.stringRef "DagLedger" 192 "no such node" ∈ lw_tbl := of_decide_eq_true (by decide +kernel)
theorem ct_str2 : Cond.stringRef "DagLedger" 199 "the node is down or faulty" ∈ lw_tbl := of_decide_eq_true (by decide +kernel)
theorem ct_of {y : MethodName} {cc : ByteArray} {nL : Nat} {ret : Option FieldType} {d : Nat} {av : List Value} {X : wx_S} {cls : String} (ls : List (Option Value)) (hy : plainName y.cls = true) (hcat : av.all cw_c1 = true) (hlen : av.length ≤ nL) (hls : cw_in av nL = ls)
    (h : ∀ (p : Program) (l : Launch) (e : Env) (s : State) (m : MethodId) (args : Array Value) (below : List Frame) (meth : Method) (c : Code) (A : Nat → Prop) (g : wd_G) (S0 : State), cw_C p s m args meth c A wd_all g cc nL y.cls ret → c.exceptionTable.isEmpty = true → ct_C l S0 s A g →
      cw_W p l e (cw_rm d 1 6) s m args below meth c A wd_all g 0 0 (ct_MQ below (ct_Q g A X cls) args s 1 6 A) nL 0 ls [] (wx_e X) (wx_l X)) : ct_M y cc nL ret d av X cls := by
  subst hls
  exact ct_M.of hy hcat hlen h
set_option maxRecDepth 100000 in
set_option maxHeartbeats 4000000 in
theorem ct_Le_replicaOf (X : wx_S) (n : Nat) (hn : n < 4294967296) (hb : 4 ≤ n) : ct_M yy_Le_replicaOf cc_Le_replicaOf 2 (some (.object "DagLedger$Replica")) 6 [.ref 0, .int (nI n)] X ct_IO := by
  refine ct_of [some (.ref 0), some (.int (nI n))] (by decide +kernel) rfl (Nat.le_of_ble_eq_true rfl) rfl ?_
  intro p l e s m args below meth c A g S0 C hx D
  have key : ∀ ls, cw_W p l e (cw_rm 6 1 6) s m args below meth c A wd_all g 0 0 (ct_MQ below (ct_Q g A X ct_IO) args s 1 6 A) 2 9 ls [] (wx_e X) (wx_l X) := fun ls => ct_throw (ix := 190) (sx := 192) (ic := 194) C hx D ct_cl1 ct_ins1 ct_ini1 ct_str1 (fun w hw => List.mem_append_left _ hw) (by decide +kernel) dd_Le_replicaOf_9 dd_Le_replicaOf_12 dd_Le_replicaOf_13 dd_Le_replicaOf_15 dd_Le_replicaOf_18 ⟨(Nat.le_of_ble_eq_true rfl), (Nat.le_of_ble_eq_true rfl)⟩ ⟨(Nat.le_of_ble_eq_true rfl), (Nat.le_of_ble_eq_true rfl)⟩
  refine cw_iload_n C dd_Le_replicaOf_0 rfl ?_
  refine nw_if_lt (tgt := 9) C dd_Le_replicaOf_1 (by decide) hn (fun h1 => ?_) (fun h1 => ?_)
  · exact key _
  · refine cw_iload_n C dd_Le_replicaOf_4 rfl ?_
    refine cw_iconst (v := nI 4) C dd_Le_replicaOf_5 (by decide +kernel) ?_
    refine nw_icmp_lt (tgt := 19) C dd_Le_replicaOf_6 (by decide) h1 (by decide) (fun h6 => ?_) (fun h6 => ?_)
    · exact absurd h6 (by omega)
    · exact key _
set_option maxRecDepth 100000 in
set_option maxHeartbeats 4000000 in
theorem ct_Le_upReplica (X : wx_S) (n : Nat) (hn : n < 4294967296) (hb : 4 ≤ n) : ct_M yy_Le_upReplica cc_Le_upReplica 3 (some (.object "DagLedger$Replica")) 7 [.ref 0, .int (nI n)] X ct_IO := by
  refine ct_of [some (.ref 0), some (.int (nI n)), none] (by decide +kernel) rfl (Nat.le_of_ble_eq_true rfl) rfl ?_
  intro p l e s m args below meth c A g S0 C hx D
  refine cw_aload_n C dd_Le_upReplica_0 rfl ?_
  refine cw_iload_n C dd_Le_upReplica_1 rfl ?_
  exact ct_callV (As := [_]) C hx D kV_Le_72 wc_0 is_0 dd_Le_upReplica_2 rfl rfl (Nat.le_of_ble_eq_true rfl) ⟨(Nat.le_of_ble_eq_true rfl), (Nat.le_of_ble_eq_true rfl)⟩ ⟨(Nat.le_of_ble_eq_true rfl), (Nat.le_of_ble_eq_true rfl)⟩ (ct_Le_replicaOf X n hn hb)
set_option maxRecDepth 100000 in
set_option maxHeartbeats 4000000 in
theorem ct_Le_upReplica_dn (X : wx_S) (r : Nat) (hr : r < 4) (hst : X (64 + r) 8 < 4294967296) (hup : X (64 + r) 8 ≠ 1) : ct_M yy_Le_upReplica cc_Le_upReplica 3 (some (.object "DagLedger$Replica")) 7 [.ref 0, .int (nI r)] X ct_IS := by
  refine ct_of [some (.ref 0), some (.int (nI r)), none] (by decide +kernel) rfl (Nat.le_of_ble_eq_true rfl) rfl ?_
  intro p l e s m args below meth c A g S0 C hx D
  refine cw_aload_n C dd_Le_upReplica_0 rfl ?_
  refine cw_iload_n C dd_Le_upReplica_1 rfl ?_
  refine cw_callV (As := [_]) C kV_Le_72 wc_0 is_0 dd_Le_upReplica_2 rfl rfl (Nat.le_of_ble_eq_true rfl) ⟨(Nat.le_of_ble_eq_true rfl), (Nat.le_of_ble_eq_true rfl)⟩ ⟨(Nat.le_of_ble_eq_true rfl), (Nat.le_of_ble_eq_true rfl)⟩ (mm_Le_replicaOf X r hr) (nw_kr ?_)
  refine cw_astore_n C dd_Le_upReplica_5 (Nat.le_of_ble_eq_true rfl) ?_
  refine cw_aload_n C dd_Le_upReplica_6 rfl ?_
  refine cw_callV (As := []) C kV_Le_78 wc_16 (is_16 hr) dd_Le_upReplica_7 rfl rfl (Nat.le_of_ble_eq_true rfl) ⟨(Nat.le_of_ble_eq_true rfl), (Nat.le_of_ble_eq_true rfl)⟩ ⟨(Nat.le_of_ble_eq_true rfl), (Nat.le_of_ble_eq_true rfl)⟩ (mm_Re_isUp X r hr hst) (nw_ki ?_)
  refine nw_zne (tgt := 23) C dd_Le_upReplica_10 (by decide) (fun h10 => ?_) (fun h10 => ?_)
  · exact absurd h10 hup
  · exact ct_throw (ix := 197) (sx := 199) (ic := 201) C hx D ct_cl2 ct_ins2 ct_ini2 ct_str2 (fun w hw => List.mem_append_right _ hw) (by decide +kernel) dd_Le_upReplica_13 dd_Le_upReplica_16 dd_Le_upReplica_17 dd_Le_upReplica_19 dd_Le_upReplica_22 ⟨(Nat.le_of_ble_eq_true rfl), (Nat.le_of_ble_eq_true rfl)⟩ ⟨(Nat.le_of_ble_eq_true rfl), (Nat.le_of_ble_eq_true rfl)⟩
set_option maxRecDepth 100000 in
set_option maxHeartbeats 4000000 in
theorem ct_Le_submit (X : wx_S) (n : Nat) (f t a : Nat) (hn : n < 4294967296) (hb : 4 ≤ n) : ct_M yy_Le_submit cc_Le_submit 7 (some .int) 8 [.ref 0, .int (nI n), .int (nI f), .int (nI t), .int (nI a)] X ct_IO := by
  refine ct_of [some (.ref 0), some (.int (nI n)), some (.int (nI f)), some (.int (nI t)), some (.int (nI a)), none, none] (by decide +kernel) rfl (Nat.le_of_ble_eq_true rfl) rfl ?_
  intro p l e s m args below meth c A g S0 C hx D
  refine cw_aload_n C dd_Le_submit_0 rfl ?_
  refine cw_iload_n C dd_Le_submit_1 rfl ?_
  exact ct_callV (As := [_]) C hx D kV_Le_43 wc_0 is_0 dd_Le_submit_2 rfl rfl (Nat.le_of_ble_eq_true rfl) ⟨(Nat.le_of_ble_eq_true rfl), (Nat.le_of_ble_eq_true rfl)⟩ ⟨(Nat.le_of_ble_eq_true rfl), (Nat.le_of_ble_eq_true rfl)⟩ (ct_Le_upReplica X n hn hb)
set_option maxRecDepth 100000 in
set_option maxHeartbeats 4000000 in
theorem ct_Le_submit_dn (X : wx_S) (r : Nat) (f t a : Nat) (hr : r < 4) (hst : X (64 + r) 8 < 4294967296) (hup : X (64 + r) 8 ≠ 1) : ct_M yy_Le_submit cc_Le_submit 7 (some .int) 8 [.ref 0, .int (nI r), .int (nI f), .int (nI t), .int (nI a)] X ct_IS := by
  refine ct_of [some (.ref 0), some (.int (nI r)), some (.int (nI f)), some (.int (nI t)), some (.int (nI a)), none, none] (by decide +kernel) rfl (Nat.le_of_ble_eq_true rfl) rfl ?_
  intro p l e s m args below meth c A g S0 C hx D
  refine cw_aload_n C dd_Le_submit_0 rfl ?_
  refine cw_iload_n C dd_Le_submit_1 rfl ?_
  exact ct_callV (As := [_]) C hx D kV_Le_43 wc_0 is_0 dd_Le_submit_2 rfl rfl (Nat.le_of_ble_eq_true rfl) ⟨(Nat.le_of_ble_eq_true rfl), (Nat.le_of_ble_eq_true rfl)⟩ ⟨(Nat.le_of_ble_eq_true rfl), (Nat.le_of_ble_eq_true rfl)⟩ (ct_Le_upReplica_dn X r hr hst hup)
set_option maxRecDepth 100000 in
set_option maxHeartbeats 4000000 in
theorem ct_Le_deliver (X : wx_S) (n : Nat) (k : Nat) (hn : n < 4294967296) (hb : 4 ≤ n) : ct_M yy_Le_deliver cc_Le_deliver 4 (some .boolean) 8 [.ref 0, .int (nI k), .int (nI n)] X ct_IO := by
  refine ct_of [some (.ref 0), some (.int (nI k)), some (.int (nI n)), none] (by decide +kernel) rfl (Nat.le_of_ble_eq_true rfl) rfl ?_
  intro p l e s m args below meth c A g S0 C hx D
  refine cw_aload_n C dd_Le_deliver_0 rfl ?_
  refine cw_iload_n C dd_Le_deliver_1 rfl ?_
  exact ct_callV (As := [_]) C hx D kV_Le_72 wc_0 is_0 dd_Le_deliver_2 rfl rfl (Nat.le_of_ble_eq_true rfl) ⟨(Nat.le_of_ble_eq_true rfl), (Nat.le_of_ble_eq_true rfl)⟩ ⟨(Nat.le_of_ble_eq_true rfl), (Nat.le_of_ble_eq_true rfl)⟩ (ct_Le_replicaOf X n hn hb)
set_option maxRecDepth 100000 in
set_option maxHeartbeats 4000000 in
theorem ct_Le_pump (X : wx_S) (n : Nat) (k : Nat) (hn : n < 4294967296) (hb : 4 ≤ n) : ct_M yy_Le_pump cc_Le_pump 5 (some .int) 8 [.ref 0, .int (nI n), .int (nI k)] X ct_IO := by
  refine ct_of [some (.ref 0), some (.int (nI n)), some (.int (nI k)), none, none] (by decide +kernel) rfl (Nat.le_of_ble_eq_true rfl) rfl ?_
  intro p l e s m args below meth c A g S0 C hx D
  refine cw_aload_n C dd_Le_pump_0 rfl ?_
  refine cw_iload_n C dd_Le_pump_1 rfl ?_
  exact ct_callV (As := [_]) C hx D kV_Le_43 wc_0 is_0 dd_Le_pump_2 rfl rfl (Nat.le_of_ble_eq_true rfl) ⟨(Nat.le_of_ble_eq_true rfl), (Nat.le_of_ble_eq_true rfl)⟩ ⟨(Nat.le_of_ble_eq_true rfl), (Nat.le_of_ble_eq_true rfl)⟩ (ct_Le_upReplica X n hn hb)
set_option maxRecDepth 100000 in
set_option maxHeartbeats 4000000 in
theorem ct_Le_pump_dn (X : wx_S) (r : Nat) (k : Nat) (hr : r < 4) (hst : X (64 + r) 8 < 4294967296) (hup : X (64 + r) 8 ≠ 1) : ct_M yy_Le_pump cc_Le_pump 5 (some .int) 8 [.ref 0, .int (nI r), .int (nI k)] X ct_IS := by
  refine ct_of [some (.ref 0), some (.int (nI r)), some (.int (nI k)), none, none] (by decide +kernel) rfl (Nat.le_of_ble_eq_true rfl) rfl ?_
  intro p l e s m args below meth c A g S0 C hx D
  refine cw_aload_n C dd_Le_pump_0 rfl ?_
  refine cw_iload_n C dd_Le_pump_1 rfl ?_
  exact ct_callV (As := [_]) C hx D kV_Le_43 wc_0 is_0 dd_Le_pump_2 rfl rfl (Nat.le_of_ble_eq_true rfl) ⟨(Nat.le_of_ble_eq_true rfl), (Nat.le_of_ble_eq_true rfl)⟩ ⟨(Nat.le_of_ble_eq_true rfl), (Nat.le_of_ble_eq_true rfl)⟩ (ct_Le_upReplica_dn X r hr hst hup)
set_option maxRecDepth 100000 in
set_option maxHeartbeats 4000000 in
theorem ct_Le_tick (X : wx_S) (n : Nat) (hn : n < 4294967296) (hb : 4 ≤ n) : ct_M yy_Le_tick cc_Le_tick 3 (some .boolean) 8 [.ref 0, .int (nI n)] X ct_IO := by
  refine ct_of [some (.ref 0), some (.int (nI n)), none] (by decide +kernel) rfl (Nat.le_of_ble_eq_true rfl) rfl ?_
  intro p l e s m args below meth c A g S0 C hx D
  refine cw_aload_n C dd_Le_tick_0 rfl ?_
  refine cw_iload_n C dd_Le_tick_1 rfl ?_
  exact ct_callV (As := [_]) C hx D kV_Le_72 wc_0 is_0 dd_Le_tick_2 rfl rfl (Nat.le_of_ble_eq_true rfl) ⟨(Nat.le_of_ble_eq_true rfl), (Nat.le_of_ble_eq_true rfl)⟩ ⟨(Nat.le_of_ble_eq_true rfl), (Nat.le_of_ble_eq_true rfl)⟩ (ct_Le_replicaOf X n hn hb)
set_option maxRecDepth 100000 in
set_option maxHeartbeats 4000000 in
theorem ct_Le_crash (X : wx_S) (n : Nat) (hn : n < 4294967296) (hb : 4 ≤ n) : ct_M yy_Le_crash cc_Le_crash 3 (some .boolean) 8 [.ref 0, .int (nI n)] X ct_IO := by
  refine ct_of [some (.ref 0), some (.int (nI n)), none] (by decide +kernel) rfl (Nat.le_of_ble_eq_true rfl) rfl ?_
  intro p l e s m args below meth c A g S0 C hx D
  refine cw_aload_n C dd_Le_crash_0 rfl ?_
  refine cw_iload_n C dd_Le_crash_1 rfl ?_
  exact ct_callV (As := [_]) C hx D kV_Le_72 wc_0 is_0 dd_Le_crash_2 rfl rfl (Nat.le_of_ble_eq_true rfl) ⟨(Nat.le_of_ble_eq_true rfl), (Nat.le_of_ble_eq_true rfl)⟩ ⟨(Nat.le_of_ble_eq_true rfl), (Nat.le_of_ble_eq_true rfl)⟩ (ct_Le_replicaOf X n hn hb)
set_option maxRecDepth 100000 in
set_option maxHeartbeats 4000000 in
theorem ct_Le_restart (X : wx_S) (n : Nat) (hn : n < 4294967296) (hb : 4 ≤ n) : ct_M yy_Le_restart cc_Le_restart 3 (some .boolean) 8 [.ref 0, .int (nI n)] X ct_IO := by
  refine ct_of [some (.ref 0), some (.int (nI n)), none] (by decide +kernel) rfl (Nat.le_of_ble_eq_true rfl) rfl ?_
  intro p l e s m args below meth c A g S0 C hx D
  refine cw_aload_n C dd_Le_restart_0 rfl ?_
  refine cw_iload_n C dd_Le_restart_1 rfl ?_
  exact ct_callV (As := [_]) C hx D kV_Le_72 wc_0 is_0 dd_Le_restart_2 rfl rfl (Nat.le_of_ble_eq_true rfl) ⟨(Nat.le_of_ble_eq_true rfl), (Nat.le_of_ble_eq_true rfl)⟩ ⟨(Nat.le_of_ble_eq_true rfl), (Nat.le_of_ble_eq_true rfl)⟩ (ct_Le_replicaOf X n hn hb)
set_option maxRecDepth 100000 in
set_option maxHeartbeats 4000000 in
theorem ct_Le_cut (X : wx_S) (n : Nat) (k : Nat) (hn : n < 4294967296) (hb : 4 ≤ n) : ct_M yy_Le_cut cc_Le_cut 4 (some .boolean) 8 [.ref 0, .int (nI n), .int (nI k)] X ct_IO := by
  refine ct_of [some (.ref 0), some (.int (nI n)), some (.int (nI k)), none] (by decide +kernel) rfl (Nat.le_of_ble_eq_true rfl) rfl ?_
  intro p l e s m args below meth c A g S0 C hx D
  refine cw_aload_n C dd_Le_cut_0 rfl ?_
  refine cw_iload_n C dd_Le_cut_1 rfl ?_
  exact ct_callV (As := [_]) C hx D kV_Le_72 wc_0 is_0 dd_Le_cut_2 rfl rfl (Nat.le_of_ble_eq_true rfl) ⟨(Nat.le_of_ble_eq_true rfl), (Nat.le_of_ble_eq_true rfl)⟩ ⟨(Nat.le_of_ble_eq_true rfl), (Nat.le_of_ble_eq_true rfl)⟩ (ct_Le_replicaOf X n hn hb)
set_option maxRecDepth 100000 in
set_option maxHeartbeats 4000000 in
theorem ct_Le_corrupt (X : wx_S) (n : Nat) (hn : n < 4294967296) (hb : 4 ≤ n) : ct_M yy_Le_corrupt cc_Le_corrupt 3 (some .boolean) 8 [.ref 0, .int (nI n)] X ct_IO := by
  refine ct_of [some (.ref 0), some (.int (nI n)), none] (by decide +kernel) rfl (Nat.le_of_ble_eq_true rfl) rfl ?_
  intro p l e s m args below meth c A g S0 C hx D
  refine cw_aload_n C dd_Le_corrupt_0 rfl ?_
  refine cw_iload_n C dd_Le_corrupt_1 rfl ?_
  exact ct_callV (As := [_]) C hx D kV_Le_72 wc_0 is_0 dd_Le_corrupt_2 rfl rfl (Nat.le_of_ble_eq_true rfl) ⟨(Nat.le_of_ble_eq_true rfl), (Nat.le_of_ble_eq_true rfl)⟩ ⟨(Nat.le_of_ble_eq_true rfl), (Nat.le_of_ble_eq_true rfl)⟩ (ct_Le_replicaOf X n hn hb)
set_option maxRecDepth 100000 in
set_option maxHeartbeats 4000000 in
theorem ct_Le_node (X : wx_S) (n : Nat) (k : Nat) (hn : n < 4294967296) (hb : 4 ≤ n) : ct_M yy_Le_node cc_Le_node 4 (some .int) 8 [.ref 0, .int (nI n), .int (nI k)] X ct_IO := by
  refine ct_of [some (.ref 0), some (.int (nI n)), some (.int (nI k)), none] (by decide +kernel) rfl (Nat.le_of_ble_eq_true rfl) rfl ?_
  intro p l e s m args below meth c A g S0 C hx D
  refine cw_aload_n C dd_Le_node_0 rfl ?_
  refine cw_iload_n C dd_Le_node_1 rfl ?_
  exact ct_callV (As := [_]) C hx D kV_Le_72 wc_0 is_0 dd_Le_node_2 rfl rfl (Nat.le_of_ble_eq_true rfl) ⟨(Nat.le_of_ble_eq_true rfl), (Nat.le_of_ble_eq_true rfl)⟩ ⟨(Nat.le_of_ble_eq_true rfl), (Nat.le_of_ble_eq_true rfl)⟩ (ct_Le_replicaOf X n hn hb)
set_option maxRecDepth 100000 in
set_option maxHeartbeats 4000000 in
theorem ct_Le_dag (X : wx_S) (n : Nat) (k a : Nat) (hn : n < 4294967296) (hb : 4 ≤ n) : ct_M yy_Le_dag cc_Le_dag 5 (some .int) 8 [.ref 0, .int (nI n), .int (nI k), .int (nI a)] X ct_IO := by
  refine ct_of [some (.ref 0), some (.int (nI n)), some (.int (nI k)), some (.int (nI a)), none] (by decide +kernel) rfl (Nat.le_of_ble_eq_true rfl) rfl ?_
  intro p l e s m args below meth c A g S0 C hx D
  refine cw_aload_n C dd_Le_dag_0 rfl ?_
  refine cw_iload_n C dd_Le_dag_1 rfl ?_
  exact ct_callV (As := [_]) C hx D kV_Le_72 wc_0 is_0 dd_Le_dag_2 rfl rfl (Nat.le_of_ble_eq_true rfl) ⟨(Nat.le_of_ble_eq_true rfl), (Nat.le_of_ble_eq_true rfl)⟩ ⟨(Nat.le_of_ble_eq_true rfl), (Nat.le_of_ble_eq_true rfl)⟩ (ct_Le_replicaOf X n hn hb)
set_option maxRecDepth 100000 in
set_option maxHeartbeats 4000000 in
theorem ct_Le_at (X : wx_S) (n : Nat) (k : Nat) (hn : n < 4294967296) (hb : 4 ≤ n) : ct_M yy_Le_at cc_Le_at 4 (some .int) 8 [.ref 0, .int (nI n), .int (nI k)] X ct_IO := by
  refine ct_of [some (.ref 0), some (.int (nI n)), some (.int (nI k)), none] (by decide +kernel) rfl (Nat.le_of_ble_eq_true rfl) rfl ?_
  intro p l e s m args below meth c A g S0 C hx D
  refine cw_aload_n C dd_Le_at_0 rfl ?_
  refine cw_iload_n C dd_Le_at_1 rfl ?_
  exact ct_callV (As := [_]) C hx D kV_Le_72 wc_0 is_0 dd_Le_at_2 rfl rfl (Nat.le_of_ble_eq_true rfl) ⟨(Nat.le_of_ble_eq_true rfl), (Nat.le_of_ble_eq_true rfl)⟩ ⟨(Nat.le_of_ble_eq_true rfl), (Nat.le_of_ble_eq_true rfl)⟩ (ct_Le_replicaOf X n hn hb)
set_option maxRecDepth 100000 in
set_option maxHeartbeats 4000000 in
theorem ct_Le_balance (X : wx_S) (n : Nat) (k : Nat) (hn : n < 4294967296) (hb : 4 ≤ n) : ct_M yy_Le_balance cc_Le_balance 4 (some .int) 8 [.ref 0, .int (nI n), .int (nI k)] X ct_IO := by
  refine ct_of [some (.ref 0), some (.int (nI n)), some (.int (nI k)), none] (by decide +kernel) rfl (Nat.le_of_ble_eq_true rfl) rfl ?_
  intro p l e s m args below meth c A g S0 C hx D
  refine cw_aload_n C dd_Le_balance_0 rfl ?_
  refine cw_iload_n C dd_Le_balance_1 rfl ?_
  exact ct_callV (As := [_]) C hx D kV_Le_72 wc_0 is_0 dd_Le_balance_2 rfl rfl (Nat.le_of_ble_eq_true rfl) ⟨(Nat.le_of_ble_eq_true rfl), (Nat.le_of_ble_eq_true rfl)⟩ ⟨(Nat.le_of_ble_eq_true rfl), (Nat.le_of_ble_eq_true rfl)⟩ (ct_Le_replicaOf X n hn hb)
