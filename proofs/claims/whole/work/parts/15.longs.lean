/-! longs, and reads whose value is named -/
theorem wl_tb (n : Nat) : (lN n).toBitVec = BitVec.ofNat 64 n := rfl
theorem wl_inj {a b : Int64} (h : a.toBitVec = b.toBitVec) : a = b := Int64.toBitVec_inj.mp h
theorem wl_c : ∀ k, k < 64 → ((nI k).toInt64 &&& 63) = lN k := by decide +kernel
theorem wl_sm : ∀ k, k < 64 → (BitVec.ofNat 64 k).smod 64 = BitVec.ofNat 64 k := by decide +kernel
theorem wl_shl (n : Nat) {k : Nat} (hk : k < 64) : lN n <<< ((nI k).toInt64 &&& 63) = lN (n * 2 ^ k) := by
  rw [wl_c k hk]
  apply wl_inj
  rw [Int64.toBitVec_shiftLeft, wl_tb, wl_tb, wl_tb, wl_sm k hk]
  apply BitVec.eq_of_toNat_eq
  rw [BitVec.shiftLeft_eq', BitVec.toNat_shiftLeft, BitVec.toNat_ofNat, BitVec.toNat_ofNat, BitVec.toNat_ofNat, Nat.mod_eq_of_lt (show k < 2 ^ 64 by omega), Nat.shiftLeft_eq, Nat.mul_mod, Nat.mod_mod, ← Nat.mul_mod]
theorem wl_and {a b : Nat} (ha : a < 2 ^ 64) (hb : b < 2 ^ 64) : lN a &&& lN b = lN (a &&& b) := by
  apply wl_inj
  rw [Int64.toBitVec_and, wl_tb, wl_tb, wl_tb]
  apply BitVec.eq_of_toNat_eq
  rw [BitVec.toNat_and, BitVec.toNat_ofNat, BitVec.toNat_ofNat, BitVec.toNat_ofNat, Nat.mod_eq_of_lt ha, Nat.mod_eq_of_lt hb, Nat.mod_eq_of_lt (Nat.and_lt_two_pow _ hb)]
theorem wl_or {a b : Nat} (ha : a < 2 ^ 64) (hb : b < 2 ^ 64) : lN a ||| lN b = lN (a ||| b) := by
  apply wl_inj
  rw [Int64.toBitVec_or, wl_tb, wl_tb, wl_tb]
  apply BitVec.eq_of_toNat_eq
  rw [BitVec.toNat_or, BitVec.toNat_ofNat, BitVec.toNat_ofNat, BitVec.toNat_ofNat, Nat.mod_eq_of_lt ha, Nat.mod_eq_of_lt hb, Nat.mod_eq_of_lt (Nat.or_lt_two_pow ha hb)]
theorem wl_shr {a k : Nat} (h : a < 2 ^ 62) (hk : k < 64) : lN a >>> ((nI k).toInt64 &&& 63) = lN (a / 2 ^ k) := by
  have hd : a / 2 ^ k ≤ a := Nat.div_le_self _ _
  rw [wl_c k hk]
  apply Int64.toInt_inj.mp
  have hD : ((lN k).toBitVec.smod 64).toNat = k := by rw [wl_tb, wl_sm k hk, BitVec.toNat_ofNat, Nat.mod_eq_of_lt (by omega)]
  have e : (lN a >>> lN k).toInt = (lN a).toInt >>> k := by
    conv => rhs; rw [← hD]
    exact BitVec.toInt_sshiftRight ..
  rw [e, Int.shiftRight_eq_div_pow, pk_lT (by omega), pk_lT (by omega)]
  rfl
section
variable {p : Program} {l : Launch} {e : Env} {R : Room} {s : State} {m : MethodId} {args : Array Value} {below : List Frame} {meth : Method} {c : Code} {A : Nat → Prop} {ids : List Nat} {g : wd_G} {cells slots : Nat} {G : State → Prop} {cc : ByteArray} {nL pc : Nat} {own : String} {ret : Option FieldType} {ls : List (Option Value)} {st : List Value} {σ : wd_S} {τ : wd_L}
theorem nw_lshr (C : cw_C p s m args meth c A ids g cc nL own ret) {a k0 : Nat} (hd : decode cc pc = .ok (.lshr, 1)) (ha : a < 2 ^ 62) (hk : k0 < 64) (k : cw_W p l e R s m args below meth c A ids g cells slots G nL (pc + 1) ls (.long (lN (a / 2 ^ k0)) :: st) σ τ) : cw_W p l e R s m args below meth c A ids g cells slots G nL pc ls (.int (nI k0) :: .long (lN a) :: st) σ τ := cw_lshr C hd (wl_shr ha hk ▸ k)
theorem nw_lshl (C : cw_C p s m args meth c A ids g cc nL own ret) {a k0 : Nat} (hd : decode cc pc = .ok (.lshl, 1)) (hk : k0 < 64) (k : cw_W p l e R s m args below meth c A ids g cells slots G nL (pc + 1) ls (.long (lN (a * 2 ^ k0)) :: st) σ τ) : cw_W p l e R s m args below meth c A ids g cells slots G nL pc ls (.int (nI k0) :: .long (lN a) :: st) σ τ := cw_lshl C hd (wl_shl a hk ▸ k)
theorem nw_land1 (C : cw_C p s m args meth c A ids g cc nL own ret) {a : Nat} (hd : decode cc pc = .ok (.land, 1)) (ha : a < 2 ^ 62) (k : cw_W p l e R s m args below meth c A ids g cells slots G nL (pc + 1) ls (.long (lN (a % 2)) :: st) σ τ) : cw_W p l e R s m args below meth c A ids g cells slots G nL pc ls (.long (lN 1) :: .long (lN a) :: st) σ τ := cw_land C hd (by rw [wl_and (by omega) (by decide), Nat.and_one_is_mod]; exact k)
theorem nw_lor (C : cw_C p s m args meth c A ids g cc nL own ret) {a b : Nat} (hd : decode cc pc = .ok (.lor, 1)) (ha : a < 2 ^ 62) (hb : b < 2 ^ 62) (k : cw_W p l e R s m args below meth c A ids g cells slots G nL (pc + 1) ls (.long (lN (a ||| b)) :: st) σ τ) : cw_W p l e R s m args below meth c A ids g cells slots G nL pc ls (.long (lN b) :: .long (lN a) :: st) σ τ := cw_lor C hd (wl_or (a := a) (b := b) (by omega) (by omega) ▸ k)
theorem lg_cmp_0 {a b : Nat} (ha : a < 2 ^ 62) (hb : b < 2 ^ 62) : lg_cmp (lN a) (lN b) = 0 ↔ a = b := by
  unfold lg_cmp
  have h1 := pk_lEQ (a := a) (b := b) (by omega) (by omega)
  have h2 := pk_lLT (a := b) (b := a) (by omega) (by omega)
  constructor
  · intro h
    split at h
    · exact absurd h (by decide +kernel)
    · split at h
      · rename_i h3; exact h1.mp h3
      · exact absurd h (by decide +kernel)
  · rintro rfl
    rw [if_neg (fun q => by have := h2.mp q; omega), if_pos rfl]
/-- lcmp and ifne: the two numbers differ, or not -/
theorem nw_lcmp_ne (C : cw_C p s m args meth c A ids g cc nL own ret) {a b : Nat} {off : Int} {tgt : Nat} (hd1 : decode cc pc = .ok (.lcmp, 1)) (hd : decode cc (pc + 1) = .ok (.ifCond .ne off, 3)) (ht : ((pc + 1 : Nat) : Int) + off = (tgt : Int)) (ha : a < 2 ^ 62) (hb : b < 2 ^ 62) (kt : ¬ a = b → cw_W p l e R s m args below meth c A ids g cells slots G nL tgt ls st σ τ) (kf : a = b → cw_W p l e R s m args below meth c A ids g cells slots G nL (pc + 1 + 3) ls st σ τ) : cw_W p l e R s m args below meth c A ids g cells slots G nL pc ls (.long (lN b) :: .long (lN a) :: st) σ τ :=
  cw_lcmp C hd1 (cw_if_ne C hd ht (fun h => kt (fun q => h ((lg_cmp_0 ha hb).mpr q))) (fun h => kf ((lg_cmp_0 ha hb).mp h)))
variable {X : wx_S}
theorem nw_getiv (C : cw_C p s m args meth c A ids g cc nL own ret) {ci N k q idx j : Nat} (n : Nat) {K : String} {T : u_T} {ty0 : Nat → FieldType} {fl : List (Nat × Nat)} (hc : wd_cls ci K T N ty0) (hf : cw_kF own idx T k) (hi : wd_is ids q (4, ci, fl)) (hk : k < N) (hfl : fl[k]? = some (0, j)) (hd : decode cc pc = .ok (.getfield idx, 3)) (hv : X q k = n) (kk : cw_W p l e R s m args below meth c A ids g cells slots G nL (pc + 3) ls (.int (nI n) :: st) (wx_e X) (wx_l X)) : cw_W p l e R s m args below meth c A ids g cells slots G nL pc ls (.ref q :: st) (wx_e X) (wx_l X) := nw_geti C hc hf hi hk hfl hd (hv ▸ kk)
theorem nw_getlv (C : cw_C p s m args meth c A ids g cc nL own ret) {ci N k q idx j : Nat} (n : Nat) {K : String} {T : u_T} {ty0 : Nat → FieldType} {fl : List (Nat × Nat)} (hc : wd_cls ci K T N ty0) (hf : cw_kF own idx T k) (hi : wd_is ids q (4, ci, fl)) (hk : k < N) (hfl : fl[k]? = some (1, j)) (hd : decode cc pc = .ok (.getfield idx, 3)) (hv : X q k = n) (kk : cw_W p l e R s m args below meth c A ids g cells slots G nL (pc + 3) ls (.long (lN n) :: st) (wx_e X) (wx_l X)) : cw_W p l e R s m args below meth c A ids g cells slots G nL pc ls (.ref q :: st) (wx_e X) (wx_l X) := nw_getl C hc hf hi hk hfl hd (hv ▸ kk)
theorem nw_ialdv (C : cw_C p s m args meth c A ids g cc nL own ret) {q n i : Nat} (v : Nat) {fl : List (Nat × Nat)} (hi : wd_is ids q (0, n, fl)) (hin : i < n) (hn : n < 2 ^ 31) (hd : decode cc pc = .ok (.iaload, 1)) (hv : X q i = v) (kk : cw_W p l e R s m args below meth c A ids g cells slots G nL (pc + 1) ls (.int (nI v) :: st) (wx_e X) (wx_l X)) : cw_W p l e R s m args below meth c A ids g cells slots G nL pc ls (.int (nI i) :: .ref q :: st) (wx_e X) (wx_l X) := nw_iald C hi hin hn hd (hv ▸ kk)
theorem nw_zaldv (C : cw_C p s m args meth c A ids g cc nL own ret) {q n i : Nat} (v : Nat) {fl : List (Nat × Nat)} (hi : wd_is ids q (1, n, fl)) (hin : i < n) (hn : n < 2 ^ 31) (hd : decode cc pc = .ok (.baload, 1)) (hv : X q i = v) (kk : cw_W p l e R s m args below meth c A ids g cells slots G nL (pc + 1) ls (.int (nI v) :: st) (wx_e X) (wx_l X)) : cw_W p l e R s m args below meth c A ids g cells slots G nL pc ls (.int (nI i) :: .ref q :: st) (wx_e X) (wx_l X) := nw_zald C hi hin hn hd (hv ▸ kk)
end
