/-! The clean layer over natural numbers: the world is en X, every int is nI of a number (-1 is nI 4294967295). -/
abbrev wx_S : Type := Nat → Nat → Nat
def wx_e (X : wx_S) : wd_S := fun c k => nI (X c k)
def wx_l (X : wx_S) : wd_L := fun c k => lN (X c k)
def wx_u (X : wx_S) (c k n : Nat) : wx_S := fun c' k' => if c' = c ∧ k' = k then n else X c' k'
abbrev wx_N : Nat := 4294967295
theorem wx_e_u (X : wx_S) (c k n : Nat) : cw_up (wx_e X) c k (nI n) = wx_e (wx_u X c k n) := by
  funext c' k'
  simp only [cw_up, wx_e, wx_u]
  split <;> rfl
theorem wx_u_eq (X : wx_S) (c k n : Nat) : wx_u X c k n c k = n := by simp [wx_u]
theorem wx_u_ne {X : wx_S} {c k n c' k' : Nat} (h : ¬ (c' = c ∧ k' = k)) : wx_u X c k n c' k' = X c' k' := by simp [wx_u, h]
theorem wx_u_nc {X : wx_S} {c k n c' k' : Nat} (h : c' ≠ c) : wx_u X c k n c' k' = X c' k' := by simp [wx_u, h]
theorem wx_u_nk {X : wx_S} {c k n c' k' : Nat} (h : k' ≠ k) : wx_u X c k n c' k' = X c' k' := by simp [wx_u, h]
theorem wx_u_id (X : wx_S) (c k : Nat) : wx_u X c k (X c k) = X := by
  funext c' k'
  simp only [wx_u]
  split
  · rename_i h; rw [h.1, h.2]
  · rfl
theorem wx_u_uu (X : wx_S) (c k n n' : Nat) : wx_u (wx_u X c k n) c k n' = wx_u X c k n' := by
  funext c' k'
  simp only [wx_u]
  split <;> rfl
theorem wx_bool : ∀ k, k < 2 → vp_nar .boolean (nI k) = nI k := by decide +kernel
theorem wx_m1 : (-1 : Int32) = nI wx_N := by decide +kernel
theorem wx_bv (n : Nat) : (nI n).toBitVec = BitVec.ofNat 32 n := rfl
theorem wx_inj {a b : Int32} (h : a.toBitVec = b.toBitVec) : a = b := Int32.toBitVec_inj.mp h
theorem wx_mod (n : Nat) : nI n = nI (n % 4294967296) := wx_inj (by rw [wx_bv, wx_bv]; apply BitVec.eq_of_toNat_eq; simp)
theorem wx_eq {a b : Nat} (ha : a < 4294967296) (hb : b < 4294967296) : nI a = nI b ↔ a = b := by
  constructor
  · intro h
    have h1 : (nI a).toBitVec.toNat = (nI b).toBitVec.toNat := by rw [h]
    rw [wx_bv, wx_bv, BitVec.toNat_ofNat, BitVec.toNat_ofNat, Nat.mod_eq_of_lt ha, Nat.mod_eq_of_lt hb] at h1
    exact h1
  · rintro rfl; rfl
theorem wx_and (a b : Nat) : nI a &&& nI b = nI (a &&& b) := wx_inj (by
  show (BitVec.ofNat 32 a) &&& (BitVec.ofNat 32 b) = BitVec.ofNat 32 (a &&& b)
  apply BitVec.eq_of_toNat_eq
  simp [BitVec.toNat_and, Nat.and_mod_two_pow])
theorem wx_or (a b : Nat) : nI a ||| nI b = nI (a ||| b) := wx_inj (by
  show (BitVec.ofNat 32 a) ||| (BitVec.ofNat 32 b) = BitVec.ofNat 32 (a ||| b)
  apply BitVec.eq_of_toNat_eq
  simp [BitVec.toNat_or, Nat.or_mod_two_pow])
theorem wx_xor (a b : Nat) : nI a ^^^ nI b = nI (a ^^^ b) := wx_inj (by
  show (BitVec.ofNat 32 a) ^^^ (BitVec.ofNat 32 b) = BitVec.ofNat 32 (a ^^^ b)
  apply BitVec.eq_of_toNat_eq
  simp [BitVec.toNat_xor, Nat.xor_mod_two_pow])
theorem wx_k : ∀ k, k < 32 → ((nI k &&& 31).toBitVec.smod 32).toNat = k := by decide +kernel
theorem wx_shl (a : Nat) {k : Nat} (hk : k < 32) : nI a <<< (nI k &&& 31) = nI (a * 2 ^ k) := wx_inj (by
  apply BitVec.eq_of_toNat_eq
  rw [pk_shl (nI a) (nI k &&& 31) k (wx_k k hk), wx_bv, wx_bv, BitVec.toNat_ofNat, BitVec.toNat_ofNat]
  rw [show (2 : Nat) ^ 32 = 4294967296 from rfl, Nat.mod_mul_mod])
theorem wx_shr {a k : Nat} (ha : a < 2147483648) (hk : k < 32) : nI a >>> (nI k &&& 31) = nI (a / 2 ^ k) := pk_shrN ha (nI k &&& 31) k (wx_k k hk)
theorem wx_lt0 {a : Nat} (ha : a < 4294967296) : nI a < 0 ↔ 2147483648 ≤ a := by
  constructor
  · intro h
    by_cases h2 : a < 2147483648
    · exact absurd h (nI_pos h2)
    · omega
  · intro h
    have e : (nI a).toInt = (a : Int) - 4294967296 := by
      show (BitVec.ofNat 32 a).toInt = _
      rw [BitVec.toInt_eq_toNat_cond, BitVec.toNat_ofNat, Nat.mod_eq_of_lt (by omega)]
      rw [if_neg (by omega)]
      omega
    rw [Int32.lt_iff_toInt_lt, e]
    show _ < (0 : Int)
    omega
theorem wx_lt {a b : Nat} (ha : a < 2147483648) (hb : b < 2147483648) : nI a < nI b ↔ a < b := nI_ltI ha hb
theorem wx_le {a b : Nat} (ha : a < 2147483648) (hb : b < 2147483648) : nI a ≤ nI b ↔ a ≤ b := nI_leI ha hb
theorem wx_pd (d : Nat) : nI d - nI 1 = nI (if d = 0 then 4294967295 else d - 1) := by
  split
  · subst_vars; decide +kernel
  · exact pk_sub (by omega)
theorem wx_ge0 {x : Int32} (h : x < 0) (h2 : 0 ≤ x) : False := by
  rw [Int32.lt_iff_toInt_lt] at h
  rw [Int32.le_iff_toInt_le] at h2
  omega
theorem wx_gt0 {a : Nat} (ha : a < 4294967296) (h : 0 < nI a) : 0 < a ∧ a < 2147483648 := by
  refine ⟨Nat.pos_of_ne_zero (fun q => ?_), Nat.not_le.mp (fun q => ?_)⟩
  · subst q; exact absurd h (by decide +kernel)
  · have h1 := (wx_lt0 ha).mpr q
    rw [Int32.lt_iff_toInt_lt] at h h1
    omega
theorem wx_nle0 {a : Nat} (ha : a < 4294967296) (h : ¬ nI a ≤ 0) : 0 < a ∧ a < 2147483648 := wx_gt0 ha (by
  rw [Int32.le_iff_toInt_le] at h
  rw [Int32.lt_iff_toInt_lt]
  omega)
theorem wx_ngt0 {a : Nat} (ha : a < 4294967296) (h : ¬ 0 < nI a) : a = 0 ∨ 2147483648 ≤ a := by
  by_cases h0 : a = 0
  · exact Or.inl h0
  · refine Or.inr (Nat.not_lt.mp (fun q => h ?_))
    have := nI_lt (a := 0) (b := a) (by omega) q
    exact this
theorem wx_le0 {a : Nat} (ha : a < 4294967296) (h : nI a ≤ 0) : a = 0 ∨ 2147483648 ≤ a := wx_ngt0 ha (by
  rw [Int32.le_iff_toInt_le] at h
  rw [Int32.lt_iff_toInt_lt]
  omega)
section
variable {p : Program} {l : Launch} {e : Env} {R : Room} {s : State} {m : MethodId} {args : Array Value} {below : List Frame} {meth : Method} {c : Code} {A : Nat → Prop} {ids : List Nat} {g : wd_G} {cells slots : Nat} {G : State → Prop} {cc : ByteArray} {nL pc : Nat} {own : String} {ret : Option FieldType} {ls : List (Option Value)} {st : List Value} {σ : wd_S} {τ : wd_L}
theorem nw_iadd (C : cw_C p s m args meth c A ids g cc nL own ret) {a b : Nat} (hd : decode cc pc = .ok (.iadd, 1)) (k : cw_W p l e R s m args below meth c A ids g cells slots G nL (pc + 1) ls (.int (nI (a + b)) :: st) σ τ) : cw_W p l e R s m args below meth c A ids g cells slots G nL pc ls (.int (nI b) :: .int (nI a) :: st) σ τ := cw_iadd C hd (nI_add a b ▸ k)
theorem nw_imul (C : cw_C p s m args meth c A ids g cc nL own ret) {a b : Nat} (hd : decode cc pc = .ok (.imul, 1)) (k : cw_W p l e R s m args below meth c A ids g cells slots G nL (pc + 1) ls (.int (nI (a * b)) :: st) σ τ) : cw_W p l e R s m args below meth c A ids g cells slots G nL pc ls (.int (nI b) :: .int (nI a) :: st) σ τ := cw_imul C hd (pk_mul a b ▸ k)
theorem nw_iand (C : cw_C p s m args meth c A ids g cc nL own ret) {a b : Nat} (hd : decode cc pc = .ok (.iand, 1)) (k : cw_W p l e R s m args below meth c A ids g cells slots G nL (pc + 1) ls (.int (nI (a &&& b)) :: st) σ τ) : cw_W p l e R s m args below meth c A ids g cells slots G nL pc ls (.int (nI b) :: .int (nI a) :: st) σ τ := cw_iand C hd (wx_and a b ▸ k)
theorem nw_ior (C : cw_C p s m args meth c A ids g cc nL own ret) {a b : Nat} (hd : decode cc pc = .ok (.ior, 1)) (k : cw_W p l e R s m args below meth c A ids g cells slots G nL (pc + 1) ls (.int (nI (a ||| b)) :: st) σ τ) : cw_W p l e R s m args below meth c A ids g cells slots G nL pc ls (.int (nI b) :: .int (nI a) :: st) σ τ := cw_ior C hd (wx_or a b ▸ k)
theorem nw_ixor (C : cw_C p s m args meth c A ids g cc nL own ret) {a b : Nat} (hd : decode cc pc = .ok (.ixor, 1)) (k : cw_W p l e R s m args below meth c A ids g cells slots G nL (pc + 1) ls (.int (nI (a ^^^ b)) :: st) σ τ) : cw_W p l e R s m args below meth c A ids g cells slots G nL pc ls (.int (nI b) :: .int (nI a) :: st) σ τ := cw_ixor C hd (wx_xor a b ▸ k)
theorem nw_isub (C : cw_C p s m args meth c A ids g cc nL own ret) {a b : Nat} (hd : decode cc pc = .ok (.isub, 1)) (h : b ≤ a) (k : cw_W p l e R s m args below meth c A ids g cells slots G nL (pc + 1) ls (.int (nI (a - b)) :: st) σ τ) : cw_W p l e R s m args below meth c A ids g cells slots G nL pc ls (.int (nI b) :: .int (nI a) :: st) σ τ := cw_isub C hd (pk_sub h ▸ k)
theorem nw_idec (C : cw_C p s m args meth c A ids g cc nL own ret) {a : Nat} (hd : decode cc pc = .ok (.isub, 1)) (k : cw_W p l e R s m args below meth c A ids g cells slots G nL (pc + 1) ls (.int (nI (if a = 0 then 4294967295 else a - 1)) :: st) σ τ) : cw_W p l e R s m args below meth c A ids g cells slots G nL pc ls (.int (nI 1) :: .int (nI a) :: st) σ τ := cw_isub C hd (wx_pd a ▸ k)
theorem nw_idiv (C : cw_C p s m args meth c A ids g cc nL own ret) {a b : Nat} (hd : decode cc pc = .ok (.idiv, 1)) (ha : a < 2147483648) (hb : b < 2147483648) (h0 : 0 < b) (k : cw_W p l e R s m args below meth c A ids g cells slots G nL (pc + 1) ls (.int (nI (a / b)) :: st) σ τ) : cw_W p l e R s m args below meth c A ids g cells slots G nL pc ls (.int (nI b) :: .int (nI a) :: st) σ τ := cw_idiv C hd (nI_ne0 h0 hb) (pk_div ha h0 hb ▸ k)
theorem nw_irem (C : cw_C p s m args meth c A ids g cc nL own ret) {a b : Nat} (hd : decode cc pc = .ok (.irem, 1)) (ha : a < 2147483648) (hb : b < 2147483648) (h0 : 0 < b) (k : cw_W p l e R s m args below meth c A ids g cells slots G nL (pc + 1) ls (.int (nI (a % b)) :: st) σ τ) : cw_W p l e R s m args below meth c A ids g cells slots G nL pc ls (.int (nI b) :: .int (nI a) :: st) σ τ := cw_irem C hd (nI_ne0 h0 hb) (pk_rem ha h0 hb ▸ k)
theorem nw_ishl (C : cw_C p s m args meth c A ids g cc nL own ret) {a b : Nat} (hd : decode cc pc = .ok (.ishl, 1)) (hb : b < 32) (k : cw_W p l e R s m args below meth c A ids g cells slots G nL (pc + 1) ls (.int (nI (a * 2 ^ b)) :: st) σ τ) : cw_W p l e R s m args below meth c A ids g cells slots G nL pc ls (.int (nI b) :: .int (nI a) :: st) σ τ := cw_ishl C hd (wx_shl a hb ▸ k)
theorem nw_ishr (C : cw_C p s m args meth c A ids g cc nL own ret) {a b : Nat} (hd : decode cc pc = .ok (.ishr, 1)) (ha : a < 2147483648) (hb : b < 32) (k : cw_W p l e R s m args below meth c A ids g cells slots G nL (pc + 1) ls (.int (nI (a / 2 ^ b)) :: st) σ τ) : cw_W p l e R s m args below meth c A ids g cells slots G nL pc ls (.int (nI b) :: .int (nI a) :: st) σ τ := cw_ishr C hd (wx_shr ha hb ▸ k)
theorem nw_icmp_eq (C : cw_C p s m args meth c A ids g cc nL own ret) {a b : Nat} {off : Int} {tgt : Nat} (hd : decode cc pc = .ok (.if_icmp .eq off, 3)) (ht : (pc : Int) + off = (tgt : Int)) (ha : a < 4294967296) (hb : b < 4294967296) (kt : a = b → cw_W p l e R s m args below meth c A ids g cells slots G nL tgt ls st σ τ) (kf : ¬ a = b → cw_W p l e R s m args below meth c A ids g cells slots G nL (pc + 3) ls st σ τ) : cw_W p l e R s m args below meth c A ids g cells slots G nL pc ls (.int (nI b) :: .int (nI a) :: st) σ τ := cw_icmp_eq C hd ht (fun h => kt ((wx_eq ha hb).mp h)) (fun h => kf (fun q => h ((wx_eq ha hb).mpr q)))
theorem nw_if_eq (C : cw_C p s m args meth c A ids g cc nL own ret) {a : Nat} {off : Int} {tgt : Nat} (hd : decode cc pc = .ok (.ifCond .eq off, 3)) (ht : (pc : Int) + off = (tgt : Int)) (ha : a < 4294967296) (kt : a = 0 → cw_W p l e R s m args below meth c A ids g cells slots G nL tgt ls st σ τ) (kf : ¬ a = 0 → cw_W p l e R s m args below meth c A ids g cells slots G nL (pc + 3) ls st σ τ) : cw_W p l e R s m args below meth c A ids g cells slots G nL pc ls (.int (nI a) :: st) σ τ := cw_if_eq C hd ht (fun h => kt ((wx_eq ha (b := 0) (by decide)).mp h)) (fun h => kf (fun q => h ((wx_eq ha (b := 0) (by decide)).mpr q)))
theorem nw_icmp_ne (C : cw_C p s m args meth c A ids g cc nL own ret) {a b : Nat} {off : Int} {tgt : Nat} (hd : decode cc pc = .ok (.if_icmp .ne off, 3)) (ht : (pc : Int) + off = (tgt : Int)) (ha : a < 4294967296) (hb : b < 4294967296) (kt : ¬ a = b → cw_W p l e R s m args below meth c A ids g cells slots G nL tgt ls st σ τ) (kf : a = b → cw_W p l e R s m args below meth c A ids g cells slots G nL (pc + 3) ls st σ τ) : cw_W p l e R s m args below meth c A ids g cells slots G nL pc ls (.int (nI b) :: .int (nI a) :: st) σ τ := cw_icmp_ne C hd ht (fun h => kt (fun q => h ((wx_eq ha hb).mpr q))) (fun h => kf ((wx_eq ha hb).mp h))
theorem nw_if_ne (C : cw_C p s m args meth c A ids g cc nL own ret) {a : Nat} {off : Int} {tgt : Nat} (hd : decode cc pc = .ok (.ifCond .ne off, 3)) (ht : (pc : Int) + off = (tgt : Int)) (ha : a < 4294967296) (kt : ¬ a = 0 → cw_W p l e R s m args below meth c A ids g cells slots G nL tgt ls st σ τ) (kf : a = 0 → cw_W p l e R s m args below meth c A ids g cells slots G nL (pc + 3) ls st σ τ) : cw_W p l e R s m args below meth c A ids g cells slots G nL pc ls (.int (nI a) :: st) σ τ := cw_if_ne C hd ht (fun h => kt (fun q => h ((wx_eq ha (b := 0) (by decide)).mpr q))) (fun h => kf ((wx_eq ha (b := 0) (by decide)).mp h))
theorem nw_icmp_lt (C : cw_C p s m args meth c A ids g cc nL own ret) {a b : Nat} {off : Int} {tgt : Nat} (hd : decode cc pc = .ok (.if_icmp .lt off, 3)) (ht : (pc : Int) + off = (tgt : Int)) (ha : a < 2147483648) (hb : b < 2147483648) (kt : a < b → cw_W p l e R s m args below meth c A ids g cells slots G nL tgt ls st σ τ) (kf : b ≤ a → cw_W p l e R s m args below meth c A ids g cells slots G nL (pc + 3) ls st σ τ) : cw_W p l e R s m args below meth c A ids g cells slots G nL pc ls (.int (nI b) :: .int (nI a) :: st) σ τ := cw_icmp_lt C hd ht (fun h => kt ((wx_lt ha hb).mp h)) (fun h => kf (Nat.not_lt.mp (fun q => h ((wx_lt ha hb).mpr q))))
theorem nw_icmp_ge (C : cw_C p s m args meth c A ids g cc nL own ret) {a b : Nat} {off : Int} {tgt : Nat} (hd : decode cc pc = .ok (.if_icmp .ge off, 3)) (ht : (pc : Int) + off = (tgt : Int)) (ha : a < 2147483648) (hb : b < 2147483648) (kt : b ≤ a → cw_W p l e R s m args below meth c A ids g cells slots G nL tgt ls st σ τ) (kf : a < b → cw_W p l e R s m args below meth c A ids g cells slots G nL (pc + 3) ls st σ τ) : cw_W p l e R s m args below meth c A ids g cells slots G nL pc ls (.int (nI b) :: .int (nI a) :: st) σ τ := cw_icmp_ge C hd ht (fun h => kt ((wx_le hb ha).mp h)) (fun h => kf (Nat.not_le.mp (fun q => h ((wx_le hb ha).mpr q))))
theorem nw_icmp_gt (C : cw_C p s m args meth c A ids g cc nL own ret) {a b : Nat} {off : Int} {tgt : Nat} (hd : decode cc pc = .ok (.if_icmp .gt off, 3)) (ht : (pc : Int) + off = (tgt : Int)) (ha : a < 2147483648) (hb : b < 2147483648) (kt : b < a → cw_W p l e R s m args below meth c A ids g cells slots G nL tgt ls st σ τ) (kf : a ≤ b → cw_W p l e R s m args below meth c A ids g cells slots G nL (pc + 3) ls st σ τ) : cw_W p l e R s m args below meth c A ids g cells slots G nL pc ls (.int (nI b) :: .int (nI a) :: st) σ τ := cw_icmp_gt C hd ht (fun h => kt ((wx_lt hb ha).mp h)) (fun h => kf (Nat.not_lt.mp (fun q => h ((wx_lt hb ha).mpr q))))
theorem nw_icmp_le (C : cw_C p s m args meth c A ids g cc nL own ret) {a b : Nat} {off : Int} {tgt : Nat} (hd : decode cc pc = .ok (.if_icmp .le off, 3)) (ht : (pc : Int) + off = (tgt : Int)) (ha : a < 2147483648) (hb : b < 2147483648) (kt : a ≤ b → cw_W p l e R s m args below meth c A ids g cells slots G nL tgt ls st σ τ) (kf : b < a → cw_W p l e R s m args below meth c A ids g cells slots G nL (pc + 3) ls st σ τ) : cw_W p l e R s m args below meth c A ids g cells slots G nL pc ls (.int (nI b) :: .int (nI a) :: st) σ τ := cw_icmp_le C hd ht (fun h => kt ((wx_le ha hb).mp h)) (fun h => kf (Nat.not_le.mp (fun q => h ((wx_le ha hb).mpr q))))
theorem nw_if_lt (C : cw_C p s m args meth c A ids g cc nL own ret) {a : Nat} {off : Int} {tgt : Nat} (hd : decode cc pc = .ok (.ifCond .lt off, 3)) (ht : (pc : Int) + off = (tgt : Int)) (ha : a < 4294967296) (kt : 2147483648 ≤ a → cw_W p l e R s m args below meth c A ids g cells slots G nL tgt ls st σ τ) (kf : a < 2147483648 → cw_W p l e R s m args below meth c A ids g cells slots G nL (pc + 3) ls st σ τ) : cw_W p l e R s m args below meth c A ids g cells slots G nL pc ls (.int (nI a) :: st) σ τ := cw_if_lt C hd ht (fun h => kt ((wx_lt0 ha).mp h)) (fun h => kf (Nat.not_le.mp (fun q => h ((wx_lt0 ha).mpr q))))
theorem nw_if_ge (C : cw_C p s m args meth c A ids g cc nL own ret) {a : Nat} {off : Int} {tgt : Nat} (hd : decode cc pc = .ok (.ifCond .ge off, 3)) (ht : (pc : Int) + off = (tgt : Int)) (ha : a < 4294967296) (kt : a < 2147483648 → cw_W p l e R s m args below meth c A ids g cells slots G nL tgt ls st σ τ) (kf : 2147483648 ≤ a → cw_W p l e R s m args below meth c A ids g cells slots G nL (pc + 3) ls st σ τ) : cw_W p l e R s m args below meth c A ids g cells slots G nL pc ls (.int (nI a) :: st) σ τ := cw_if_ge C hd ht (fun h => kt (Nat.not_le.mp (fun q => wx_ge0 ((wx_lt0 ha).mpr q) h))) (fun h => kf (Nat.not_lt.mp (fun q => h (nI_pos' q))))
theorem nw_if_gt (C : cw_C p s m args meth c A ids g cc nL own ret) {a : Nat} {off : Int} {tgt : Nat} (hd : decode cc pc = .ok (.ifCond .gt off, 3)) (ht : (pc : Int) + off = (tgt : Int)) (ha : a < 4294967296) (kt : 0 < a ∧ a < 2147483648 → cw_W p l e R s m args below meth c A ids g cells slots G nL tgt ls st σ τ) (kf : a = 0 ∨ 2147483648 ≤ a → cw_W p l e R s m args below meth c A ids g cells slots G nL (pc + 3) ls st σ τ) : cw_W p l e R s m args below meth c A ids g cells slots G nL pc ls (.int (nI a) :: st) σ τ := cw_if_gt C hd ht (fun h => kt (wx_gt0 ha h)) (fun h => kf (wx_ngt0 ha h))
theorem nw_if_le (C : cw_C p s m args meth c A ids g cc nL own ret) {a : Nat} {off : Int} {tgt : Nat} (hd : decode cc pc = .ok (.ifCond .le off, 3)) (ht : (pc : Int) + off = (tgt : Int)) (ha : a < 4294967296) (kt : a = 0 ∨ 2147483648 ≤ a → cw_W p l e R s m args below meth c A ids g cells slots G nL tgt ls st σ τ) (kf : 0 < a ∧ a < 2147483648 → cw_W p l e R s m args below meth c A ids g cells slots G nL (pc + 3) ls st σ τ) : cw_W p l e R s m args below meth c A ids g cells slots G nL pc ls (.int (nI a) :: st) σ τ := cw_if_le C hd ht (fun h => kt (wx_le0 ha h)) (fun h => kf (wx_nle0 ha h))
theorem nw_iinc (C : cw_C p s m args meth c A ids g cc nL own ret) {i a b : Nat} {n : Int} (hd : decode cc pc = .ok (.iinc i n, 3)) (hn : Int32.ofInt n = nI b) (h : ls[i]? = some (some (.int (nI a)))) (hi : i < nL) (k : cw_W p l e R s m args below meth c A ids g cells slots G nL (pc + 3) (ls.set i (some (.int (nI (a + b))))) st σ τ) : cw_W p l e R s m args below meth c A ids g cells slots G nL pc ls st σ τ := cw_iinc C hd h (by rw [hn, nI_add]) hi k
theorem nw_iincm (C : cw_C p s m args meth c A ids g cc nL own ret) {i a b : Nat} {n : Int} (hd : decode cc pc = .ok (.iinc i n, 3)) (hn : Int32.ofInt n = nI (4294967296 - b)) (h : ls[i]? = some (some (.int (nI a)))) (hb : b ≤ a ∧ a < 4294967296) (hi : i < nL) (k : cw_W p l e R s m args below meth c A ids g cells slots G nL (pc + 3) (ls.set i (some (.int (nI (a - b))))) st σ τ) : cw_W p l e R s m args below meth c A ids g cells slots G nL pc ls st σ τ := cw_iinc C hd h (by rw [hn, nI_add, wx_mod (a + (4294967296 - b)), show (a + (4294967296 - b)) % 4294967296 = a - b by omega]) hi k
variable {X : wx_S}
theorem nw_geti (C : cw_C p s m args meth c A ids g cc nL own ret) {ci N k q idx j : Nat} {K : String} {T : u_T} {ty0 : Nat → FieldType} {fl : List (Nat × Nat)} (hc : wd_cls ci K T N ty0) (hf : cw_kF own idx T k) (hi : wd_is ids q (4, ci, fl)) (hk : k < N) (hfl : fl[k]? = some (0, j)) (hd : decode cc pc = .ok (.getfield idx, 3)) (kk : cw_W p l e R s m args below meth c A ids g cells slots G nL (pc + 3) ls (.int (nI (X q k)) :: st) (wx_e X) (wx_l X)) : cw_W p l e R s m args below meth c A ids g cells slots G nL pc ls (.ref q :: st) (wx_e X) (wx_l X) := cw_geti C hc hf hi hk hfl hd kk
theorem wx_l_u (X : wx_S) (c k n : Nat) : cw_uq (wx_l X) c k (lN n) = wx_l (wx_u X c k n) := by
  funext c' k'
  simp only [cw_uq, wx_l, wx_u]
  split <;> rfl
theorem wx_u_c {X : wx_S} {c k n c' : Nat} (h : c' ≠ c) : wx_u X c k n c' = X c' := by funext k'; simp [wx_u, h]
theorem cw_tau {σ' : wd_S} {τ' : wd_L} (h : ∀ q ∈ ids, wd_ce g σ τ q = wd_ce g σ' τ' q) (k : cw_W p l e R s m args below meth c A ids g cells slots G nL pc ls st σ' τ') : cw_W p l e R s m args below meth c A ids g cells slots G nL pc ls st σ τ := by
  have e : wd_w ids g σ τ = wd_w ids g σ' τ' := List.map_congr_left (fun q hq => by rw [h q hq])
  intro H locs la hl hP hS
  rw [e] at hP
  exact k H locs la hl hP hS
theorem nw_tau_o {q k n ci j : Nat} {fl : List (Nat × Nat)} (hi : wd_is ids q (4, ci, fl)) (hfl : fl[k]? = some (0, j)) (kk : cw_W p l e R s m args below meth c A ids g cells slots G nL pc ls st (wx_e (wx_u X q k n)) (wx_l (wx_u X q k n))) : cw_W p l e R s m args below meth c A ids g cells slots G nL pc ls st (wx_e (wx_u X q k n)) (wx_l X) := by
  refine cw_tau (fun q' hq' => ?_) kk
  by_cases hq : q' = q
  · subst hq
    rw [wd_ce_o hi.2, wd_ce_o hi.2]
    congr 3
    apply List.ext_getElem?
    intro i
    cases hf : fl[i]? with
    | none => simp [wd_fs, List.getElem?_zipIdx, hf]
    | some f =>
      rw [wd_fs_at hf, wd_fs_at hf]
      by_cases hik : i = k
      · subst hik
        rw [hfl] at hf
        cases hf
        rfl
      · have e : wx_l (wx_u X q' k n) q' i = wx_l X q' i := by simp [wx_l, wx_u, hik]
        simp only [wd_fv, e]
  · exact wd_ce_ext rfl (by funext k'; simp [wx_l, wx_u, hq])
theorem nw_tau_a {q i n v t : Nat} {fl : List (Nat × Nat)} (hi : wd_is ids q (t, n, fl)) (ht : t = 0 ∨ t = 1) (kk : cw_W p l e R s m args below meth c A ids g cells slots G nL pc ls st (wx_e (wx_u X q i v)) (wx_l (wx_u X q i v))) : cw_W p l e R s m args below meth c A ids g cells slots G nL pc ls st (wx_e (wx_u X q i v)) (wx_l X) := by
  refine cw_tau (fun q' hq' => ?_) kk
  by_cases hq : q' = q
  · subst hq
    rcases ht with rfl | rfl
    · rw [wd_ce_i hi.2, wd_ce_i hi.2]
    · rw [wd_ce_z hi.2, wd_ce_z hi.2]
  · exact wd_ce_ext rfl (by funext k'; simp [wx_l, wx_u, hq])
theorem nw_sig_o {q k n ci j : Nat} {fl : List (Nat × Nat)} (hi : wd_is ids q (4, ci, fl)) (hfl : fl[k]? = some (1, j)) (kk : cw_W p l e R s m args below meth c A ids g cells slots G nL pc ls st (wx_e (wx_u X q k n)) (wx_l (wx_u X q k n))) : cw_W p l e R s m args below meth c A ids g cells slots G nL pc ls st (wx_e X) (wx_l (wx_u X q k n)) := by
  refine cw_tau (fun q' hq' => ?_) kk
  by_cases hq : q' = q
  · subst hq
    rw [wd_ce_o hi.2, wd_ce_o hi.2]
    congr 3
    apply List.ext_getElem?
    intro i
    cases hf : fl[i]? with
    | none => simp [wd_fs, List.getElem?_zipIdx, hf]
    | some f =>
      rw [wd_fs_at hf, wd_fs_at hf]
      by_cases hik : i = k
      · subst hik
        rw [hfl] at hf
        cases hf
        rfl
      · have e : wx_e (wx_u X q' k n) q' i = wx_e X q' i := by simp [wx_e, wx_u, hik]
        simp only [wd_fv, e]
  · exact wd_ce_ext (by funext k'; simp [wx_e, wx_u, hq]) rfl
theorem nw_sig_a {q i n v : Nat} {fl : List (Nat × Nat)} (hi : wd_is ids q (2, n, fl)) (kk : cw_W p l e R s m args below meth c A ids g cells slots G nL pc ls st (wx_e (wx_u X q i v)) (wx_l (wx_u X q i v))) : cw_W p l e R s m args below meth c A ids g cells slots G nL pc ls st (wx_e X) (wx_l (wx_u X q i v)) := by
  refine cw_tau (fun q' hq' => ?_) kk
  by_cases hq : q' = q
  · subst hq
    rw [wd_ce_l hi.2, wd_ce_l hi.2]
  · exact wd_ce_ext (by funext k'; simp [wx_e, wx_u, hq]) rfl
theorem nw_puti (C : cw_C p s m args meth c A ids g cc nL own ret) {ci N k q idx j n : Nat} {K : String} {T : u_T} {ty0 : Nat → FieldType} {fl : List (Nat × Nat)} (hc : wd_cls ci K T N ty0) (hf : cw_kF own idx T k) (hi : wd_is ids q (4, ci, fl)) (hk : k < N) (hfl : fl[k]? = some (0, j)) (hfin : (T k).2.2.2 = false) (hn : narrow (ty0 k) (.int (nI n)) = .int (nI n)) (hfit : fits (ty0 k) (.int (nI n)) = true) (hd : decode cc pc = .ok (.putfield idx, 3)) (kk : cw_W p l e R s m args below meth c A ids g cells slots G nL (pc + 3) ls st (wx_e (wx_u X q k n)) (wx_l (wx_u X q k n))) : cw_W p l e R s m args below meth c A ids g cells slots G nL pc ls (.int (nI n) :: .ref q :: st) (wx_e X) (wx_l X) := cw_puti C hc hf hi hk hfl hfin hn hfit hd (wx_e_u X q k n ▸ nw_tau_o hi hfl kk)
theorem nw_getl (C : cw_C p s m args meth c A ids g cc nL own ret) {ci N k q idx j : Nat} {K : String} {T : u_T} {ty0 : Nat → FieldType} {fl : List (Nat × Nat)} (hc : wd_cls ci K T N ty0) (hf : cw_kF own idx T k) (hi : wd_is ids q (4, ci, fl)) (hk : k < N) (hfl : fl[k]? = some (1, j)) (hd : decode cc pc = .ok (.getfield idx, 3)) (kk : cw_W p l e R s m args below meth c A ids g cells slots G nL (pc + 3) ls (.long (lN (X q k)) :: st) (wx_e X) (wx_l X)) : cw_W p l e R s m args below meth c A ids g cells slots G nL pc ls (.ref q :: st) (wx_e X) (wx_l X) := cw_getl C hc hf hi hk hfl hd kk
theorem nw_putl (C : cw_C p s m args meth c A ids g cc nL own ret) {ci N k q idx j n : Nat} {K : String} {T : u_T} {ty0 : Nat → FieldType} {fl : List (Nat × Nat)} (hc : wd_cls ci K T N ty0) (hf : cw_kF own idx T k) (hi : wd_is ids q (4, ci, fl)) (hk : k < N) (hfl : fl[k]? = some (1, j)) (hfin : (T k).2.2.2 = false) (hn : narrow (ty0 k) (.long (lN n)) = .long (lN n)) (hfit : fits (ty0 k) (.long (lN n)) = true) (hd : decode cc pc = .ok (.putfield idx, 3)) (kk : cw_W p l e R s m args below meth c A ids g cells slots G nL (pc + 3) ls st (wx_e (wx_u X q k n)) (wx_l (wx_u X q k n))) : cw_W p l e R s m args below meth c A ids g cells slots G nL pc ls (.long (lN n) :: .ref q :: st) (wx_e X) (wx_l X) := cw_putl C hc hf hi hk hfl hfin hn hfit hd (wx_l_u X q k n ▸ nw_sig_o hi hfl kk)
theorem nw_lald (C : cw_C p s m args meth c A ids g cc nL own ret) {q n i : Nat} {fl : List (Nat × Nat)} (hi : wd_is ids q (2, n, fl)) (hin : i < n) (hn : n < 2 ^ 31) (hd : decode cc pc = .ok (.laload, 1)) (kk : cw_W p l e R s m args below meth c A ids g cells slots G nL (pc + 1) ls (.long (lN (X q i)) :: st) (wx_e X) (wx_l X)) : cw_W p l e R s m args below meth c A ids g cells slots G nL pc ls (.int (nI i) :: .ref q :: st) (wx_e X) (wx_l X) := cw_lald C hi rfl hin hn hd kk
theorem nw_last (C : cw_C p s m args meth c A ids g cc nL own ret) {q n i v : Nat} {fl : List (Nat × Nat)} (hi : wd_is ids q (2, n, fl)) (hin : i < n) (hn : n < 2 ^ 31) (hd : decode cc pc = .ok (.lastore, 1)) (kk : cw_W p l e R s m args below meth c A ids g cells slots G nL (pc + 1) ls st (wx_e (wx_u X q i v)) (wx_l (wx_u X q i v))) : cw_W p l e R s m args below meth c A ids g cells slots G nL pc ls (.long (lN v) :: .int (nI i) :: .ref q :: st) (wx_e X) (wx_l X) := cw_last C hi rfl hin hn hd (wx_l_u X q i v ▸ nw_sig_a hi kk)
theorem nw_iald (C : cw_C p s m args meth c A ids g cc nL own ret) {q n i : Nat} {fl : List (Nat × Nat)} (hi : wd_is ids q (0, n, fl)) (hin : i < n) (hn : n < 2 ^ 31) (hd : decode cc pc = .ok (.iaload, 1)) (kk : cw_W p l e R s m args below meth c A ids g cells slots G nL (pc + 1) ls (.int (nI (X q i)) :: st) (wx_e X) (wx_l X)) : cw_W p l e R s m args below meth c A ids g cells slots G nL pc ls (.int (nI i) :: .ref q :: st) (wx_e X) (wx_l X) := cw_iald C hi rfl hin hn hd kk
theorem nw_zald (C : cw_C p s m args meth c A ids g cc nL own ret) {q n i : Nat} {fl : List (Nat × Nat)} (hi : wd_is ids q (1, n, fl)) (hin : i < n) (hn : n < 2 ^ 31) (hd : decode cc pc = .ok (.baload, 1)) (kk : cw_W p l e R s m args below meth c A ids g cells slots G nL (pc + 1) ls (.int (nI (X q i)) :: st) (wx_e X) (wx_l X)) : cw_W p l e R s m args below meth c A ids g cells slots G nL pc ls (.int (nI i) :: .ref q :: st) (wx_e X) (wx_l X) := cw_zald C hi rfl hin hn hd kk
theorem nw_iast (C : cw_C p s m args meth c A ids g cc nL own ret) {q n i v : Nat} {fl : List (Nat × Nat)} (hi : wd_is ids q (0, n, fl)) (hin : i < n) (hn : n < 2 ^ 31) (hd : decode cc pc = .ok (.iastore, 1)) (kk : cw_W p l e R s m args below meth c A ids g cells slots G nL (pc + 1) ls st (wx_e (wx_u X q i v)) (wx_l (wx_u X q i v))) : cw_W p l e R s m args below meth c A ids g cells slots G nL pc ls (.int (nI v) :: .int (nI i) :: .ref q :: st) (wx_e X) (wx_l X) := cw_iast C hi rfl hin hn hd (wx_e_u X q i v ▸ nw_tau_a hi (Or.inl rfl) kk)
theorem nw_zast (C : cw_C p s m args meth c A ids g cc nL own ret) {q n i v : Nat} {fl : List (Nat × Nat)} (hi : wd_is ids q (1, n, fl)) (hin : i < n) (hn : n < 2 ^ 31) (hv : v < 2) (hd : decode cc pc = .ok (.bastore, 1)) (kk : cw_W p l e R s m args below meth c A ids g cells slots G nL (pc + 1) ls st (wx_e (wx_u X q i v)) (wx_l (wx_u X q i v))) : cw_W p l e R s m args below meth c A ids g cells slots G nL pc ls (.int (nI v) :: .int (nI i) :: .ref q :: st) (wx_e X) (wx_l X) := cw_zast C hi rfl hin hn (wx_bool v hv) hd (wx_e_u X q i v ▸ nw_tau_a hi (Or.inr rfl) kk)
theorem nw_aald (C : cw_C p s m args meth c A ids g cc nL own ret) {q n i j a b9 : Nat} (hi : wd_is ids q (3, n, [(a, j)])) (hin : i < n) (hn : n < 2 ^ 31) (hd : decode cc pc = .ok (.aaload, 1)) (hq : 4 * j = b9) (kk : cw_W p l e R s m args below meth c A ids g cells slots G nL (pc + 1) ls (.ref (b9 + i) :: st) (wx_e X) (wx_l X)) : cw_W p l e R s m args below meth c A ids g cells slots G nL pc ls (.int (nI i) :: .ref q :: st) (wx_e X) (wx_l X) := cw_aald C hi rfl hin hn hd hq kk
end
/-- a contract over numbers -/
def nw_M (ids : List Nat) (y : MethodName) (cc : ByteArray) (nL : Nat) (ret : Option FieldType) (d mc ms : Nat) (av : List Value) (X : wx_S) (Q : Option Value → wx_S → Prop) : Prop := cw_M ids y cc nL ret d mc ms av (wx_e X) (wx_l X) (fun v σ' τ' => ∃ X' : wx_S, σ' = wx_e X' ∧ τ' = wx_l X' ∧ Q v X')
theorem nw_k {p : Program} {l : Launch} {e : Env} {R : Room} {s : State} {m : MethodId} {args : Array Value} {below : List Frame} {meth : Method} {c : Code} {A : Nat → Prop} {ids : List Nat} {g : wd_G} {cells slots : Nat} {G : State → Prop} {nL pc : Nat} {ls : List (Option Value)} {st : List Value} {Q : Option Value → wx_S → Prop}
    (kk : ∀ (v : Option Value) (X : wx_S), Q v X → cw_W p l e R s m args below meth c A ids g cells slots G nL pc ls (v.toList ++ st) (wx_e X) (wx_l X)) : ∀ (v : Option Value) (σ' : wd_S) (τ' : wd_L), (∃ X' : wx_S, σ' = wx_e X' ∧ τ' = wx_l X' ∧ Q v X') → cw_W p l e R s m args below meth c A ids g cells slots G nL pc ls (v.toList ++ st) σ' τ' := by
  rintro v _ _ ⟨X, rfl, rfl, h⟩
  exact kk v X h
theorem nw_ki {p : Program} {l : Launch} {e : Env} {R : Room} {s : State} {m : MethodId} {args : Array Value} {below : List Frame} {meth : Method} {c : Code} {A : Nat → Prop} {ids : List Nat} {g : wd_G} {cells slots : Nat} {G : State → Prop} {nL pc : Nat} {ls : List (Option Value)} {st : List Value} {z : Int32} {X1 : wx_S}
    (kk : cw_W p l e R s m args below meth c A ids g cells slots G nL pc ls (.int z :: st) (wx_e X1) (wx_l X1)) : ∀ (v : Option Value) (σ' : wd_S) (τ' : wd_L), (∃ X' : wx_S, σ' = wx_e X' ∧ τ' = wx_l X' ∧ (v = some (.int z) ∧ X' = X1)) → cw_W p l e R s m args below meth c A ids g cells slots G nL pc ls (v.toList ++ st) σ' τ' := by
  rintro v _ _ ⟨X, rfl, rfl, rfl, rfl⟩
  exact kk
theorem nw_kr {p : Program} {l : Launch} {e : Env} {R : Room} {s : State} {m : MethodId} {args : Array Value} {below : List Frame} {meth : Method} {c : Code} {A : Nat → Prop} {ids : List Nat} {g : wd_G} {cells slots : Nat} {G : State → Prop} {nL pc : Nat} {ls : List (Option Value)} {st : List Value} {z : Nat} {X1 : wx_S}
    (kk : cw_W p l e R s m args below meth c A ids g cells slots G nL pc ls (.ref z :: st) (wx_e X1) (wx_l X1)) : ∀ (v : Option Value) (σ' : wd_S) (τ' : wd_L), (∃ X' : wx_S, σ' = wx_e X' ∧ τ' = wx_l X' ∧ (v = some (.ref z) ∧ X' = X1)) → cw_W p l e R s m args below meth c A ids g cells slots G nL pc ls (v.toList ++ st) σ' τ' := by
  rintro v _ _ ⟨X, rfl, rfl, rfl, rfl⟩
  exact kk
theorem nw_kv {p : Program} {l : Launch} {e : Env} {R : Room} {s : State} {m : MethodId} {args : Array Value} {below : List Frame} {meth : Method} {c : Code} {A : Nat → Prop} {ids : List Nat} {g : wd_G} {cells slots : Nat} {G : State → Prop} {nL pc : Nat} {ls : List (Option Value)} {st : List Value} {X1 : wx_S}
    (kk : cw_W p l e R s m args below meth c A ids g cells slots G nL pc ls st (wx_e X1) (wx_l X1)) : ∀ (v : Option Value) (σ' : wd_S) (τ' : wd_L), (∃ X' : wx_S, σ' = wx_e X' ∧ τ' = wx_l X' ∧ (v = none ∧ X' = X1)) → cw_W p l e R s m args below meth c A ids g cells slots G nL pc ls (v.toList ++ st) σ' τ' := by
  rintro v _ _ ⟨X, rfl, rfl, rfl, rfl⟩
  exact kk
theorem nw_q {Q : Option Value → wx_S → Prop} {v : Option Value} {X : wx_S} (h : Q v X) : ∃ X' : wx_S, wx_e X = wx_e X' ∧ wx_l X = wx_l X' ∧ Q v X' := ⟨X, rfl, rfl, h⟩
