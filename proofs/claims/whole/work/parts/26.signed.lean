/-! signed compares of any number with a small one -/
theorem wx_slt {a b : Nat} (ha : a < 4294967296) (hb : b < 2147483648) : nI a < nI b ↔ 2147483648 ≤ a ∨ a < b := by
  by_cases h : a < 2147483648
  · rw [wx_lt h hb]; omega
  · have h1 := (wx_lt0 ha).mpr (by omega)
    have h2 := nI_pos' hb
    constructor
    · intro _; omega
    · intro _
      rw [Int32.lt_iff_toInt_lt] at h1 ⊢
      rw [Int32.le_iff_toInt_le] at h2
      omega
theorem wx_sle {a b : Nat} (ha : a < 4294967296) (hb : b < 2147483648) : nI a ≤ nI b ↔ 2147483648 ≤ a ∨ a ≤ b := by
  by_cases h : a < 2147483648
  · rw [wx_le h hb]; omega
  · have h1 := (wx_lt0 ha).mpr (by omega)
    have h2 := nI_pos' hb
    constructor
    · intro _; omega
    · intro _
      rw [Int32.lt_iff_toInt_lt] at h1
      rw [Int32.le_iff_toInt_le] at h2 ⊢
      omega
theorem wx_sgt {a b : Nat} (ha : a < 4294967296) (hb : b < 2147483648) : nI b < nI a ↔ a < 2147483648 ∧ b < a := by
  have h := wx_sle ha hb
  have e : nI b < nI a ↔ ¬ nI a ≤ nI b := by
    rw [Int32.lt_iff_toInt_lt, Int32.le_iff_toInt_le]; omega
  rw [e, h]; omega
theorem wx_sge {a b : Nat} (ha : a < 4294967296) (hb : b < 2147483648) : nI b ≤ nI a ↔ a < 2147483648 ∧ b ≤ a := by
  have h := wx_slt ha hb
  have e : nI b ≤ nI a ↔ ¬ nI a < nI b := by
    rw [Int32.lt_iff_toInt_lt, Int32.le_iff_toInt_le]; omega
  rw [e, h]; omega
section
variable {p : Program} {l : Launch} {e : Env} {R : Room} {s : State} {m : MethodId} {args : Array Value} {below : List Frame} {meth : Method} {c : Code} {A : Nat → Prop} {ids : List Nat} {g : wd_G} {cells slots : Nat} {G : State → Prop} {cc : ByteArray} {nL pc : Nat} {own : String} {ret : Option FieldType} {ls : List (Option Value)} {st : List Value} {σ : wd_S} {τ : wd_L}
theorem nw_scmp_lt (C : cw_C p s m args meth c A ids g cc nL own ret) {a b : Nat} {off : Int} {tgt : Nat} (hd : decode cc pc = .ok (.if_icmp .lt off, 3)) (ht : (pc : Int) + off = (tgt : Int)) (ha : a < 4294967296) (hb : b < 2147483648) (kt : (2147483648 ≤ a ∨ a < b) → cw_W p l e R s m args below meth c A ids g cells slots G nL tgt ls st σ τ) (kf : (a < 2147483648 ∧ b ≤ a) → cw_W p l e R s m args below meth c A ids g cells slots G nL (pc + 3) ls st σ τ) : cw_W p l e R s m args below meth c A ids g cells slots G nL pc ls (.int (nI b) :: .int (nI a) :: st) σ τ :=
  cw_icmp_lt C hd ht (fun h => kt ((wx_slt ha hb).mp h)) (fun h => kf (by rw [wx_slt ha hb] at h; omega))
theorem nw_scmp_le (C : cw_C p s m args meth c A ids g cc nL own ret) {a b : Nat} {off : Int} {tgt : Nat} (hd : decode cc pc = .ok (.if_icmp .le off, 3)) (ht : (pc : Int) + off = (tgt : Int)) (ha : a < 4294967296) (hb : b < 2147483648) (kt : (2147483648 ≤ a ∨ a ≤ b) → cw_W p l e R s m args below meth c A ids g cells slots G nL tgt ls st σ τ) (kf : (a < 2147483648 ∧ b < a) → cw_W p l e R s m args below meth c A ids g cells slots G nL (pc + 3) ls st σ τ) : cw_W p l e R s m args below meth c A ids g cells slots G nL pc ls (.int (nI b) :: .int (nI a) :: st) σ τ :=
  cw_icmp_le C hd ht (fun h => kt ((wx_sle ha hb).mp h)) (fun h => kf (by rw [wx_sle ha hb] at h; omega))
theorem nw_scmp_gt (C : cw_C p s m args meth c A ids g cc nL own ret) {a b : Nat} {off : Int} {tgt : Nat} (hd : decode cc pc = .ok (.if_icmp .gt off, 3)) (ht : (pc : Int) + off = (tgt : Int)) (ha : a < 4294967296) (hb : b < 2147483648) (kt : (a < 2147483648 ∧ b < a) → cw_W p l e R s m args below meth c A ids g cells slots G nL tgt ls st σ τ) (kf : (2147483648 ≤ a ∨ a ≤ b) → cw_W p l e R s m args below meth c A ids g cells slots G nL (pc + 3) ls st σ τ) : cw_W p l e R s m args below meth c A ids g cells slots G nL pc ls (.int (nI b) :: .int (nI a) :: st) σ τ :=
  cw_icmp_gt C hd ht (fun h => kt ((wx_sgt ha hb).mp h)) (fun h => kf (by rw [wx_sgt ha hb] at h; omega))
theorem nw_scmp_ge (C : cw_C p s m args meth c A ids g cc nL own ret) {a b : Nat} {off : Int} {tgt : Nat} (hd : decode cc pc = .ok (.if_icmp .ge off, 3)) (ht : (pc : Int) + off = (tgt : Int)) (ha : a < 4294967296) (hb : b < 2147483648) (kt : (a < 2147483648 ∧ b ≤ a) → cw_W p l e R s m args below meth c A ids g cells slots G nL tgt ls st σ τ) (kf : (2147483648 ≤ a ∨ a < b) → cw_W p l e R s m args below meth c A ids g cells slots G nL (pc + 3) ls st σ τ) : cw_W p l e R s m args below meth c A ids g cells slots G nL pc ls (.int (nI b) :: .int (nI a) :: st) σ τ :=
  cw_icmp_ge C hd ht (fun h => kt ((wx_sge ha hb).mp h)) (fun h => kf (by rw [wx_sge ha hb] at h; omega))
end
