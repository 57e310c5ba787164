/-! contracts over numbers out of walks -/
theorem nw_of {ids : List Nat} {y : MethodName} {cc : ByteArray} {nL : Nat} {ret : Option FieldType} {d mc ms : Nat} {av : List Value} {X : wx_S} {Q : Option Value → wx_S → Prop} (ls0 : List (Option Value)) (hy : plainName y.cls = true) (hcat : av.all cw_c1 = true) (hlen : av.length ≤ nL) (h0 : cw_in av nL = ls0)
    (h : ∀ (p : Program) (l : Launch) (e : Env) (s : State) (m : MethodId) (args : Array Value) (below : List Frame) (meth : Method) (c : Code) (A : Nat → Prop) (g : wd_G), cw_C p s m args meth c A ids g cc nL y.cls ret →
      cw_W p l e (cw_rm d mc ms) s m args below meth c A ids g 0 0 (cw_G below args s A ids g mc ms (fun v σ' τ' => ∃ X' : wx_S, σ' = wx_e X' ∧ τ' = wx_l X' ∧ Q v X')) nL 0 ls0 [] (wx_e X) (wx_l X)) : nw_M ids y cc nL ret d mc ms av X Q := by
  subst h0
  exact cw_M.of hy hcat hlen h
theorem nw_zn : ∀ {k : Nat}, k < 2 → narrow .boolean (.int (nI k)) = .int (nI k) := by
  have h : ∀ k, k < 2 → narrow .boolean (.int (nI k)) = .int (nI k) := by decide +kernel
  exact fun {k} hk => h k hk
theorem nw_zf : ∀ {k : Nat}, k < 2 → fits .boolean (.int (nI k)) = true := by
  have h : ∀ k, k < 2 → fits .boolean (.int (nI k)) = true := by decide +kernel
  exact fun {k} hk => h k hk
/-- a truth as a number -/
abbrev zb_n (b : Prop) [Decidable b] : Nat := if b then 1 else 0
theorem zb_lt (b : Prop) [Decidable b] : zb_n b < 2 := by unfold zb_n; split <;> omega
theorem zb_t {b : Prop} [Decidable b] (h : b) : nI 1 = nI (zb_n b) := by rw [zb_n, if_pos h]
theorem zb_f {b : Prop} [Decidable b] (h : ¬ b) : nI 0 = nI (zb_n b) := by rw [zb_n, if_neg h]
/-- f done for i, i + 1 .. (n times) -/
def zz_it {α : Type} (f : Nat → α → α) : Nat → Nat → α → α
  | _, 0, x => x
  | i, n + 1, x => zz_it f (i + 1) n (f i x)
theorem zz_it_last {α : Type} (f : Nat → α → α) : ∀ (n i : Nat) (x : α), zz_it f i (n + 1) x = f (i + n) (zz_it f i n x)
  | 0, i, x => rfl
  | n + 1, i, x => by
    show zz_it f (i + 1) (n + 1) (f i x) = f (i + (n + 1)) (zz_it f (i + 1) n (f i x))
    rw [zz_it_last f n (i + 1) (f i x), show i + 1 + n = i + (n + 1) by omega]
def zn_ones (n : Nat) : Nat := n % 2 + n / 2 % 2 + n / 4 % 2 + n / 8 % 2
theorem zn_ones_le (n : Nat) : zn_ones n ≤ 4 := by unfold zn_ones; omega
/-- bit b of n -/
def zn_bit (n b : Nat) : Bool := n / 2 ^ b % 2 == 1
theorem zn_or16 {a b : Nat} (ha : a < 16) (hb : b < 16) : a ||| b < 16 := Nat.or_lt_two_pow (n := 4) ha hb
theorem zn_and_lt {a b n : Nat} (ha : a < n) : a &&& b < n := Nat.lt_of_le_of_lt Nat.and_le_left ha
theorem zn_pow4 {s : Nat} (h : s < 4) : 2 ^ s < 16 := by
  rcases (show s = 0 ∨ s = 1 ∨ s = 2 ∨ s = 3 by omega) with rfl | rfl | rfl | rfl <;> decide
section
variable {p : Program} {l : Launch} {e : Env} {R : Room} {s : State} {m : MethodId} {args : Array Value} {below : List Frame} {meth : Method} {c : Code} {A : Nat → Prop} {ids : List Nat} {g : wd_G} {cells slots : Nat} {G : State → Prop} {cc : ByteArray} {nL pc : Nat} {own : String} {ret : Option FieldType} {ls : List (Option Value)} {st : List Value} {σ : wd_S} {τ : wd_L}
theorem cw_ldcw (C : cw_C p s m args meth c A ids g cc nL own ret) {index : Nat} {v : Int32} (hk : Cond.constant own index v ∈ wd_tb) (hd : decode cc pc = .ok (.ldc_w index, 3)) (k : cw_W p l e R s m args below meth c A ids g cells slots G nL (pc + 3) ls (.int v :: st) σ τ) : cw_W p l e R s m args below meth c A ids g cells slots G nL pc ls st σ τ := fun H locs la hl hP hS => lv_ldcw C.1 C.2.1 C.2.2.2.1 (C.2.2.2.2.1 _ hk) hd (k H locs la hl hP hS)
theorem nw_iand1 (C : cw_C p s m args meth c A ids g cc nL own ret) {a : Nat} (hd : decode cc pc = .ok (.iand, 1)) (k : cw_W p l e R s m args below meth c A ids g cells slots G nL (pc + 1) ls (.int (nI (a % 2)) :: st) σ τ) : cw_W p l e R s m args below meth c A ids g cells slots G nL pc ls (.int (nI 1) :: .int (nI a) :: st) σ τ := nw_iand C hd (by rw [Nat.and_one_is_mod]; exact k)
end
theorem nw_eqX {p : Program} {l : Launch} {e : Env} {R : Room} {s : State} {m : MethodId} {args : Array Value} {below : List Frame} {meth : Method} {c : Code} {A : Nat → Prop} {ids : List Nat} {g : wd_G} {cells slots : Nat} {G : State → Prop} {nL pc : Nat} {ls : List (Option Value)} {st : List Value} {X X' : wx_S} (h : X = X') (k : cw_W p l e R s m args below meth c A ids g cells slots G nL pc ls st (wx_e X') (wx_l X')) : cw_W p l e R s m args below meth c A ids g cells slots G nL pc ls st (wx_e X) (wx_l X) := h ▸ k
def zz_fill (X : wx_S) (q n v : Nat) : wx_S := fun c k => if c = q ∧ k < n then v else X c k
theorem zz_fill_0 (X : wx_S) (q v : Nat) : zz_fill X q 0 v = X := by funext c k; simp [zz_fill]
theorem zz_fill_s (X : wx_S) (q n v : Nat) : wx_u (zz_fill X q n v) q n v = zz_fill X q (n + 1) v := by
  funext c k
  simp only [wx_u, zz_fill]
  by_cases hc : c = q
  · subst hc
    by_cases hk : k = n
    · subst hk; simp
    · simp only [true_and, hk, if_false, and_false]
      by_cases h : k < n
      · rw [if_pos h, if_pos (by omega)]
      · rw [if_neg h, if_neg (by omega)]
  · simp [hc]
theorem zb_0 {b : Prop} [Decidable b] : zb_n b = 0 ↔ ¬ b := by unfold zb_n; split <;> simp_all
section
variable {p : Program} {l : Launch} {e : Env} {R : Room} {s : State} {m : MethodId} {args : Array Value} {below : List Frame} {meth : Method} {c : Code} {A : Nat → Prop} {ids : List Nat} {g : wd_G} {cells slots : Nat} {G : State → Prop} {cc : ByteArray} {nL pc : Nat} {own : String} {ret : Option FieldType} {ls : List (Option Value)} {st : List Value} {σ : wd_S} {τ : wd_L}
theorem nw_zeq (C : cw_C p s m args meth c A ids g cc nL own ret) {b : Prop} [Decidable b] {off : Int} {tgt : Nat} (hd : decode cc pc = .ok (.ifCond .eq off, 3)) (ht : (pc : Int) + off = (tgt : Int)) (kt : ¬ b → cw_W p l e R s m args below meth c A ids g cells slots G nL tgt ls st σ τ) (kf : b → cw_W p l e R s m args below meth c A ids g cells slots G nL (pc + 3) ls st σ τ) : cw_W p l e R s m args below meth c A ids g cells slots G nL pc ls (.int (nI (zb_n b)) :: st) σ τ :=
  nw_if_eq C hd ht (Nat.lt_trans (zb_lt b) (by decide)) (fun h => kt (zb_0.mp h)) (fun h => kf (Classical.not_not.mp (fun q => h (zb_0.mpr q))))
theorem nw_zne (C : cw_C p s m args meth c A ids g cc nL own ret) {b : Prop} [Decidable b] {off : Int} {tgt : Nat} (hd : decode cc pc = .ok (.ifCond .ne off, 3)) (ht : (pc : Int) + off = (tgt : Int)) (kt : b → cw_W p l e R s m args below meth c A ids g cells slots G nL tgt ls st σ τ) (kf : ¬ b → cw_W p l e R s m args below meth c A ids g cells slots G nL (pc + 3) ls st σ τ) : cw_W p l e R s m args below meth c A ids g cells slots G nL pc ls (.int (nI (zb_n b)) :: st) σ τ :=
  nw_if_ne C hd ht (Nat.lt_trans (zb_lt b) (by decide)) (fun h => kt (Classical.not_not.mp (fun q => h (zb_0.mpr q)))) (fun h => kf (zb_0.mp h))
theorem cw_mmin (C : cw_C p s m args meth c A ids g cc nL own ret) {index : Nat} {x y : Int32} (h1 : Cond.methodLink own index Lib.Math.min.name ∈ wd_tb) (h2 : Cond.static Lib.Math.min.name ∈ wd_tb) (h3 : Cond.initialized "java/lang/Math" ∈ wd_tb) (h4 : Cond.code Lib.Math.min.name Lib.Math.min.code 2 (some .int) ∈ wd_tb) (hR : 1 ≤ R.frames ∧ ((st.map (cw_v g.1)).map fun v => v.category).sum + 13 ≤ R.locals ∧ cells ≤ R.cells ∧ slots ≤ R.slots) (hd : decode cc pc = .ok (.invokestatic index, 3)) (k : cw_W p l e R s m args below meth c A ids g cells slots G nL (pc + 3) ls (.int (if y < x then y else x) :: st) σ τ) : cw_W p l e R s m args below meth c A ids g cells slots G nL pc ls (.int y :: .int x :: st) σ τ := fun H locs la hl hP hS =>
  va_mmin C.1 C.2.1 (by rw [C.2.2.1]; exact hl.1.symm) C.2.2.2.1 (C.2.2.2.2.1 _ h1) (C.2.2.2.2.1 _ h2) (C.2.2.2.2.1 _ h3) (C.2.2.2.2.1 _ h4) hR.1 hR.2.1 hR.2.2.1 hR.2.2.2 hd (k H locs la hl hP hS)
end
