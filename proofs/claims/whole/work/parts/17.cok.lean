/-! the class: what its cells always keep, as far as its methods need it to run -/
theorem zn_tb (n k : Nat) : n / 2 ^ k % 2 = 1 ↔ n.testBit k = true := by
  rw [Nat.testBit_eq_decide_div_mod_eq]
  simp
theorem zn_tb0 (n k : Nat) : n / 2 ^ k % 2 = if n.testBit k = true then 1 else 0 := by
  split
  · rename_i h; exact (zn_tb n k).mpr h
  · rename_i h
    have h1 : ¬ n / 2 ^ k % 2 = 1 := fun q => h ((zn_tb n k).mp q)
    omega
def zn_pop (n : Nat) : Nat → Nat
  | 0 => 0
  | k + 1 => zn_pop n k + n / 2 ^ k % 2
theorem zn_pop_le (n : Nat) : ∀ k, zn_pop n k ≤ k
  | 0 => Nat.le_refl _
  | k + 1 => by
    have := zn_pop_le n k
    simp only [zn_pop]
    omega
theorem zn_pop_lt {n t : Nat} (h : ¬ n / 2 ^ t % 2 = 1) : ∀ k, t < k → zn_pop n k < k
  | 0, hk => absurd hk (Nat.not_lt_zero _)
  | k + 1, hk => by
    simp only [zn_pop]
    by_cases e : t = k
    · subst e
      have := zn_pop_le n t
      omega
    · have := zn_pop_lt h k (by omega)
      omega
theorem zn_or_bit (n t k : Nat) : (n ||| 2 ^ t) / 2 ^ k % 2 = if k = t then 1 else n / 2 ^ k % 2 := by
  rw [zn_tb0, zn_tb0 n k, Nat.testBit_or, Nat.testBit_two_pow]
  by_cases h : k = t
  · subst h; simp
  · have : ¬ t = k := fun q => h q.symm
    simp [h, this]
theorem zn_pop_or {n t : Nat} (h : ¬ n / 2 ^ t % 2 = 1) : ∀ k, zn_pop (n ||| 2 ^ t) k = zn_pop n k + if t < k then 1 else 0
  | 0 => by simp [zn_pop]
  | k + 1 => by
    simp only [zn_pop]
    rw [zn_pop_or h k, zn_or_bit]
    by_cases e : k = t
    · subst e
      rw [if_neg (Nat.lt_irrefl _), if_pos rfl, if_pos (Nat.lt_succ_self _)]
      omega
    · rw [if_neg e]
      by_cases h1 : t < k
      · rw [if_pos h1, if_pos (by omega)]; omega
      · rw [if_neg h1, if_neg (by omega)]; omega
/-- transfers and vertices -/
def zc_V (X : wx_S) : Prop := X 20 5 ≤ 90 ∧ X 4 3 ≤ 40 ∧ (∀ u, u < X 20 5 → X 24 u < 4 ∧ 1 ≤ X 28 u ∧ X 28 u ≤ 14 ∧ X 32 u < 16 ∧ (X 36 u < X 4 3 ∨ X 36 u = 4294967295) ∧ (X 40 u < X 4 3 ∨ X 40 u = 4294967295)) ∧ ∀ t, t < X 4 3 → X 8 t < 4 ∧ X 12 t < 4 ∧ X 16 t ≤ 1000 ∧ X 8 t ≠ X 12 t
/-- a node's DAG: numbers of vertices, or none -/
def zc_S (X : wx_S) (r : Nat) : Prop := (∀ k, k < 64 → X (104 + r) k < X 20 5 ∨ X (104 + r) k = 4294967295) ∧ ∀ w, w < 16 → X (108 + r) w < 16
/-- a node's book -/
def zc_B (X : wx_S) (r : Nat) : Prop := X (112 + r) 3 < 2 ^ 40 ∧ X (112 + r) 2 = zn_pop (X (112 + r) 3) 40 ∧ X (120 + r) 0 + X (120 + r) 1 + X (120 + r) 2 + X (120 + r) 3 ≤ 400
theorem zc_B_bal {X : wx_S} {r : Nat} (h : zc_B X r) : ∀ a, a < 4 → X (120 + r) a ≤ 400 := by
  intro a ha
  have := h.2.2
  rcases (show a = 0 ∨ a = 1 ∨ a = 2 ∨ a = 3 by omega) with rfl | rfl | rfl | rfl <;> omega
theorem zc_place_oth (X : wx_S) (r t : Nat) {c : Nat} (k : Nat) (h1 : c ≠ 112 + r) (h2 : c ≠ 116 + r) (h3 : c ≠ 120 + r) : zc_place X r t c k = X c k := by
  unfold zc_place
  split
  · rfl
  · split <;> simp only [wx_u, h1, h2, h3, false_and, if_false]
theorem zc_place_V {X : wx_S} {r t : Nat} (h : zc_V X) : zc_V (zc_place X r t) := by
  unfold zc_V at *
  have e : ∀ c k, c < 112 → zc_place X r t c k = X c k := fun c k hc => zc_place_oth X r t k (by omega) (by omega) (by omega)
  simp only [e 20 _ (by omega), e 4 _ (by omega), e 24 _ (by omega), e 28 _ (by omega), e 32 _ (by omega), e 36 _ (by omega), e 40 _ (by omega), e 8 _ (by omega), e 12 _ (by omega), e 16 _ (by omega)]
  exact h
theorem zc_place_S {X : wx_S} {r t : Nat} (h : zc_S X r) : zc_S (zc_place X r t) r := by
  unfold zc_S at *
  have e : ∀ c k, c < 112 → zc_place X r t c k = X c k := fun c k hc => zc_place_oth X r t k (by omega) (by omega) (by omega)
  constructor
  · intro k hk
    rw [zc_place_oth X r t k (by omega) (by omega) (by omega), e 20 _ (by omega)]
    exact h.1 k hk
  · intro w hw
    rw [zc_place_oth X r t w (by omega) (by omega) (by omega)]
    exact h.2 w hw
theorem zc_sum_mv {f : Nat → Nat} {a b m : Nat} (ha : a < 4) (hb : b < 4) (hab : a ≠ b) (hm : m ≤ f a) :
    (if 0 = b then f b + m else if 0 = a then f a - m else f 0) + (if 1 = b then f b + m else if 1 = a then f a - m else f 1) + (if 2 = b then f b + m else if 2 = a then f a - m else f 2) + (if 3 = b then f b + m else if 3 = a then f a - m else f 3) = f 0 + f 1 + f 2 + f 3 := by
  rcases (show a = 0 ∨ a = 1 ∨ a = 2 ∨ a = 3 by omega) with rfl | rfl | rfl | rfl <;> rcases (show b = 0 ∨ b = 1 ∨ b = 2 ∨ b = 3 by omega) with rfl | rfl | rfl | rfl <;> simp at hab ⊢ <;> omega
theorem zc_place_B {X : wx_S} {r t : Nat} (hV : zc_V X) (ht : t < X 4 3 ∨ t = 4294967295) (h : zc_B X r) : zc_B (zc_place X r t) r := by
  unfold zc_place
  split
  · exact h
  · rename_i hn
    have hn1 : t ≠ 4294967295 := fun q => hn (Or.inl q)
    have hn2 : ¬ X (112 + r) 3 / 2 ^ t % 2 = 1 := fun q => hn (Or.inr q)
    have ht' : t < X 4 3 := by omega
    have h40 : t < 40 := Nat.lt_of_lt_of_le ht' hV.2.1
    have hf := hV.2.2.2 t ht'
    have hor : X (112 + r) 3 ||| 2 ^ t < 2 ^ 40 := Nat.or_lt_two_pow h.1 (zn_p40 h40)
    have hpop := zn_pop_or hn2 40
    rw [if_pos h40] at hpop
    split
    · rename_i hle
      refine ⟨?_, ?_, ?_⟩
      · have e : ∀ Z : wx_S, ∀ a b, wx_u Z (120 + r) a b (112 + r) 3 = Z (112 + r) 3 := fun Z a b => wx_u_nc (by omega)
        rw [e, e, wx_u_nk (by decide), wx_u_nc (by omega), wx_u_eq]
        exact hor
      · have e : ∀ Z : wx_S, ∀ a b k, wx_u Z (120 + r) a b (112 + r) k = Z (112 + r) k := fun Z a b k => wx_u_nc (by omega)
        rw [e, e, e, e, wx_u_eq, wx_u_nk (by decide), wx_u_nc (by omega), wx_u_eq, hpop, h.2.1]
      · have e : ∀ k, wx_u (wx_u (wx_u X (112 + r) 3 (X (112 + r) 3 ||| 2 ^ t)) (116 + r) (X (112 + r) 2) t) (112 + r) 2 (X (112 + r) 2 + 1) (120 + r) k = X (120 + r) k := fun k => by
          rw [wx_u_nc (by omega), wx_u_nc (by omega), wx_u_nc (by omega)]
        have key := zc_sum_mv (f := fun k => X (120 + r) k) hf.1 hf.2.1 hf.2.2.2 hle
        generalize wx_u (wx_u (wx_u X (112 + r) 3 (X (112 + r) 3 ||| 2 ^ t)) (116 + r) (X (112 + r) 2) t) (112 + r) 2 (X (112 + r) 2 + 1) = Y at e ⊢
        simp only [wx_u, true_and, e]
        have := h.2.2
        omega
    · refine ⟨?_, ?_, ?_⟩
      · rw [wx_u_nk (by decide), wx_u_nc (by omega), wx_u_eq]
        exact hor
      · rw [wx_u_eq, wx_u_nk (by decide), wx_u_nc (by omega), wx_u_eq, hpop, h.2.1]
      · have e : ∀ k, wx_u (wx_u (wx_u X (112 + r) 3 (X (112 + r) 3 ||| 2 ^ t)) (116 + r) (X (112 + r) 2) t) (112 + r) 2 (X (112 + r) 2 + 1) (120 + r) k = X (120 + r) k := fun k => by
          rw [wx_u_nc (by omega), wx_u_nc (by omega), wx_u_nc (by omega)]
        rw [e, e, e, e]
        exact h.2.2
def zc_ok (X : wx_S) (r : Nat) : Prop := zc_V X ∧ zc_S X r ∧ zc_B X r
theorem mm_Bk_place_ok (X : wx_S) (r : Nat) (hr : r < 4) (t : Nat) (h : zc_ok X r) (ht : t < X 4 3 ∨ t = 4294967295) : nw_M wd_all yy_Bk_place cc_Bk_place 3 none 1 0 0 [.ref (112 + r), .int (nI t)] X (fun v X' => v = none ∧ X' = zc_place X r t) := by
  have h40 := h.1.2.1
  refine mm_Bk_place X r hr t (by omega) h.2.2.1 (fun h1 h2 => ?_) (fun h1 => ?_) (fun a ha => ?_)
  · rw [h.2.2.2.1]; exact zn_pop_lt h2 40 h1
  · rcases ht with ht | ht
    · have := h.1.2.2.2 t ht
      exact ⟨this.1, this.2.1, by omega, this.2.2.2⟩
    · omega
  · have := zc_B_bal h.2.2 a ha
    omega
