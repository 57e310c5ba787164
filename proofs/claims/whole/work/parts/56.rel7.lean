/-! a node's whole relation, and that what another node does leaves it -/
/-- state, mark, timer, records, round made, the cut -/
def rl_X (A B : wx_S) (r : Nat) : Prop := (A (64 + r) 11 = 0 ∧ B 200 r = 4294967295) ∨ (A (64 + r) 11 = 1 ∧ A (64 + r) 12 = B 200 r ∧ B 200 r < 2147483648)
def rl_S (A B : wx_S) (r : Nat) : Prop := A (64 + r) 0 = r ∧ (A (64 + r) 8 = B 192 r ∧ B 192 r ≤ 2) ∧ (A (64 + r) 9 = B 220 r ∧ B 220 r ≤ 802) ∧ (A (64 + r) 10 = B 216 r ∧ B 216 r ≤ 3) ∧ (A (68 + r) 5 = B 204 r ∧ B 204 r ≤ 14) ∧ A (68 + r) 6 = B 196 r ∧ A (64 + r) 12 < 4294967296 ∧ (A (124 + r) 5 = B 224 r ∧ B 224 r ≤ 14 ∧ B 224 r % 2 = 0)
/-- the own transfers: A's list against B's owners and marks -/
def rl_Q (A B : wx_S) (r : Nat) : Prop := A (68 + r) 2 ≤ A (68 + r) 1 ∧ (∀ i, i < A (68 + r) 1 → A (72 + r) i < B 136 1 ∧ B 152 (A (72 + r) i) = r) ∧ (∀ i j, i < j → j < A (68 + r) 1 → A (72 + r) i < A (72 + r) j) ∧ (∀ t, t < B 136 1 → B 152 t = r → ∃ i, i < A (68 + r) 1 ∧ A (72 + r) i = t) ∧ ∀ i, i < A (68 + r) 1 → (B 156 (A (72 + r) i) = 0 ↔ A (68 + r) 2 ≤ i)
/-- the marks of what was answered -/
def rl_E (A B : wx_S) (r : Nat) : Prop := ∀ a, a < 4 → (A (76 + r) a < 2 ^ 15 ∧ A (80 + r) a < 2 ^ 15) ∧ ∀ w, 1 ≤ w → w ≤ 14 → (A (76 + r) a / 2 ^ w % 2 = 1 ↔ B 208 (60 * r + 4 * w + a) ≠ 0) ∧ (A (80 + r) a / 2 ^ w % 2 = 1 ↔ B 212 (60 * r + 4 * w + a) ≠ 0)
/-- the notes -/
def rl_P (A B : wx_S) (r : Nat) : Prop := ∀ u, u < 90 → (A (88 + r) u = B 232 (90 * r + u) ∧ A (92 + r) u = B 236 (90 * r + u)) ∧ (B 232 (90 * r + u) < 16 ∧ B 236 (90 * r + u) < 16) ∧ (B 136 7 ≤ u → B 236 (90 * r + u) = 0)
abbrev rl_dead (B : wx_S) (r : Nat) : Prop := B 192 r = 0 ∨ (B 192 r = 2 ∧ B 136 34 ≠ 0)
/-- the book of a node that is down -/
def rl_Bd (A B : wx_S) (r : Nat) : Prop := A (112 + r) 2 = 0 ∧ A (112 + r) 3 = 0 ∧ B 248 r = 0 ∧ ∀ a, a < 4 → A (120 + r) a = 0 ∧ B 252 (4 * r + a) = 100
/-- what stands in the DAG was delivered -/
def rl_J (B : wx_S) (r : Nat) : Prop := ∀ w a, 1 ≤ w → w ≤ 14 → a < 4 → B 228 (60 * r + 4 * w + a) ≠ 0 → 3 ≤ zn_ones (B 236 (90 * r + (B 228 (60 * r + 4 * w + a) - 1)))
theorem rl_J_rg {B B' : wx_S} {r : Nat} (hr : r < 4) (hd : zm_D B) (h9 : B 136 7 ≤ 90) (e : ∀ k, k < 60 → B' 228 (60 * r + k) = B 228 (60 * r + k)) (e2 : ∀ k, k < 90 → B' 236 (90 * r + k) = B 236 (90 * r + k)) (h : rl_J B r) : rl_J B' r := fun w a h1 h2 h3 h4 => by
  have q := rl_D_le hr hd h2 h3
  rw [show 60 * r + 4 * w + a = 60 * r + (4 * w + a) by omega, e _ (by omega), ← Nat.add_assoc] at h4 ⊢
  rw [e2 _ (by omega)]
  exact h w a h1 h2 h3 h4
def rl_N (A B : wx_S) (r : Nat) : Prop := rl_S A B r ∧ rl_X A B r ∧ rl_Q A B r ∧ rl_E A B r ∧ rl_P A B r ∧ rl_W A B r ∧ rl_D A B r ∧ rl_K A B r ∧ (rl_I B r ∧ rl_U B r ∧ rl_Z B r ∧ zm_C B r) ∧ rl_J B r
theorem rl_th_rg {X Y : wx_S} {r w : Nat} (e : ∀ k, k < 60 → Y 228 (60 * r + k) = X 228 (60 * r + k)) (hw : w ≤ 14) : ∀ i, i ≤ 4 → zm_th Y r w i = zm_th X r w i
  | 0, _ => rfl
  | i + 1, hi => by rw [zm_th, zm_th, rl_th_rg e hw i (by omega), show 60 * r + 4 * w + i = 60 * r + (4 * w + i) by omega, e _ (by omega)]
theorem rl_sz_rg {X Y : wx_S} {r : Nat} (e : ∀ k, k < 60 → Y 228 (60 * r + k) = X 228 (60 * r + k)) : ∀ w, w ≤ 15 → zm_sz Y r w = zm_sz X r w
  | 0, _ => rfl
  | w + 1, hw => by rw [zm_sz, zm_sz, rl_sz_rg e w (by omega), rl_th_rg e (by omega) 4 (Nat.le_refl _)]
theorem rl_D_rg {A B A' B' : wx_S} {r : Nat} (eA : ∀ c k, c = 104 + r ∨ c = 108 + r ∨ c = 100 + r → A' c k = A c k) (e : ∀ k, k < 60 → B' 228 (60 * r + k) = B 228 (60 * r + k)) (h : rl_D A B r) : rl_D A' B' r := by
  refine ⟨fun w a h1 h2 h3 => ?_, fun a h1 => ?_, fun w h1 h2 => ?_, ?_, ?_⟩
  · rw [eA _ _ (by omega), show 60 * r + 4 * w + a = 60 * r + (4 * w + a) by omega, e _ (by omega), ← Nat.add_assoc]; exact h.1 w a h1 h2 h3
  · rw [eA _ _ (by omega)]; exact h.2.1 a h1
  · rw [eA _ _ (by omega), rl_th_rg e h2 4 (Nat.le_refl _)]; exact h.2.2.1 w h1 h2
  · rw [eA _ _ (by omega)]; exact h.2.2.2.1
  · rw [eA _ _ (by omega), rl_sz_rg e 15 (Nat.le_refl _)]; exact h.2.2.2.2
/-- vertices may have come to it -/
def rl_gV (B B' : wx_S) : Prop := B 136 7 ≤ B' 136 7 ∧ B' 136 7 ≤ 90 ∧ ∀ c u, c = 160 ∨ c = 164 ∨ c = 168 → u < B 136 7 → B' c u = B c u
theorem rl_gV_id {B B' : wx_S} (h9 : B 136 7 ≤ 90) (e : ∀ c k, c = 136 ∨ c = 160 ∨ c = 164 ∨ c = 168 → B' c k = B c k) : rl_gV B B' := ⟨by rw [e _ _ (by omega)]; exact Nat.le_refl _, by rw [e _ _ (by omega)]; exact h9, fun c u hc _ => e c u (by omega)⟩
theorem rl_I_rg {B B' : wx_S} {r : Nat} (hr : r < 4) (hd : zm_D B) (g : rl_gV B B') (e : ∀ k, k < 60 → B' 228 (60 * r + k) = B 228 (60 * r + k)) (h : rl_I B r) : rl_I B' r := fun w a h1 h2 h3 h4 => by
  have q := rl_D_le hr hd h2 h3
  rw [show 60 * r + 4 * w + a = 60 * r + (4 * w + a) by omega, e _ (by omega), ← Nat.add_assoc] at h4 ⊢
  rw [g.2.2 _ _ (by omega) (by omega), g.2.2 _ _ (by omega) (by omega)]
  exact h w a h1 h2 h3 h4
theorem rl_C_rg {B B' : wx_S} {r : Nat} (hr : r < 4) (hd : zm_D B) (g : rl_gV B B') (e : ∀ k, k < 60 → B' 228 (60 * r + k) = B 228 (60 * r + k)) (h : zm_C B r) : zm_C B' r := fun w h1 h2 a h3 h4 b h5 h6 => by
  have q := rl_D_le hr hd h2 h3
  rw [show 60 * r + 4 * w + a = 60 * r + (4 * w + a) by omega, e _ (by omega), ← Nat.add_assoc] at h4 h6
  rw [g.2.2 _ _ (by omega) (by omega)] at h6
  rw [show 60 * r + 4 * (w - 1) + b = 60 * r + (4 * (w - 1) + b) by omega, e _ (by omega), ← Nat.add_assoc]
  exact h w h1 h2 a h3 h4 b h5 h6
theorem rl_K_rg {A B A' B' : wx_S} {r : Nat} (hr : r < 4) (hd : zm_D B) (h9 : B 136 7 ≤ 90) (eA : ∀ k, A' (128 + r) k = A (128 + r) k) (e : ∀ k, k < 60 → B' 228 (60 * r + k) = B 228 (60 * r + k)) (e2 : ∀ k, k < 90 → B' 240 (90 * r + k) = B 240 (90 * r + k)) (h : rl_K A B r) : rl_K A' B' r := fun w a h1 h2 h3 => by
  have q := rl_D_le hr hd h2 h3
  rw [eA, show 60 * r + 4 * w + a = 60 * r + (4 * w + a) by omega, e _ (by omega), ← Nat.add_assoc]
  rw [e2 _ (by omega)]
  exact h w a h1 h2 h3
theorem rl_Z_rg {B B' : wx_S} {r : Nat} (hV : zm_V B) (g : rl_gV B B') (e : ∀ k, k < 60 → B' 228 (60 * r + k) = B 228 (60 * r + k)) (e2 : ∀ k, k < 90 → B' 240 (90 * r + k) = B 240 (90 * r + k)) (h : rl_Z B r) : rl_Z B' r := fun u hu hf => by
  rw [e2 u hu] at hf
  have z := h u hu hf
  have v := hV.2.2.1 u z.1
  have g1 := g.1
  refine ⟨by omega, ?_⟩
  rw [g.2.2 _ _ (by omega) z.1, g.2.2 _ _ (by omega) z.1, Nat.add_assoc, e _ (by omega), ← Nat.add_assoc]
  exact z.2
theorem rl_U_rg {A B B' : wx_S} {r : Nat} (g : rl_gV B B') (e : ∀ k, k < 90 → B' 236 (90 * r + k) = B 236 (90 * r + k)) (hP : rl_P A B r) (h : rl_U B r) : rl_U B' r := fun u v hu hv h1 h2 h3 h4 => by
  have g2 := g.2.1
  rw [e u (by omega)] at h1
  rw [e v (by omega)] at h2
  have low : ∀ x, x < B' 136 7 → 3 ≤ zn_ones (B 236 (90 * r + x)) → x < B 136 7 := fun x hx hq => Nat.lt_of_not_le (fun q => by
    rw [(hP x (by omega)).2.2 q] at hq
    exact absurd hq (by decide))
  have l1 := low u hu h1
  have l2 := low v hv h2
  rw [g.2.2 _ _ (by omega) l1, g.2.2 _ _ (by omega) l2] at h3 h4
  exact h u v l1 l2 h1 h2 h3 h4
theorem rl_W_rg {A B A' B' : wx_S} {r : Nat} (hV : zm_V B) (g : rl_gV B B') (eA : A' (84 + r) 3 = A (84 + r) 3) (eA2 : ∀ k, A' (96 + r) k = A (96 + r) k) (e : ∀ k, k < 60 → B' 228 (60 * r + k) = B 228 (60 * r + k)) (e3 : ∀ k, k < 90 → B' 236 (90 * r + k) = B 236 (90 * r + k)) (hP : rl_P A B r) (h : rl_W A B r) : rl_W A' B' r := by
  have g1 := g.1
  have g2 := g.2.1
  refine ⟨by rw [eA]; exact h.1, fun i hi => ?_, fun i j hi hj he => ?_, fun u hu => ?_⟩
  · rw [eA] at hi; rw [eA2]; exact Nat.lt_of_lt_of_le (h.2.1 i hi) g1
  · rw [eA] at hi hj; rw [eA2, eA2] at he; exact h.2.2.1 i j hi hj he
  · have key : (∃ i, i < A' (84 + r) 3 ∧ A' (96 + r) i = u) ↔ (∃ i, i < A (84 + r) 3 ∧ A (96 + r) i = u) := by
      rw [eA]
      constructor
      · rintro ⟨i, hi, q⟩; exact ⟨i, hi, by rw [← eA2]; exact q⟩
      · rintro ⟨i, hi, q⟩; exact ⟨i, hi, by rw [eA2]; exact q⟩
    rw [key, e3 u (by omega)]
    by_cases hl : u < B 136 7
    · have v := hV.2.2.1 u hl
      rw [g.2.2 _ _ (by omega) hl, g.2.2 _ _ (by omega) hl, show 60 * r + 4 * B 164 u + B 160 u = 60 * r + (4 * B 164 u + B 160 u) by omega, e _ (by omega), ← Nat.add_assoc]
      exact h.2.2.2 u hl
    · constructor
      · rintro ⟨i, hi, q⟩
        have := h.2.1 i hi
        omega
      · intro q
        rw [(hP u (by omega)).2.2 (by omega)] at q
        exact absurd q.1 (by decide)
theorem rl_P_rg {A B A' B' : wx_S} {r : Nat} (g : B 136 7 ≤ B' 136 7) (eA : ∀ c k, c = 88 + r ∨ c = 92 + r → A' c k = A c k) (e2 : ∀ k, k < 90 → B' 232 (90 * r + k) = B 232 (90 * r + k)) (e3 : ∀ k, k < 90 → B' 236 (90 * r + k) = B 236 (90 * r + k)) (h : rl_P A B r) : rl_P A' B' r := fun u hu => by
  have z := h u hu
  rw [eA _ _ (by omega), eA _ _ (by omega), e2 u hu, e3 u hu]
  exact ⟨z.1, z.2.1, fun q => z.2.2 (by omega)⟩
theorem rl_E_rg {A B A' B' : wx_S} {r : Nat} (eA : ∀ c k, c = 76 + r ∨ c = 80 + r → A' c k = A c k) (e : ∀ c k, c = 208 ∨ c = 212 → k < 60 → B' c (60 * r + k) = B c (60 * r + k)) (h : rl_E A B r) : rl_E A' B' r := fun a ha => by
  rw [eA _ _ (by omega), eA _ _ (by omega)]
  refine ⟨(h a ha).1, fun w h1 h2 => ?_⟩
  rw [Nat.add_assoc, e 208 _ (by omega) (by omega), e 212 _ (by omega) (by omega), ← Nat.add_assoc]
  exact (h a ha).2 w h1 h2
/-- transfers may have come to it, of other nodes -/
def rl_gQ (B B' : wx_S) (r : Nat) : Prop := B 136 1 ≤ B' 136 1 ∧ (∀ t, t < B 136 1 → B' 152 t = B 152 t ∧ (B 152 t = r → B' 156 t = B 156 t)) ∧ ∀ t, B 136 1 ≤ t → t < B' 136 1 → B' 152 t ≠ r
theorem rl_gQ_id {B B' : wx_S} {r : Nat} (e : ∀ c k, c = 136 ∨ c = 152 ∨ c = 156 → B' c k = B c k) : rl_gQ B B' r := ⟨by rw [e _ _ (by omega)]; exact Nat.le_refl _, fun t _ => ⟨e _ _ (by omega), fun _ => e _ _ (by omega)⟩, fun t h1 h2 => by rw [e _ _ (by omega)] at h2; omega⟩
theorem rl_Q_rg {A B A' B' : wx_S} {r : Nat} (g : rl_gQ B B' r) (eA : ∀ k, A' (72 + r) k = A (72 + r) k) (eA1 : A' (68 + r) 1 = A (68 + r) 1) (eA2 : A' (68 + r) 2 = A (68 + r) 2) (h : rl_Q A B r) : rl_Q A' B' r := by
  obtain ⟨h1, h2, h3, h4, h5⟩ := h
  have g1 := g.1
  unfold rl_Q
  simp only [eA1, eA2, eA]
  refine ⟨h1, fun i hi => ?_, h3, fun t ht hq => ?_, fun i hi => ?_⟩
  · have z := h2 i hi
    rw [(g.2.1 _ z.1).1]
    exact ⟨by omega, z.2⟩
  · have hl : t < B 136 1 := Nat.lt_of_not_le (fun q => g.2.2 t q ht hq)
    rw [(g.2.1 _ hl).1] at hq
    exact h4 t hl hq
  · have z := h2 i hi
    rw [(g.2.1 _ z.1).2 z.2]
    exact h5 i hi
