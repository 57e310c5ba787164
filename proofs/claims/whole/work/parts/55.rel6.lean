/-! a vertex is put into the DAG -/
theorem zn_eqb {x y : Nat} (h : ∀ k, x / 2 ^ k % 2 = 1 ↔ y / 2 ^ k % 2 = 1) : x = y := by
  refine Nat.eq_of_testBit_eq (fun k => ?_)
  have g := h k
  rw [zn_tb, zn_tb] at g
  exact Bool.eq_iff_iff.mpr g
theorem rl_th_bit (B : wx_S) (r w b : Nat) : ∀ i, zm_th B r w i / 2 ^ b % 2 = 1 ↔ b < i ∧ 0 < w ∧ B 228 (60 * r + 4 * w + b) ≠ 0
  | 0 => by rw [zm_th, Nat.zero_div]; omega
  | i + 1 => by
    have ih := rl_th_bit B r w b i
    rw [zm_th]
    by_cases h : 0 < w ∧ B 228 (60 * r + 4 * w + i) ≠ 0
    · rw [if_pos h, zn_or_bit]
      by_cases hb : b = i
      · subst hb
        rw [if_pos rfl]
        exact ⟨fun _ => ⟨by omega, h⟩, fun _ => rfl⟩
      · rw [if_neg hb, ih]
        exact ⟨fun z => ⟨by omega, z.2⟩, fun z => ⟨by omega, z.2⟩⟩
    · rw [if_neg h, ih]
      constructor
      · exact fun z => ⟨by omega, z.2⟩
      · intro z
        refine ⟨?_, z.2⟩
        by_cases hb : b = i
        · subst hb; exact absurd z.2 h
        · omega
theorem rl_th_u {B : wx_S} {r w a x : Nat} (hx : x ≠ 0) (h1 : 1 ≤ w) (ha : a < 4) (w' : Nat) : zm_th (wx_u B 228 (60 * r + 4 * w + a) x) r w' 4 = if w' = w then zm_th B r w 4 ||| 2 ^ a else zm_th B r w' 4 := by
  refine zn_eqb (fun k => ?_)
  rw [rl_th_bit]
  by_cases hw : w' = w
  · subst hw
    rw [if_pos rfl, zn_or_bit]
    by_cases hk : k = a
    · subst hk
      rw [if_pos rfl, wx_u_eq]
      exact ⟨fun _ => rfl, fun _ => ⟨ha, by omega, hx⟩⟩
    · rw [if_neg hk, rl_th_bit, wx_u_nk (by omega)]
  · rw [if_neg hw, rl_th_bit]
    by_cases hk : k < 4
    · rw [wx_u_nk (by omega)]
    · exact ⟨fun z => absurd z.1 hk, fun z => absurd z.1 hk⟩
theorem zn_ones_or : ∀ x, x < 16 → ∀ a, a < 4 → ¬ x / 2 ^ a % 2 = 1 → zn_ones (x ||| 2 ^ a) = zn_ones x + 1 := by decide +kernel
theorem rl_sz_u {B : wx_S} {r w a x : Nat} (hx : x ≠ 0) (h1 : 1 ≤ w) (ha : a < 4) (h0 : B 228 (60 * r + 4 * w + a) = 0) : ∀ n, zm_sz (wx_u B 228 (60 * r + 4 * w + a) x) r n = zm_sz B r n + if w < n then 1 else 0
  | 0 => by rw [zm_sz, zm_sz, if_neg (by omega)]
  | n + 1 => by
    rw [zm_sz, zm_sz, rl_sz_u hx h1 ha h0 n, rl_th_u hx h1 ha]
    by_cases hn : n = 0
    · rw [if_pos hn, if_pos hn, if_neg (by omega)]
    · rw [if_neg hn, if_neg hn]
      by_cases hw : n = w
      · subst hw
        rw [if_pos rfl, if_neg (by omega), if_pos (by omega), zn_ones_or _ (zm_th_lt B r n 4 (Nat.le_refl _)) a ha (fun q => ((rl_th_bit B r n a 4).mp q).2.2 h0)]
        omega
      · rw [if_neg hw]
        by_cases h : w < n
        · rw [if_pos h, if_pos (by omega)]; omega
        · rw [if_neg h, if_neg (by omega)]; omega
/-- a flag of what is put out stands for a vertex of the DAG -/
def rl_Z (B : wx_S) (r : Nat) : Prop := ∀ u, u < 90 → B 240 (90 * r + u) ≠ 0 → u < B 136 7 ∧ B 228 (60 * r + 4 * B 164 u + B 160 u) = u + 1
abbrev rl_nB (B : wx_S) (r u : Nat) : wx_S := wx_u B 228 (60 * r + 4 * B 164 u + B 160 u) (u + 1)
theorem rl_insD {A B : wx_S} {r i u : Nat} (hr : r < 4) (hV : rl_V A B) (hB : zm_ok B r) (hD : rl_D A B r) (hu : u < B 136 7) (eu : A (96 + r) i = u) (h0 : B 228 (60 * r + 4 * B 164 u + B 160 u) = 0) : rl_D (zc_ins A r i) (rl_nB B r u) r := by
  have g := hV.2 u hu
  have g2 := hB.1.2.2.1 u hu
  have h9 := hB.1.1
  unfold zc_ins zc_insert rl_nB
  rw [eu, g.1, g.2.1]
  generalize B 164 u = w at *
  generalize B 160 u = a at *
  refine ⟨fun w' a' h1 h2 h3 => ?_, fun a' h1 => ?_, fun w' h1 h2 => ?_, ?_, ?_⟩
  · rw [wx_u_nc (by omega), wx_u_nc (by omega), wx_u_nc (by omega), wx_u_nc (by omega)]
    by_cases he : w' = w ∧ a' = a
    · rw [he.1, he.2, wx_u_eq, wx_u_eq, if_neg (by omega)]; omega
    · rw [wx_u_nk (by omega), wx_u_nk (by omega)]
      exact hD.1 w' a' h1 h2 h3
  · rw [wx_u_nc (by omega), wx_u_nc (by omega), wx_u_nc (by omega), wx_u_nc (by omega), wx_u_nk (by omega)]
    exact hD.2.1 a' h1
  · rw [wx_u_nc (by omega), wx_u_nc (by omega), wx_u_nc (by omega), rl_th_u (by omega) g2.2.1 g2.1]
    by_cases he : w' = w
    · subst he
      rw [wx_u_eq, if_pos rfl, hD.2.2.1 w' h1 h2]
    · rw [wx_u_nk he, if_neg he, wx_u_nc (by omega)]
      exact hD.2.2.1 w' h1 h2
  · rw [wx_u_nc (by omega), wx_u_nc (by omega), wx_u_nc (by omega), wx_u_nk (by omega), wx_u_nc (by omega)]
    exact hD.2.2.2.1
  · rw [wx_u_nc (by omega), wx_u_nc (by omega), wx_u_eq, rl_sz_u (by omega) g2.2.1 g2.1 h0, if_pos (by omega), hD.2.2.2.2]
theorem rl_insI {B : wx_S} {r u : Nat} (hI : rl_I B r) (ha : B 160 u < 4) : rl_I (rl_nB B r u) r := fun w a h1 h2 h3 h4 => by
  unfold rl_nB at *
  rw [wx_u_nc (c' := 164) (by decide), wx_u_nc (c' := 160) (by decide)]
  by_cases he : w = B 164 u ∧ a = B 160 u
  · rw [he.1, he.2, wx_u_eq, Nat.add_sub_cancel]
    exact ⟨rfl, rfl⟩
  · rw [wx_u_nk (by omega)] at h4 ⊢
    exact hI w a h1 h2 h3 h4
theorem rl_insK {A A' B : wx_S} {r u : Nat} (hK : rl_K A B r) (hZ : rl_Z B r) (hu : u < 90) (ha : B 160 u < 4) (h0 : B 228 (60 * r + 4 * B 164 u + B 160 u) = 0) (eA : ∀ k, A' (128 + r) k = A (128 + r) k) : rl_K A' (rl_nB B r u) r := fun w a h1 h2 h3 => by
  have g := hK w a h1 h2 h3
  unfold rl_nB
  rw [eA, wx_u_nc (c' := 240) (by decide)]
  by_cases he : w = B 164 u ∧ a = B 160 u
  · rw [he.1, he.2] at g ⊢
    rw [wx_u_eq, Nat.add_sub_cancel, g]
    constructor
    · exact fun q => absurd h0 q.1
    · intro q
      have z := (hZ u hu q.2).2
      omega
  · rw [wx_u_nk (by omega)]
    exact g
theorem rl_insZ {B : wx_S} {r u : Nat} (hZ : rl_Z B r) (h0 : B 228 (60 * r + 4 * B 164 u + B 160 u) = 0) : rl_Z (rl_nB B r u) r := fun v hv hf => by
  unfold rl_nB at *
  rw [wx_u_nc (by decide)] at hf
  have z := hZ v hv hf
  rw [wx_u_nc (c' := 136) (by decide), wx_u_nc (c' := 164) (by decide), wx_u_nc (c' := 160) (by decide)]
  refine ⟨z.1, ?_⟩
  by_cases he : 60 * r + 4 * B 164 v + B 160 v = 60 * r + 4 * B 164 u + B 160 u
  · have := z.2
    rw [he, h0] at this
    omega
  · rw [wx_u_nk he]; exact z.2
theorem rl_insC {B : wx_S} {r u : Nat} (hC : zm_C B r) (hm : zm_may B r u) (ha : B 160 u < 4) (hp : B 168 u < 16) : zm_C (rl_nB B r u) r := fun w h1 h2 a h3 h4 b h5 h6 => by
  unfold rl_nB at *
  rw [wx_u_nc (c' := 168) (by decide)] at h6
  have big : ∀ k, B 228 k ≠ 0 → wx_u B 228 (60 * r + 4 * B 164 u + B 160 u) (u + 1) 228 k ≠ 0 := fun k hk => by
    by_cases e : k = 60 * r + 4 * B 164 u + B 160 u
    · rw [e, wx_u_eq]; omega
    · rw [wx_u_nk e]; exact hk
  by_cases he : w = B 164 u ∧ a = B 160 u
  · rw [he.1, he.2, wx_u_eq, Nat.add_sub_cancel] at h6
    refine big _ ?_
    have q := hm.2.2.2
    have hb : ¬ (B 168 u &&& (zm_th B r (B 164 u - 1) 4 ^^^ 4294967295)) / 2 ^ b % 2 = 1 := by rw [q, Nat.zero_div]; omega
    rw [rl_andn _ _ _ (by omega)] at hb
    have hb2 : zm_th B r (B 164 u - 1) 4 / 2 ^ b % 2 = 1 := Classical.byContradiction (fun z => hb ⟨h6, z⟩)
    have := (rl_th_bit B r (B 164 u - 1) b 4).mp hb2
    rw [he.1]
    exact this.2.2
  · rw [wx_u_nk (by omega)] at h4 h6
    exact big _ (hC w h1 h2 a h3 h4 b h5 h6)
theorem rl_insOk {B : wx_S} {r u : Nat} (h : zm_ok B r) (hu : u < B 136 7) : zm_ok (rl_nB B r u) r := by
  unfold rl_nB
  refine ⟨zm_V_ext (fun c k hc => wx_u_nc (by omega)) h.1, fun k hk => ?_, zm_B_ext (wx_u_nc (by decide)) (fun k _ => wx_u_nc (by decide)) (fun a _ => wx_u_nc (by decide)) h.2.2.1, fun k hk => by rw [wx_u_nc (by decide)]; exact h.2.2.2 k hk⟩
  rw [wx_u_nc (c' := 136) (by decide)]
  by_cases e : k = 60 * r + 4 * B 164 u + B 160 u
  · rw [e, wx_u_eq]; omega
  · rw [wx_u_nk e]; exact h.2.1 k hk
theorem rl_insW {A B : wx_S} {r i u : Nat} (hr : r < 4) (hW : rl_W A B r) (hi : i < A (84 + r) 3) (eu : A (96 + r) i = u) (h0 : B 228 (60 * r + 4 * B 164 u + B 160 u) = 0) : rl_W (zc_ins A r i) (rl_nB B r u) r := by
  have hr' := hr
  obtain ⟨w1, w2, w3, w4⟩ := hW
  have en : zc_ins A r i (84 + r) 3 = A (84 + r) 3 - 1 := by rw [zc_ins, wx_u_nc (by omega), wx_u_eq]
  have ej : ∀ j, zc_ins A r i (96 + r) j = A (96 + r) (if j = i then A (84 + r) 3 - 1 else j) := fun j => by
    rw [zc_ins]
    by_cases h : j = i
    · rw [h, wx_u_eq, if_pos rfl]
    · rw [wx_u_nk h, if_neg h, wx_u_nc (by omega), zc_insert_oth _ _ _ _ (by omega) (by omega) (by omega)]
  have e1 : ∀ v, rl_nB B r u 136 v = B 136 v := fun v => wx_u_nc (by decide)
  refine ⟨by omega, fun j hj => ?_, fun j k hj hk he => ?_, fun v hv => ?_⟩
  · rw [ej, e1]
    exact w2 _ (by split <;> omega)
  · rw [ej, ej] at he
    have := w3 _ _ (by split <;> omega) (by split <;> omega) he
    split at this <;> split at this <;> omega
  · rw [e1] at hv
    rw [show rl_nB B r u 236 (90 * r + v) = B 236 (90 * r + v) from wx_u_nc (by decide), show rl_nB B r u 164 v = B 164 v from wx_u_nc (by decide), show rl_nB B r u 160 v = B 160 v from wx_u_nc (by decide)]
    have key : (∃ j, j < zc_ins A r i (84 + r) 3 ∧ zc_ins A r i (96 + r) j = v) ↔ (∃ j, j < A (84 + r) 3 ∧ A (96 + r) j = v) ∧ v ≠ u := by
      constructor
      · rintro ⟨j, hj, e⟩
        rw [ej] at e
        rw [en] at hj
        refine ⟨⟨_, by split <;> omega, e⟩, fun q => ?_⟩
        rw [q, ← eu] at e
        have := w3 _ _ (by split <;> omega) hi e
        split at this <;> omega
      · rintro ⟨⟨j, hj, e⟩, hn⟩
        clear w4
        have hji : j ≠ i := fun q => hn (by rw [← e, q, eu])
        by_cases hl : j = A (84 + r) 3 - 1
        · exact ⟨i, by omega, by rw [ej, if_pos rfl, ← hl]; exact e⟩
        · exact ⟨j, by omega, by rw [ej, if_neg hji]; exact e⟩
    rw [key, w4 v hv]
    unfold rl_nB
    by_cases hvu : v = u
    · subst hvu
      rw [wx_u_eq]
      exact ⟨fun q => absurd rfl q.2, fun q => absurd rfl q.2⟩
    · by_cases he : 60 * r + 4 * B 164 v + B 160 v = 60 * r + 4 * B 164 u + B 160 u
      · rw [he, wx_u_eq, h0]
        exact ⟨fun q => ⟨q.1.1, by omega⟩, fun q => ⟨⟨q.1, by omega⟩, hvu⟩⟩
      · rw [wx_u_nk he]
        exact ⟨fun q => q.1, fun q => ⟨q, hvu⟩⟩
