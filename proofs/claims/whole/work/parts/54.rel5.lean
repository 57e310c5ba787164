/-! which leader, which vertex -/
theorem rl_slot {A B : wx_S} {r w a : Nat} (hr : r < 4) (hD : rl_D A B r) (hd : zm_D B) (h9 : B 136 7 ≤ 90) (h1 : 1 ≤ w) (hw : w ≤ 14) (ha : a < 4) : A (104 + r) (w * 4 + a) ≠ 4294967295 ↔ B 228 (60 * r + 4 * w + a) ≠ 0 := by
  have g := rl_D_le hr hd hw ha
  rw [hD.1 w a h1 hw ha]
  split <;> omega
theorem rl_std {A B : wx_S} {r w : Nat} (hr : r < 4) (hV : rl_V A B) (hD : rl_D A B r) (hd : zm_D B) (h9 : B 136 7 ≤ 90) (hw : w ≤ 13) : ∀ i, i ≤ 4 → zc_std A r (w / 2 % 4) w i = zm_on B r w i
  | 0, _ => rfl
  | i + 1, hi => by
    have g := rl_D_le hr hd (show w + 1 ≤ 14 by omega) (show i < 4 by omega)
    rw [zc_std, zm_on, rl_std hr hV hD hd h9 hw i (by omega), hD.1 (w + 1) i (by omega) (by omega) (by omega), show 60 * r + 4 * (w + 1) + i = 60 * r + 4 * w + 4 + i by omega]
    rw [show 60 * r + 4 * (w + 1) + i = 60 * r + 4 * w + 4 + i by omega] at g
    by_cases h0 : B 228 (60 * r + 4 * w + 4 + i) = 0
    · rw [if_pos h0, if_neg (fun q => q.1 rfl), if_neg (fun q => q.1 h0)]
    · rw [if_neg h0, (hV.2 (B 228 (60 * r + 4 * w + 4 + i) - 1) (by omega)).2.2.1]
      by_cases hb : B 168 (B 228 (60 * r + 4 * w + 4 + i) - 1) / 2 ^ (w / 2 % 4) % 2 = 1
      · rw [if_pos ⟨by omega, hb⟩, if_pos ⟨h0, hb⟩]
      · rw [if_neg (fun q => hb q.2), if_neg (fun q => hb q.2)]
theorem rl_nrC {A B : wx_S} {r w : Nat} (hr : r < 4) (hV : rl_V A B) (hD : rl_D A B r) (hd : zm_D B) (h9 : B 136 7 ≤ 90) (h1 : 1 ≤ w) (hw : w ≤ 13) : zc_nrC A r w ↔ zm_cmC B r w := by
  rw [zc_nrC, zm_cmC, rl_std hr hV hD hd h9 hw 4 (Nat.le_refl _), rl_slot hr hD hd h9 h1 (by omega) (by omega)]
theorem rl_std14 {A B : wx_S} {r a : Nat} (hD : rl_D A B r) : ∀ i, i ≤ 4 → zc_std A r a 14 i = 0
  | 0, _ => rfl
  | i + 1, hi => by
    rw [zc_std, rl_std14 hD i (by omega), if_neg]
    intro q
    exact q.1 (hD.2.1 i (by omega))
theorem rl_nrF {A B : wx_S} {r : Nat} (hr : r < 4) (hV : rl_V A B) (hD : rl_D A B r) (hd : zm_D B) (h9 : B 136 7 ≤ 90) : ∀ n w, 1 ≤ w → w % 2 = 0 → zc_nrF A r w n = if zm_comF B r w n = 0 then 4294967295 else zm_comF B r w n
  | 0, w, _, _ => rfl
  | n + 1, w, h1, h2 => by
    rw [zc_nrF, zm_comF]
    by_cases h : 14 ≤ w
    · rw [if_pos h]
      show _ = 4294967295
      by_cases h14 : 14 < w
      · rw [if_pos h14]
      · have e : w = 14 := by omega
        subst e
        rw [if_neg h14, if_neg (fun q => by have z := q.2; rw [rl_std14 hD 4 (Nat.le_refl _)] at z; omega)]
        cases n with
        | zero => rfl
        | succ m => rw [zc_nrF, if_pos (by omega)]
    · rw [if_neg h, if_neg (by omega)]
      have hc := rl_nrC hr hV hD hd h9 h1 (show w ≤ 13 by omega)
      by_cases hn : zm_cmC B r w
      · rw [if_pos hn, if_pos (hc.mpr hn), if_neg (by omega)]
      · rw [if_neg hn, if_neg (fun q => hn (hc.mp q))]
        exact rl_nrF hr hV hD hd h9 n (w + 2) (by omega) (by omega)
theorem rl_nr {A B : wx_S} {r : Nat} (hr : r < 4) (hV : rl_V A B) (hD : rl_D A B r) (hd : zm_D B) (h9 : B 136 7 ≤ 90) (el : A (124 + r) 5 = B 224 r) (h2 : B 224 r % 2 = 0) : zc_nr A r = if zm_com B r = 0 then 4294967295 else zm_com B r := by
  rw [zc_nr, el]
  exact rl_nrF hr hV hD hd h9 8 _ (by omega) (by omega)
/-- what waits is what is delivered and not in the DAG -/
def rl_W (A B : wx_S) (r : Nat) : Prop := A (84 + r) 3 ≤ 90 ∧ (∀ i, i < A (84 + r) 3 → A (96 + r) i < B 136 7) ∧ (∀ i j, i < A (84 + r) 3 → j < A (84 + r) 3 → A (96 + r) i = A (96 + r) j → i = j) ∧ ∀ u, u < B 136 7 → ((∃ i, i < A (84 + r) 3 ∧ A (96 + r) i = u) ↔ (3 ≤ zn_ones (B 236 (90 * r + u)) ∧ B 228 (60 * r + 4 * B 164 u + B 160 u) ≠ u + 1))
/-- of one author and round one vertex is delivered -/
def rl_U (B : wx_S) (r : Nat) : Prop := ∀ u v, u < B 136 7 → v < B 136 7 → 3 ≤ zn_ones (B 236 (90 * r + u)) → 3 ≤ zn_ones (B 236 (90 * r + v)) → B 164 u = B 164 v → B 160 u = B 160 v → u = v
theorem rl_th0 (B : wx_S) (r : Nat) : ∀ i, zm_th B r 0 i = 0
  | 0 => rfl
  | i + 1 => by rw [zm_th, if_neg (fun q => absurd q.1 (by decide)), rl_th0 B r i]
theorem rl_set {A B : wx_S} {r w : Nat} (hD : rl_D A B r) (hw : w ≤ 14) : A (108 + r) w = zm_th B r w 4 := by
  by_cases h : w = 0
  · rw [h, rl_th0]; exact hD.2.2.2.1
  · exact hD.2.2.1 w (by omega) hw
theorem rl_wf {A B : wx_S} {u : Nat} (hV : rl_V A B) (hu : u < B 136 7) : zc_wf A u ↔ zm_wf B u := by
  have g := hV.2 u hu
  rw [zc_wf, zm_wf, g.2.1, g.2.2.1]
theorem rl_can {A B : wx_S} {r u : Nat} (hr : r < 4) (hV : rl_V A B) (hD : rl_D A B r) (hB : zm_ok B r) (hu : u < B 136 7) (h3 : 3 ≤ zn_ones (B 236 (90 * r + u))) : zc_can A r u ↔ zm_may B r u := by
  have g := hV.2 u hu
  have g2 := hB.1.2.2.1 u hu
  have h9 := hB.1.1
  have gs := rl_slot hr hD hB.2.1 hB.1.1 g2.2.1 g2.2.2.1 g2.1
  have gw := rl_wf hV hu
  rw [zc_can, zm_may, g.1, g.2.1, g.2.2.1, rl_set hD (w := B 164 u - 1) (by omega)]
  constructor
  · rintro ⟨a1, a2, a3⟩
    exact ⟨h3, Classical.byContradiction (fun q => gs.mpr q a2), gw.mp a1, a3⟩
  · rintro ⟨_, a2, a1, a3⟩
    exact ⟨gw.mpr a1, Classical.byContradiction (fun q => gs.mp q a2), a3⟩
theorem rl_nx_spec (A : wx_S) (r : Nat) : ∀ n, n ≤ 90 → (zc_nx A r n = 4294967295 ∧ ∀ i, i < n → ¬ zc_can A r (A (96 + r) i)) ∨ (zc_nx A r n < n ∧ zc_can A r (A (96 + r) (zc_nx A r n)) ∧ ∀ i, i < n → zc_can A r (A (96 + r) i) → zc_key A (A (96 + r) (zc_nx A r n)) ≤ zc_key A (A (96 + r) i))
  | 0, _ => Or.inl ⟨rfl, fun i hi => absurd hi (by omega)⟩
  | n + 1, hn => by
    rw [zc_nx]
    rcases rl_nx_spec A r n (by omega) with ⟨e, f⟩ | ⟨e, f, g⟩
    · by_cases hc : zc_can A r (A (96 + r) n)
      · rw [if_pos ⟨hc, Or.inl e⟩]
        refine Or.inr ⟨by omega, hc, fun i hi h => ?_⟩
        by_cases hi2 : i = n
        · rw [hi2]; exact Nat.le_refl _
        · exact absurd h (f i (by omega))
      · rw [if_neg (fun q => hc q.1)]
        refine Or.inl ⟨e, fun i hi => ?_⟩
        by_cases hi2 : i = n
        · rw [hi2]; exact hc
        · exact f i (by omega)
    · by_cases hc : zc_can A r (A (96 + r) n) ∧ zc_key A (A (96 + r) n) < zc_key A (A (96 + r) (zc_nx A r n))
      · rw [if_pos ⟨hc.1, Or.inr hc.2⟩]
        refine Or.inr ⟨by omega, hc.1, fun i hi h => ?_⟩
        by_cases hi2 : i = n
        · rw [hi2]; exact Nat.le_refl _
        · exact Nat.le_trans (Nat.le_of_lt hc.2) (g i (by omega) h)
      · rw [if_neg (fun q => hc ⟨q.1, q.2.resolve_left (by omega)⟩)]
        refine Or.inr ⟨by omega, f, fun i hi h => ?_⟩
        by_cases hi2 : i = n
        · rw [hi2] at h ⊢; exact Nat.not_lt.mp (fun q => hc ⟨h, q⟩)
        · exact g i (by omega) h
abbrev rl_key (B : wx_S) (u : Nat) : Nat := 4 * B 164 u + B 160 u
theorem rl_ins_spec (B : wx_S) (r : Nat) : ∀ n, n ≤ 90 → (zm_ins B r n = 4294967295 ∧ ∀ i, i < n → ¬ zm_may B r i) ∨ (zm_ins B r n < n ∧ zm_may B r (zm_ins B r n) ∧ ∀ i, i < n → zm_may B r i → rl_key B (zm_ins B r n) ≤ rl_key B i)
  | 0, _ => Or.inl ⟨rfl, fun i hi => absurd hi (by omega)⟩
  | n + 1, hn => by
    rw [zm_ins]
    rcases rl_ins_spec B r n (by omega) with ⟨e, f⟩ | ⟨e, f, g⟩
    · by_cases hc : zm_may B r n
      · rw [if_pos ⟨hc, Or.inl e⟩]
        refine Or.inr ⟨by omega, hc, fun i hi h => ?_⟩
        by_cases hi2 : i = n
        · rw [hi2]; exact Nat.le_refl _
        · exact absurd h (f i (by omega))
      · rw [if_neg (fun q => hc q.1)]
        refine Or.inl ⟨e, fun i hi => ?_⟩
        by_cases hi2 : i = n
        · rw [hi2]; exact hc
        · exact f i (by omega)
    · by_cases hc : zm_may B r n ∧ rl_key B n < rl_key B (zm_ins B r n)
      · rw [if_pos ⟨hc.1, Or.inr hc.2⟩]
        refine Or.inr ⟨by omega, hc.1, fun i hi h => ?_⟩
        by_cases hi2 : i = n
        · rw [hi2]; exact Nat.le_refl _
        · exact Nat.le_trans (Nat.le_of_lt hc.2) (g i (by omega) h)
      · rw [if_neg (fun q => hc ⟨q.1, q.2.resolve_left (by omega)⟩)]
        refine Or.inr ⟨by omega, f, fun i hi h => ?_⟩
        by_cases hi2 : i = n
        · rw [hi2] at h ⊢; exact Nat.not_lt.mp (fun q => hc ⟨h, q⟩)
        · exact g i (by omega) h
/-- both choose alike -/
theorem rl_pick {A B : wx_S} {r : Nat} (hr : r < 4) (hV : rl_V A B) (hD : rl_D A B r) (hB : zm_ok B r) (hW : rl_W A B r) (hU : rl_U B r) : (zc_nx A r (A (84 + r) 3) = 4294967295 ∧ zm_ins B r (B 136 7) = 4294967295) ∨ (zc_nx A r (A (84 + r) 3) < A (84 + r) 3 ∧ zm_ins B r (B 136 7) < B 136 7 ∧ A (96 + r) (zc_nx A r (A (84 + r) 3)) = zm_ins B r (B 136 7) ∧ zm_may B r (zm_ins B r (B 136 7))) := by
  obtain ⟨w1, w2, w3, w4⟩ := hW
  have h9 : B 136 7 ≤ 90 := hB.1.1
  have in1 : ∀ i, i < A (84 + r) 3 → zc_can A r (A (96 + r) i) → zm_may B r (A (96 + r) i) := fun i hi hc =>
    (rl_can hr hV hD hB (w2 i hi) ((w4 _ (w2 i hi)).mp ⟨i, hi, rfl⟩).1).mp hc
  have in2 : ∀ u, u < B 136 7 → zm_may B r u → ∃ i, i < A (84 + r) 3 ∧ A (96 + r) i = u ∧ zc_can A r (A (96 + r) i) := fun u hu hm => by
    obtain ⟨i, hi, e⟩ := (w4 u hu).mpr ⟨hm.1, by rw [hm.2.1]; omega⟩
    exact ⟨i, hi, e, by rw [e]; exact (rl_can hr hV hD hB hu hm.1).mpr hm⟩
  rcases rl_nx_spec A r (A (84 + r) 3) w1 with ⟨e, f⟩ | ⟨e, f, g⟩
  · rcases rl_ins_spec B r (B 136 7) h9 with ⟨e', f'⟩ | ⟨e', f', g'⟩
    · exact Or.inl ⟨e, e'⟩
    · obtain ⟨i, hi, _, hc⟩ := in2 _ e' f'
      exact absurd hc (f i hi)
  · rcases rl_ins_spec B r (B 136 7) h9 with ⟨e', f'⟩ | ⟨e', f', g'⟩
    · exact absurd (in1 _ e f) (f' _ (w2 _ e))
    · refine Or.inr ⟨e, e', ?_, f'⟩
      obtain ⟨i, hi, ei, hc⟩ := in2 _ e' f'
      have m1 := in1 _ e f
      have k1 := g i hi hc
      have k2 := g' _ (w2 _ e) m1
      rw [ei] at k1
      have v1 := hV.2 _ (w2 _ e)
      have v2 := hV.2 _ e'
      have b1 := hB.1.2.2.1 _ (w2 _ e)
      have b2 := hB.1.2.2.1 _ e'
      rw [zc_key, zc_key, v1.1, v1.2.1, v2.1, v2.2.1] at k1
      rw [rl_key, rl_key] at k2
      exact hU _ _ (w2 _ e) e' m1.1 f'.1 (by omega) (by omega)
