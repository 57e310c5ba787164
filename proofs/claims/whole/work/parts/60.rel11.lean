/-! a node goes down -/
theorem zc_gd_oth (A : wx_S) (r : Nat) {c : Nat} (k : Nat) (h1 : c ≠ 64 + r) (h2 : c ≠ 84 + r) (h3 : c ≠ 88 + r) (h4 : c ≠ 92 + r) (h5 : c ≠ 100 + r) (h6 : c ≠ 104 + r) (h7 : c ≠ 108 + r) (h8 : c ≠ 112 + r) (h9 : c ≠ 120 + r) (h10 : c ≠ 124 + r) (h11 : c ≠ 128 + r) : zc_goDown A r c k = A c k := by
  simp [zc_goDown, wx_u, zz_fill, h1, h2, h3, h4, h5, h6, h7, h8, h9, h10, h11]
theorem zc_gd_64 (A : wx_S) (r k : Nat) : zc_goDown A r (64 + r) k = if k = 8 ∨ k = 9 ∨ k = 10 ∨ k = 11 then 0 else A (64 + r) k := by
  by_cases h8 : k = 8
  · simp [zc_goDown, wx_u, zz_fill, h8]
  · by_cases h9 : k = 9
    · simp [zc_goDown, wx_u, zz_fill, h9]
    · by_cases h10 : k = 10
      · simp [zc_goDown, wx_u, zz_fill, h10]
      · by_cases h11 : k = 11
        · simp [zc_goDown, wx_u, zz_fill, h11]
        · simp [zc_goDown, wx_u, zz_fill, h8, h9, h10, h11]
theorem zc_gd_0 (A : wx_S) (r : Nat) : zc_goDown A r (84 + r) 3 = 0 ∧ zc_goDown A r (100 + r) 3 = 0 ∧ zc_goDown A r (124 + r) 5 = 0 ∧ zc_goDown A r (112 + r) 2 = 0 ∧ zc_goDown A r (112 + r) 3 = 0 := by
  simp [zc_goDown, wx_u, zz_fill]
theorem zc_gd_f (A : wx_S) (r : Nat) : (∀ u, u < 90 → zc_goDown A r (88 + r) u = 0 ∧ zc_goDown A r (92 + r) u = 0) ∧ (∀ k, k < 64 → zc_goDown A r (104 + r) k = 4294967295) ∧ (∀ k, k < 16 → zc_goDown A r (108 + r) k = 0) ∧ (∀ k, k < 15 → zc_goDown A r (128 + r) k = 0) ∧ ∀ k, k < 4 → zc_goDown A r (120 + r) k = 0 := by
  refine ⟨fun u hu => ?_, fun k hk => ?_, fun k hk => ?_, fun k hk => ?_, fun k hk => ?_⟩
  · simp [zc_goDown, wx_u, zz_fill, hu]
  · simp [zc_goDown, wx_u, zz_fill, hk]
  · simp [zc_goDown, wx_u, zz_fill, hk]
  · simp [zc_goDown, wx_u, zz_fill, hk]
  · simp [zc_goDown, wx_u, zz_fill, hk]
theorem zm_fa_oth (B : wx_S) (r : Nat) {c : Nat} (k : Nat) (h1 : c ≠ 192) (h2 : c ≠ 200) (h3 : c ≠ 216) (h4 : c ≠ 220) (h5 : c ≠ 224) (h6 : c ≠ 248) (h7 : c ≠ 228) (h8 : c ≠ 232) (h9 : c ≠ 236) (h10 : c ≠ 240) (h11 : c ≠ 252) : zm_fall B r c k = B c k := by
  simp [zm_fall, zm_fresh, wx_u, zz_fr, h1, h2, h3, h4, h5, h6, h7, h8, h9, h10, h11]
theorem zm_fa_1 (B : wx_S) (r s : Nat) : zm_fall B r 192 s = (if s = r then 0 else B 192 s) ∧ zm_fall B r 200 s = (if s = r then 4294967295 else B 200 s) ∧ zm_fall B r 216 s = (if s = r then 0 else B 216 s) ∧ zm_fall B r 220 s = (if s = r then 0 else B 220 s) ∧ zm_fall B r 224 s = (if s = r then 0 else B 224 s) ∧ zm_fall B r 248 s = (if s = r then 0 else B 248 s) := by
  by_cases h : s = r
  · simp [zm_fall, zm_fresh, wx_u, zz_fr, h]
  · simp [zm_fall, zm_fresh, wx_u, zz_fr, h]
theorem zm_fa_2 (B : wx_S) (r k : Nat) : zm_fall B r 228 k = (if 60 * r ≤ k ∧ k < 60 * r + 60 then 0 else B 228 k) ∧ zm_fall B r 232 k = (if 90 * r ≤ k ∧ k < 90 * r + 90 then 0 else B 232 k) ∧ zm_fall B r 236 k = (if 90 * r ≤ k ∧ k < 90 * r + 90 then 0 else B 236 k) ∧ zm_fall B r 240 k = (if 90 * r ≤ k ∧ k < 90 * r + 90 then 0 else B 240 k) ∧ zm_fall B r 252 k = (if 4 * r ≤ k ∧ k < 4 * r + 4 then 100 else B 252 k) := by
  simp [zm_fall, zm_fresh, wx_u, zz_fr]
theorem rl_H_x {B B' : wx_S} (e : ∀ c k, c = 136 ∨ c = 188 ∨ c = 180 ∨ c = 184 ∨ c = 212 ∨ c = 164 ∨ c = 160 ∨ c = 204 → B' c k = B c k) (h2 : ∀ q, B' 192 q ≠ 2 → B 192 q ≠ 2) (h9 : B 136 7 ≤ 90) (h6 : ∀ r u q, r < 4 → u < 90 → q < 4 → B' 236 (90 * r + u) / 2 ^ q % 2 = 1 → B 236 (90 * r + u) / 2 ^ q % 2 = 1) (h : rl_H B) : rl_H B' := by
  have e1 : ∀ k, B' 136 k = B 136 k := fun k => e _ _ (by omega)
  have e2 : ∀ k, B' 188 k = B 188 k := fun k => e _ _ (by omega)
  have e3 : ∀ k, B' 180 k = B 180 k := fun k => e _ _ (by omega)
  have e4 : ∀ k, B' 184 k = B 184 k := fun k => e _ _ (by omega)
  have e7 : ∀ k, B' 212 k = B 212 k := fun k => e _ _ (by omega)
  have e8 : ∀ k, B' 164 k = B 164 k := fun k => e _ _ (by omega)
  have e9 : ∀ k, B' 160 k = B 160 k := fun k => e _ _ (by omega)
  have e0 : ∀ k, B' 204 k = B 204 k := fun k => e _ _ (by omega)
  unfold rl_H
  simp only [e1, e2, e3, e4, e7, e8, e9, e0]
  exact ⟨h.1, fun r u q hr hu hq hb => h.2.1 r u q hr hu hq (h6 r u q hr (by omega) hq hb), fun m hm hk hq => h.2.2.1 m hm hk (h2 _ hq), fun m m' a1 a2 a3 a4 a5 a6 a7 a8 => h.2.2.2.1 m m' a1 a2 a3 a4 a5 (h2 _ a6) a7 a8, fun u hu hq => h.2.2.2.2 u hu (h2 _ hq)⟩
theorem rl_th_z {B : wx_S} {r w : Nat} (hw : w ≤ 14) (e : ∀ k, k < 60 → B 228 (60 * r + k) = 0) : zm_th B r w 4 = 0 := by
  refine zn_eqb (fun k => ?_)
  rw [rl_th_bit, Nat.zero_div]
  constructor
  · rintro ⟨h1, _, h3⟩
    rw [Nat.add_assoc] at h3
    exact absurd (e _ (by omega)) h3
  · intro q; omega
theorem rl_sz_z {B : wx_S} {r : Nat} (e : ∀ k, k < 60 → B 228 (60 * r + k) = 0) : ∀ n, n ≤ 15 → zm_sz B r n = 0
  | 0, _ => rfl
  | n + 1, hn => by
    rw [zm_sz, rl_sz_z e n (by omega), rl_th_z (by omega) e]
    split <;> rfl
theorem zn_pop0 : ∀ k, zn_pop 0 k = 0
  | 0 => rfl
  | k + 1 => by rw [zn_pop, zn_pop0 k, Nat.zero_div]
/-- a fresh book, DAG and notes -/
theorem rl_sFall {A B : wx_S} {r : Nat} (hr : r < 4) (h : rl_R A B) (hup : B 192 r ≠ 2) : rl_R (zc_goDown A r) (zm_fall B r) := by
  have ok := rl_Gok h hr
  have h90 : B 136 7 ≤ 90 := ok.1.1
  have eA : ∀ {c : Nat} (k : Nat), c ≠ 64 + r → c ≠ 84 + r → c ≠ 88 + r → c ≠ 92 + r → c ≠ 100 + r → c ≠ 104 + r → c ≠ 108 + r → c ≠ 112 + r → c ≠ 120 + r → c ≠ 124 + r → c ≠ 128 + r → zc_goDown A r c k = A c k := fun k a1 a2 a3 a4 a5 a6 a7 a8 a9 a10 a11 => zc_gd_oth A r k a1 a2 a3 a4 a5 a6 a7 a8 a9 a10 a11
  have eB : ∀ {c : Nat} (k : Nat), c = 136 ∨ c = 140 ∨ c = 144 ∨ c = 148 ∨ c = 152 ∨ c = 156 ∨ c = 160 ∨ c = 164 ∨ c = 168 ∨ c = 172 ∨ c = 176 ∨ c = 180 ∨ c = 184 ∨ c = 188 ∨ c = 196 ∨ c = 204 ∨ c = 208 ∨ c = 212 ∨ c = 244 → zm_fall B r c k = B c k := fun k hc => zm_fa_oth B r k (by omega) (by omega) (by omega) (by omega) (by omega) (by omega) (by omega) (by omega) (by omega) (by omega) (by omega)
  have f1 := zm_fa_1 B r
  have f2 := zm_fa_2 B r
  have e228 : ∀ k, k < 60 → zm_fall B r 228 (60 * r + k) = 0 := fun k hk => by rw [(f2 _).1, if_pos (by omega)]
  have e232 : ∀ k, k < 90 → zm_fall B r 232 (90 * r + k) = 0 := fun k hk => by rw [(f2 _).2.1, if_pos (by omega)]
  have e236 : ∀ k, k < 90 → zm_fall B r 236 (90 * r + k) = 0 := fun k hk => by rw [(f2 _).2.2.1, if_pos (by omega)]
  have e240 : ∀ k, k < 90 → zm_fall B r 240 (90 * r + k) = 0 := fun k hk => by rw [(f2 _).2.2.2.1, if_pos (by omega)]
  have e252 : ∀ k, k < 4 → zm_fall B r 252 (4 * r + k) = 100 := fun k hk => by rw [(f2 _).2.2.2.2, if_pos (by omega)]
  have g : rl_gV B (zm_fall B r) := rl_gV_id h90 (fun c k hc => eB k (by omega))
  obtain ⟨G1, G2, G3, G4, G5, G6, G7, G8, G9⟩ := h.1
  have h192 : ∀ q, zm_fall B r 192 q ≠ 2 → B 192 q ≠ 2 := fun q hq => by
    rw [(f1 q).1] at hq
    by_cases hqr : q = r
    · rw [hqr]; exact hup
    · rw [if_neg hqr] at hq; exact hq
  refine ⟨⟨rl_T_ext (fun c k hc => eA k (by omega) (by omega) (by omega) (by omega) (by omega) (by omega) (by omega) (by omega) (by omega) (by omega) (by omega)) (fun c k hc => eB k (by omega)) G1, rl_V_ext (fun c k _ hc => eA k (by omega) (by omega) (by omega) (by omega) (by omega) (by omega) (by omega) (by omega) (by omega) (by omega) (by omega)) (fun c k hc => ?_) G2, rl_M_ext (fun c k _ hc => eA k (by omega) (by omega) (by omega) (by omega) (by omega) (by omega) (by omega) (by omega) (by omega) (by omega) (by omega)) (fun c k hc => ?_) G3, ?_, zm_V_ext (fun c k hc => eB k (by omega)) G5, fun k hk => ?_, fun k hk => ?_, fun t ht => by rw [eB _ (by omega), eB _ (by omega), eB _ (by omega)]; exact G8 t ht, rl_H_x (fun c k hc => eB k (by omega)) h192 h90 (fun s u q _ hu _ hb => ?_) G9⟩, fun s hs => ?_⟩
  · exact zm_fa_oth B r k (by omega) (by omega) (by omega) (by omega) (by omega) (by omega) (by omega) (by omega) (by omega) (by omega) (by omega)
  · exact zm_fa_oth B r k (by omega) (by omega) (by omega) (by omega) (by omega) (by omega) (by omega) (by omega) (by omega) (by omega) (by omega)
  · have n2 : ∀ s, zm_fall B r 192 s = 2 ↔ B 192 s = 2 := fun s => by
      rw [(f1 s).1]
      by_cases hsr : s = r
      · rw [if_pos hsr, hsr]; exact ⟨fun q => absurd q (by decide), fun q => absurd q hup⟩
      · rw [if_neg hsr]
    unfold rl_F
    rw [eA _ (by omega) (by omega) (by omega) (by omega) (by omega) (by omega) (by omega) (by omega) (by omega) (by omega) (by omega)]
    simp only [ne_eq, n2]
    exact G4
  · rw [(f2 k).1, eB _ (by omega)]
    split
    · omega
    · exact G6 k hk
  · rw [(f2 k).2.2.2.1]
    split
    · decide
    · exact G7 k hk
  · rw [(f2 _).2.2.1] at hb
    split at hb
    · rw [Nat.zero_div] at hb; omega
    · exact hb
  · by_cases hsr : s = r
    · subst hsr
      obtain ⟨⟨h1, h2, h3, h4, h5, h6, h7, h8, ⟨h9, h10, h11, h12⟩, h13⟩, hY⟩ := h.2 s hr
      have z0 := zc_gd_0 A s
      have zf := zc_gd_f A s
      have eD : ∀ w a, w ≤ 14 → a < 4 → zm_fall B s 228 (60 * s + 4 * w + a) = 0 := fun w a hw ha => by rw [Nat.add_assoc]; exact e228 _ (by omega)
      have dd : rl_dead (zm_fall B s) s := Or.inl (by rw [(f1 s).1, if_pos rfl])
      refine ⟨⟨?_, Or.inl ⟨by rw [zc_gd_64, if_pos (by omega)], by rw [(f1 s).2.1, if_pos rfl]⟩, rl_Q_rg (rl_gQ_id (fun c k hc => eB k (by omega))) (fun k => eA k (by omega) (by omega) (by omega) (by omega) (by omega) (by omega) (by omega) (by omega) (by omega) (by omega) (by omega)) (eA _ (by omega) (by omega) (by omega) (by omega) (by omega) (by omega) (by omega) (by omega) (by omega) (by omega) (by omega)) (eA _ (by omega) (by omega) (by omega) (by omega) (by omega) (by omega) (by omega) (by omega) (by omega) (by omega) (by omega)) h3, rl_E_rg (fun c k hc => eA k (by omega) (by omega) (by omega) (by omega) (by omega) (by omega) (by omega) (by omega) (by omega) (by omega) (by omega)) (fun c k hc _ => eB _ (by omega)) h4, fun u hu => ?_, ⟨by rw [z0.1]; decide, fun i hi => by rw [z0.1] at hi; omega, fun i j hi => by rw [z0.1] at hi; omega, fun u hu => ?_⟩, ⟨fun w a k1 k2 k3 => ?_, fun a ha => zf.2.1 _ (by omega), fun w k1 k2 => ?_, zf.2.2.1 _ (by decide), by rw [z0.2.1, rl_sz_z e228 15 (Nat.le_refl _)]⟩, fun w a k1 k2 k3 => ?_, ⟨fun w a k1 k2 k3 k4 => absurd (eD w a k2 k3) k4, fun u v hu hv k1 => ?_, fun u hu k1 => absurd (e240 u hu) k1, fun w k1 k2 a k3 k4 => absurd (eD w a k2 k3) k4⟩, fun w a k1 k2 k3 k4 => absurd (eD w a k2 k3) k4⟩, fun _ => ⟨z0.2.2.2.1, z0.2.2.2.2, by rw [(f1 s).2.2.2.2.2, if_pos rfl], fun a ha => ⟨zf.2.2.2.2 a ha, e252 a ha⟩⟩, fun q => absurd dd q, ?_⟩
      · refine ⟨by rw [zc_gd_64, if_neg (by omega)]; exact h1.1, ⟨by rw [zc_gd_64, if_pos (by omega), (f1 s).1, if_pos rfl], by rw [(f1 s).1, if_pos rfl]; decide⟩, ⟨by rw [zc_gd_64, if_pos (by omega), (f1 s).2.2.2.1, if_pos rfl], by rw [(f1 s).2.2.2.1, if_pos rfl]; decide⟩, ⟨by rw [zc_gd_64, if_pos (by omega), (f1 s).2.2.1, if_pos rfl], by rw [(f1 s).2.2.1, if_pos rfl]; decide⟩, ?_, ?_, by rw [zc_gd_64, if_neg (by omega)]; exact h1.2.2.2.2.2.2.1, by rw [z0.2.2.1, (f1 s).2.2.2.2.1, if_pos rfl], by rw [(f1 s).2.2.2.2.1, if_pos rfl]; decide, by rw [(f1 s).2.2.2.2.1, if_pos rfl]⟩
        · rw [eA _ (by omega) (by omega) (by omega) (by omega) (by omega) (by omega) (by omega) (by omega) (by omega) (by omega) (by omega), eB _ (by omega)]; exact h1.2.2.2.2.1
        · rw [eA _ (by omega) (by omega) (by omega) (by omega) (by omega) (by omega) (by omega) (by omega) (by omega) (by omega) (by omega), eB _ (by omega)]; exact h1.2.2.2.2.2.1
      · rw [(zf.1 u hu).1, (zf.1 u hu).2, e232 u hu, e236 u hu]
        exact ⟨⟨rfl, rfl⟩, ⟨by decide, by decide⟩, fun _ => rfl⟩
      · rw [eB _ (by omega)] at hu
        rw [e236 u (by omega), z0.1]
        exact ⟨fun ⟨i, hi, _⟩ => absurd hi (by omega), fun q => absurd q.1 (by decide)⟩
      · rw [zf.2.1 _ (by omega), eD w a k2 k3, if_pos rfl]
      · rw [zf.2.2.1 _ (by omega), rl_th_z k2 e228]
      · rw [zf.2.2.2.1 w (by omega), eD w a k2 k3, Nat.zero_div]
        exact ⟨fun q => absurd q (by decide), fun q => absurd rfl q.1⟩
      · rw [eB _ (by omega)] at hu
        rw [e236 u (by omega)] at k1
        exact absurd k1 (by decide)
      · refine ⟨?_, fun k hk => ?_, ?_⟩
        · rw [(f1 s).2.2.2.2.2, if_pos rfl, zm_msk, zn_pop0]
        · rw [(f1 s).2.2.2.2.2, if_pos rfl] at hk; omega
        · have w0 := e252 0 (by decide)
          rw [Nat.add_zero] at w0
          rw [w0, e252 1 (by decide), e252 2 (by decide), e252 3 (by decide)]
          decide
    · have e1 : rl_eA A (zc_goDown A r) s := fun c k _ _ h3 => eA k (by omega) (by omega) (by omega) (by omega) (by omega) (by omega) (by omega) (by omega) (by omega) (by omega) (by omega)
      have e2 : rl_eB B (zm_fall B r) s := by
        refine ⟨fun c hc => ?_, fun c k hc hk => ?_, fun c k hc hk => ?_, fun k _ => eB _ (by omega), fun k hk => by rw [(f2 _).2.2.2.2, if_neg (by omega)]⟩
        · rcases hc with hc | hc | hc | hc | hc | hc | hc | hc <;> subst hc
          · rw [(f1 s).1, if_neg hsr]
          · exact eB _ (by omega)
          · rw [(f1 s).2.1, if_neg hsr]
          · exact eB _ (by omega)
          · rw [(f1 s).2.2.1, if_neg hsr]
          · rw [(f1 s).2.2.2.1, if_neg hsr]
          · rw [(f1 s).2.2.2.2.1, if_neg hsr]
          · rw [(f1 s).2.2.2.2.2, if_neg hsr]
        · rcases hc with hc | hc | hc <;> subst hc
          · exact eB _ (by omega)
          · exact eB _ (by omega)
          · rw [(f2 _).1, if_neg (by omega)]
        · rcases hc with hc | hc | hc <;> subst hc
          · rw [(f2 _).2.1, if_neg (by omega)]
          · rw [(f2 _).2.2.1, if_neg (by omega)]
          · rw [(f2 _).2.2.2.1, if_neg (by omega)]
      exact ⟨rl_N_fr hs ok.1 ok.2.1 g (rl_gQ_id (fun c k hc => eB k (by omega))) e1 e2 (h.2 s hs).1, rl_Y_fr hs (by rw [rl_dead, rl_dead, (f1 s).1, if_neg hsr, eB _ (by omega)]) e1 e2 (h.2 s hs).2⟩
