/-! vertices and messages come to it -/
theorem rl_sGV {A B A' B' : wx_S} (h : rl_R A B) (eA : ∀ c k, c < 20 ∨ 60 ≤ c → A' c k = A c k) (eB : ∀ c k, 136 < c → c < 160 ∨ 188 < c → B' c k = B c k) (e136 : ∀ k, k ≠ 7 → k ≠ 13 → B' 136 k = B 136 k) (hV : rl_V A' B') (hM : rl_M A' B') (hZ : zm_V B') (hH : rl_H B') (g : rl_gV B B') : rl_R A' B' := by
  obtain ⟨G1, G2, G3, G4, G5, G6, G7, G8, G9⟩ := h.1
  have g1 := g.1
  refine ⟨⟨⟨by rw [eA _ _ (by omega), e136 _ (by decide) (by decide)]; exact G1.1, fun t ht => ?_⟩, hV, hM, rl_F_ext (eA _ _ (by omega)) (fun k => eB _ k (by decide) (by omega)) G4, hZ, fun k hk => by rw [eB _ _ (by decide) (by omega)]; exact Nat.le_trans (G6 k hk) g1, fun k hk => by rw [eB _ _ (by decide) (by omega)]; exact G7 k hk, fun t ht => by rw [eB _ _ (by decide) (by omega), eB _ _ (by decide) (by omega), e136 _ (by decide) (by decide)]; exact G8 t ht, hH⟩, fun s hs => ?_⟩
  · rw [e136 _ (by decide) (by decide)] at ht
    rw [eA _ _ (by omega), eA _ _ (by omega), eA _ _ (by omega), eB _ _ (by decide) (by omega), eB _ _ (by decide) (by omega), eB _ _ (by decide) (by omega)]
    exact G1.2 t ht
  · have e1 : rl_eA A A' s := fun c k hc _ _ => eA _ _ (by omega)
    have e2 : rl_eB B B' s := ⟨fun c hc => eB _ _ (by omega) (by omega), fun c k hc _ => eB _ _ (by omega) (by omega), fun c k hc _ => eB _ _ (by omega) (by omega), fun k _ => eB _ _ (by decide) (by omega), fun k _ => eB _ _ (by decide) (by omega)⟩
    have gq : rl_gQ B B' s := ⟨by rw [e136 _ (by decide) (by decide)]; exact Nat.le_refl _, fun t _ => ⟨eB _ _ (by decide) (by omega), fun _ => eB _ _ (by decide) (by omega)⟩, fun t h1 h2 => by rw [e136 _ (by decide) (by decide)] at h2; omega⟩
    exact ⟨rl_N_fr hs G5 G6 g gq e1 e2 (h.2 s hs).1, rl_Y_fr hs (by rw [rl_dead, rl_dead, eB _ _ (by decide) (by omega), e136 _ (by decide) (by decide)]) e1 e2 (h.2 s hs).2⟩
theorem zc_po (A : wx_S) (k q u : Nat) : (∀ c i, c ≠ 44 → c ≠ 48 → c ≠ 52 → c ≠ 56 → zc_post A k q u c i = A c i) ∧ zc_post A k q u 44 3 = A 44 3 + 1 ∧ ∀ i, zc_post A k q u 48 i = (if i = A 44 3 then k else A 48 i) ∧ zc_post A k q u 52 i = (if i = A 44 3 then q else A 52 i) ∧ zc_post A k q u 56 i = (if i = A 44 3 then u else A 56 i) := by
  refine ⟨fun c i h1 h2 h3 h4 => ?_, ?_, fun i => ?_⟩
  · rw [zc_post, wx_u_nc h1, wx_u_nc h4, wx_u_nc h3, wx_u_nc h2]
  · rw [zc_post, wx_u_eq]
  · simp [zc_post, wx_u]
theorem zm_sa (B : wx_S) (q u k : Nat) : (∀ c i, c ≠ 180 → c ≠ 184 → c ≠ 188 → ¬ (c = 136 ∧ i = 13) → zm_say B q u k c i = B c i) ∧ zm_say B q u k 136 13 = B 136 13 + 1 ∧ ∀ i, zm_say B q u k 188 i = (if i = B 136 13 then k else B 188 i) ∧ zm_say B q u k 180 i = (if i = B 136 13 then q else B 180 i) ∧ zm_say B q u k 184 i = (if i = B 136 13 then u else B 184 i) := by
  refine ⟨fun c i h1 h2 h3 h4 => ?_, ?_, fun i => ?_⟩
  · rw [zm_say, wx_u_ne h4, wx_u_nc h3, wx_u_nc h2, wx_u_nc h1]
  · rw [zm_say, wx_u_eq]
  · simp [zm_say, wx_u]
/-- what a READY needs: the mark stands, and there is none for another vertex of the place -/
def rl_rdy (B : wx_S) (r u : Nat) : Prop := B 192 r ≠ 2 → B 212 (60 * r + 4 * B 164 u + B 160 u) ≠ 0 ∧ ∀ m, m < B 136 13 → B 188 m = 2 → B 180 m = r → B 164 (B 184 m) = B 164 u → B 160 (B 184 m) = B 160 u → B 184 m = u
theorem rl_sSay {A B : wx_S} {q u k : Nat} (h : rl_R A B) (hq : q < 4) (hk : k < 3) (hu : u < B 136 7) (hr : k = 2 → rl_rdy B q u) : rl_R (zc_post A k q u) (zm_say B q u k) := by
  obtain ⟨a1, a2, a3⟩ := zc_po A k q u
  obtain ⟨b1, b2, b3⟩ := zm_sa B q u k
  obtain ⟨G1, G2, G3, G4, G5, G6, G7, G8, G9⟩ := h.1
  have e7 : zm_say B q u k 136 7 = B 136 7 := b1 _ _ (by decide) (by decide) (by decide) (by omega)
  have ev : ∀ c i, c ≠ 180 → c ≠ 184 → c ≠ 188 → c ≠ 136 → zm_say B q u k c i = B c i := fun c i h1 h2 h3 h4 => b1 c i h1 h2 h3 (fun z => h4 z.1)
  refine rl_sGV h (fun c i hc => a1 c i (by omega) (by omega) (by omega) (by omega)) (fun c i h1 h2 => ev c i (by omega) (by omega) (by omega) (by omega)) (fun i _ hi => b1 _ _ (by decide) (by decide) (by decide) (fun z => hi z.2)) ⟨by rw [a1 _ _ (by decide) (by decide) (by decide) (by decide), e7]; exact G2.1, fun v hv => ?_⟩ ⟨by rw [a2, b2, G3.1], fun m hm => ?_⟩ ?_ ?_ ⟨by rw [e7]; exact Nat.le_refl _, by rw [e7]; exact G5.1, fun c v hc _ => ev c v (by omega) (by omega) (by omega) (by omega)⟩
  · rw [e7] at hv
    rw [a1 _ _ (by decide) (by decide) (by decide) (by decide), a1 _ _ (by decide) (by decide) (by decide) (by decide), a1 _ _ (by decide) (by decide) (by decide) (by decide), a1 _ _ (by decide) (by decide) (by decide) (by decide), a1 _ _ (by decide) (by decide) (by decide) (by decide), ev _ _ (by decide) (by decide) (by decide) (by decide), ev _ _ (by decide) (by decide) (by decide) (by decide), ev _ _ (by decide) (by decide) (by decide) (by decide), ev _ _ (by decide) (by decide) (by decide) (by decide), ev _ _ (by decide) (by decide) (by decide) (by decide)]
    exact G2.2 v hv
  · rw [(a3 m).1, (a3 m).2.1, (a3 m).2.2, (b3 m).1, (b3 m).2.1, (b3 m).2.2, G3.1]
    by_cases hm2 : m = B 136 13
    · rw [if_pos hm2, if_pos hm2, if_pos hm2, if_pos hm2, if_pos hm2, if_pos hm2]; exact ⟨rfl, rfl, rfl⟩
    · rw [b2] at hm
      rw [if_neg hm2, if_neg hm2, if_neg hm2, if_neg hm2, if_neg hm2, if_neg hm2]
      exact G3.2 m (by omega)
  · obtain ⟨v1, v2, v3, v4⟩ := G5
    have e1 : zm_say B q u k 136 1 = B 136 1 := b1 _ _ (by decide) (by decide) (by decide) (by omega)
    unfold zm_V
    rw [e7, e1]
    refine ⟨v1, v2, fun x hx => ?_, fun t ht => ?_⟩
    · rw [ev _ _ (by decide) (by decide) (by decide) (by decide), ev 164 _ (by decide) (by decide) (by decide) (by decide), ev 168 _ (by decide) (by decide) (by decide) (by decide), ev 172 _ (by decide) (by decide) (by decide) (by decide), ev 176 _ (by decide) (by decide) (by decide) (by decide)]
      exact v3 x hx
    · rw [ev 140 _ (by decide) (by decide) (by decide) (by decide), ev 144 _ (by decide) (by decide) (by decide) (by decide), ev 148 _ (by decide) (by decide) (by decide) (by decide)]
      exact v4 t ht
  · obtain ⟨k1, k2, k3, k4, k5⟩ := G9
    unfold rl_H
    simp only [b2, e7, fun i => (b3 i).1, fun i => (b3 i).2.1, fun i => (b3 i).2.2, fun i => ev 236 i (by decide) (by decide) (by decide) (by decide), fun i => ev 192 i (by decide) (by decide) (by decide) (by decide), fun i => ev 212 i (by decide) (by decide) (by decide) (by decide), fun i => ev 164 i (by decide) (by decide) (by decide) (by decide), fun i => ev 160 i (by decide) (by decide) (by decide) (by decide), fun i => ev 204 i (by decide) (by decide) (by decide) (by decide)]
    refine ⟨fun m hm => ?_, fun s v p hs hv hp hb => ?_, fun m hm hk2 hq2 => ?_, fun m m' hm hm' e1 e2 e3 e4 e5 e6 => ?_, k5⟩
    · by_cases hm2 : m = B 136 13
      · rw [if_pos hm2, if_pos hm2, if_pos hm2]; exact ⟨hk, hq, hu⟩
      · rw [if_neg hm2, if_neg hm2, if_neg hm2]; exact k1 m (by omega)
    · obtain ⟨m, m1, m2, m3, m4⟩ := k2 s v p hs hv hp hb
      exact ⟨m, by omega, by rw [if_neg (by omega)]; exact m2, by rw [if_neg (by omega)]; exact m3, by rw [if_neg (by omega)]; exact m4⟩
    · by_cases hm2 : m = B 136 13
      · rw [if_pos hm2] at hk2
        rw [if_pos hm2] at hq2
        rw [if_pos hm2, if_pos hm2]
        exact (hr hk2 hq2).1
      · rw [if_neg hm2] at hk2
        rw [if_neg hm2] at hq2
        rw [if_neg hm2, if_neg hm2]
        exact k3 m (by omega) hk2 hq2
    · by_cases hm2 : m = B 136 13
      · by_cases hm3 : m' = B 136 13
        · rw [if_pos hm2, if_pos hm3]
        · rw [if_pos hm2] at e1
          rw [if_neg hm3] at e2
          rw [if_pos hm2, if_neg hm3] at e3 e5 e6
          rw [if_pos hm2] at e4
          rw [if_pos hm2, if_neg hm3]
          exact ((hr e1 e4).2 m' (by omega) e2 e3.symm e5.symm e6.symm).symm
      · by_cases hm3 : m' = B 136 13
        · rw [if_neg hm2] at e1
          rw [if_pos hm3] at e2
          rw [if_neg hm2, if_pos hm3] at e3 e5 e6
          rw [if_neg hm2, e3] at e4
          rw [if_neg hm2, if_pos hm3]
          exact (hr e2 e4).2 m (by omega) e1 e3 e5 e6
        · rw [if_neg hm2] at e1
          rw [if_neg hm3] at e2
          rw [if_neg hm2, if_neg hm3] at e3 e5 e6
          rw [if_neg hm2] at e4
          rw [if_neg hm2, if_neg hm3]
          exact k4 m m' (by omega) (by omega) e1 e2 e3 e4 e5 e6
theorem zc_va (A : wx_S) (a w q f u : Nat) : (∀ c i, c ≠ 20 → c ≠ 24 → c ≠ 28 → c ≠ 32 → c ≠ 36 → c ≠ 40 → zc_vadd A a w q f u c i = A c i) ∧ zc_vadd A a w q f u 20 5 = A 20 5 + 1 ∧ ∀ i, zc_vadd A a w q f u 24 i = (if i = A 20 5 then a else A 24 i) ∧ zc_vadd A a w q f u 28 i = (if i = A 20 5 then w else A 28 i) ∧ zc_vadd A a w q f u 32 i = (if i = A 20 5 then q else A 32 i) ∧ zc_vadd A a w q f u 36 i = (if i = A 20 5 then f else A 36 i) ∧ zc_vadd A a w q f u 40 i = (if i = A 20 5 then u else A 40 i) := by
  refine ⟨fun c i h1 h2 h3 h4 h5 h6 => ?_, ?_, fun i => ?_⟩
  · rw [zc_vadd, wx_u_nc h1, wx_u_nc h6, wx_u_nc h5, wx_u_nc h4, wx_u_nc h3, wx_u_nc h2]
  · rw [zc_vadd, wx_u_eq]
  · simp [zc_vadd, wx_u]
theorem zm_mk (B : wx_S) (a w q f u : Nat) : zm_make B a w q f u 136 7 = B 136 7 + 1 ∧ ∀ i, zm_make B a w q f u 160 i = (if i = B 136 7 then a else B 160 i) ∧ zm_make B a w q f u 164 i = (if i = B 136 7 then w else B 164 i) ∧ zm_make B a w q f u 168 i = (if i = B 136 7 then q else B 168 i) ∧ zm_make B a w q f u 172 i = (if i = B 136 7 then f else B 172 i) ∧ zm_make B a w q f u 176 i = (if i = B 136 7 then u else B 176 i) := by
  refine ⟨?_, fun i => ?_⟩
  · rw [zm_make, wx_u_eq]
  · simp [zm_make, wx_u]
/-- a vertex is made -/
theorem rl_sVtx {A B : wx_S} {a w q f u : Nat} (h : rl_R A B) (ha : a < 4) (hw : 1 ≤ w ∧ w ≤ 14) (hq : q < 16) (hf : f < B 136 1 ∨ f = 4294967295) (hu : u < B 136 1 ∨ u = 4294967295) (h90 : B 136 7 < 90) (h5 : B 192 a ≠ 2 → w ≤ B 204 a) : rl_R (zc_vadd A a w q f u) (zm_make B a w q f u) := by
  obtain ⟨a1, a2, a3⟩ := zc_va A a w q f u
  obtain ⟨b2, b3⟩ := zm_mk B a w q f u
  have b1 : ∀ c i, c ≠ 160 → c ≠ 164 → c ≠ 168 → c ≠ 172 → c ≠ 176 → ¬ (c = 136 ∧ i = 7) → zm_make B a w q f u c i = B c i := fun c i h1 h2 h3 h4 h5 h6 => zm_make_oth B a w q f u h1 h2 h3 h4 h5 h6
  obtain ⟨G1, G2, G3, G4, G5, G6, G7, G8, G9⟩ := h.1
  have e13 : zm_make B a w q f u 136 13 = B 136 13 := b1 _ _ (by decide) (by decide) (by decide) (by decide) (by decide) (by omega)
  have e1 : zm_make B a w q f u 136 1 = B 136 1 := b1 _ _ (by decide) (by decide) (by decide) (by decide) (by decide) (by omega)
  have ev : ∀ c i, c ≠ 160 → c ≠ 164 → c ≠ 168 → c ≠ 172 → c ≠ 176 → c ≠ 136 → zm_make B a w q f u c i = B c i := fun c i h1 h2 h3 h4 h5 h6 => b1 c i h1 h2 h3 h4 h5 (fun z => h6 z.1)
  refine rl_sGV h (fun c i hc => a1 c i (by omega) (by omega) (by omega) (by omega) (by omega) (by omega)) (fun c i h1 h2 => ev c i (by omega) (by omega) (by omega) (by omega) (by omega) (by omega)) (fun i hi _ => b1 _ _ (by decide) (by decide) (by decide) (by decide) (by decide) (fun z => hi z.2)) ⟨by rw [a2, b2, G2.1], fun v hv => ?_⟩ ⟨by rw [a1 _ _ (by decide) (by decide) (by decide) (by decide) (by decide) (by decide), e13]; exact G3.1, fun m hm => ?_⟩ ?_ ?_ ⟨by rw [b2]; omega, by rw [b2]; omega, fun c v hc hv => ?_⟩
  · rw [(a3 v).1, (a3 v).2.1, (a3 v).2.2.1, (a3 v).2.2.2.1, (a3 v).2.2.2.2, (b3 v).1, (b3 v).2.1, (b3 v).2.2.1, (b3 v).2.2.2.1, (b3 v).2.2.2.2, G2.1]
    by_cases hv2 : v = B 136 7
    · simp [hv2]
    · rw [b2] at hv
      rw [if_neg hv2, if_neg hv2, if_neg hv2, if_neg hv2, if_neg hv2, if_neg hv2, if_neg hv2, if_neg hv2, if_neg hv2, if_neg hv2]
      exact G2.2 v (by omega)
  · rw [e13] at hm
    rw [a1 _ _ (by decide) (by decide) (by decide) (by decide) (by decide) (by decide), a1 _ _ (by decide) (by decide) (by decide) (by decide) (by decide) (by decide), a1 _ _ (by decide) (by decide) (by decide) (by decide) (by decide) (by decide), ev _ _ (by decide) (by decide) (by decide) (by decide) (by decide) (by decide), ev _ _ (by decide) (by decide) (by decide) (by decide) (by decide) (by decide), ev _ _ (by decide) (by decide) (by decide) (by decide) (by decide) (by decide)]
    exact G3.2 m hm
  · obtain ⟨v1, v2, v3, v4⟩ := G5
    unfold zm_V
    rw [b2, e1]
    refine ⟨by omega, v2, fun x hx => ?_, fun t ht => ?_⟩
    · rw [(b3 x).1, (b3 x).2.1, (b3 x).2.2.1, (b3 x).2.2.2.1, (b3 x).2.2.2.2]
      by_cases hx2 : x = B 136 7
      · rw [if_pos hx2, if_pos hx2, if_pos hx2, if_pos hx2, if_pos hx2]
        exact ⟨ha, hw.1, hw.2, hq, hf, hu⟩
      · rw [if_neg hx2, if_neg hx2, if_neg hx2, if_neg hx2, if_neg hx2]
        exact v3 x (by omega)
    · rw [ev 140 _ (by decide) (by decide) (by decide) (by decide) (by decide) (by decide), ev 144 _ (by decide) (by decide) (by decide) (by decide) (by decide) (by decide), ev 148 _ (by decide) (by decide) (by decide) (by decide) (by decide) (by decide)]
      exact v4 t ht
  · obtain ⟨k1, k2, k3, k4, k5⟩ := G9
    have P := fun s hs => (h.2 s hs).1.2.2.2.2.1
    unfold rl_H
    simp only [b2, e13, fun i => (b3 i).1, fun i => (b3 i).2.1, fun i => ev 236 i (by decide) (by decide) (by decide) (by decide) (by decide) (by decide), fun i => ev 192 i (by decide) (by decide) (by decide) (by decide) (by decide) (by decide), fun i => ev 212 i (by decide) (by decide) (by decide) (by decide) (by decide) (by decide), fun i => ev 180 i (by decide) (by decide) (by decide) (by decide) (by decide) (by decide), fun i => ev 184 i (by decide) (by decide) (by decide) (by decide) (by decide) (by decide), fun i => ev 188 i (by decide) (by decide) (by decide) (by decide) (by decide) (by decide), fun i => ev 204 i (by decide) (by decide) (by decide) (by decide) (by decide) (by decide)]
    refine ⟨fun m hm => ?_, fun s v p hs hv hp hb => ?_, fun m hm hk2 hq2 => ?_, fun m m' hm hm' e1 e2 e3 e4 e5 e6 => ?_, fun v hv hq2 => ?_⟩
    · have z := k1 m hm
      exact ⟨z.1, z.2.1, by omega⟩
    · refine k2 s v p hs (Nat.lt_of_not_le (fun hl => ?_)) hp hb
      rw [(P s hs v (by omega)).2.2 hl, Nat.zero_div] at hb
      omega
    · have z := k1 m hm
      rw [if_neg (by omega), if_neg (by omega)]
      exact k3 m hm hk2 hq2
    · have z := k1 m hm
      have z' := k1 m' hm'
      rw [if_neg (by omega), if_neg (by omega)] at e5 e6
      exact k4 m m' hm hm' e1 e2 e3 e4 e5 e6
    · by_cases hv2 : v = B 136 7
      · rw [if_pos hv2] at hq2
        rw [if_pos hv2, if_pos hv2]
        exact h5 hq2
      · rw [if_neg hv2] at hq2
        rw [if_neg hv2, if_neg hv2]
        exact k5 v (by omega) hq2
  · rcases hc with hc | hc | hc <;> subst hc
    · rw [(b3 v).1, if_neg (by omega)]
    · rw [(b3 v).2.1, if_neg (by omega)]
    · rw [(b3 v).2.2.1, if_neg (by omega)]
