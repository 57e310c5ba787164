/-! the fresh world: all of it holds -/
theorem kx_z {c : Nat} (k : Nat) (h : c ≠ 0 ∧ ¬ (64 ≤ c ∧ c < 68) ∧ ¬ (104 ≤ c ∧ c < 108) ∧ ¬ (120 ≤ c ∧ c < 124) ∧ c ≠ 192 ∧ c ≠ 200 ∧ c ≠ 252) : kx_0 c k = 0 := by
  unfold kx_0
  rw [if_neg h.1]
  by_cases h1 : c < 64
  · rw [if_pos h1]
  · rw [if_neg h1, if_neg (by omega), if_neg h.2.2.1, if_neg h.2.2.2.1, if_neg h.2.2.2.2.1, if_neg h.2.2.2.2.2.1, if_neg h.2.2.2.2.2.2]
theorem kx_64 {r : Nat} (hr : r < 4) (k : Nat) : kx_0 (64 + r) k = if k = 0 then r else if k = 8 then 1 else 0 := by
  unfold kx_0
  rw [if_neg (by omega), if_neg (by omega), if_pos (by omega), Nat.add_sub_cancel_left]
theorem kx_104 {r : Nat} (hr : r < 4) {k : Nat} (hk : k < 64) : kx_0 (104 + r) k = 4294967295 := by
  unfold kx_0
  rw [if_neg (by omega), if_neg (by omega), if_neg (by omega), if_pos (by omega), if_pos hk]
theorem kx_120 {r : Nat} (hr : r < 4) {k : Nat} (hk : k < 4) : kx_0 (120 + r) k = 100 := by
  unfold kx_0
  rw [if_neg (by omega), if_neg (by omega), if_neg (by omega), if_neg (by omega), if_pos (by omega), if_pos hk]
theorem kx_192 {k : Nat} (hk : k < 4) : kx_0 192 k = 1 := by
  unfold kx_0
  rw [if_neg (by omega), if_neg (by omega), if_neg (by omega), if_neg (by omega), if_neg (by omega), if_pos rfl, if_pos hk]
theorem kx_200 {k : Nat} (hk : k < 4) : kx_0 200 k = 4294967295 := by
  unfold kx_0
  rw [if_neg (by omega), if_neg (by omega), if_neg (by omega), if_neg (by omega), if_neg (by omega), if_neg (by omega), if_pos rfl, if_pos hk]
theorem kx_252 {k : Nat} (hk : k < 16) : kx_0 252 k = 100 := by
  unfold kx_0
  rw [if_neg (by omega), if_neg (by omega), if_neg (by omega), if_neg (by omega), if_neg (by omega), if_neg (by omega), if_neg (by omega), if_pos rfl, if_pos hk]
theorem kx_th {r w : Nat} : ∀ i, zm_th kx_0 r w i = 0
  | 0 => rfl
  | i + 1 => by rw [zm_th, if_neg (fun q => q.2 (kx_z _ (by omega))), kx_th i]
theorem kx_sz {r : Nat} : ∀ w, zm_sz kx_0 r w = 0
  | 0 => rfl
  | w + 1 => by
    rw [zm_sz]
    split
    · rfl
    · rw [kx_sz w, kx_th]; decide
theorem kx_G : rl_G kx_0 kx_0 := by
  have z : ∀ k, kx_0 136 k = 0 := fun k => kx_z k (by omega)
  refine ⟨⟨by rw [kx_z _ (by omega), z], fun t ht => ?_⟩, ⟨by rw [kx_z _ (by omega), z], fun t ht => ?_⟩, ⟨by rw [kx_z _ (by omega), z], fun t ht => ?_⟩, Or.inl ⟨rfl, fun s hs => by rw [kx_192 hs]; decide⟩, ⟨by rw [z]; omega, by rw [z]; omega, fun u hu => ?_, fun u hu => ?_⟩, fun k hk => ?_, fun k hk => ?_, fun t ht => ?_, ⟨fun m hm => ?_, fun r u q _ hu => ?_, fun m hm => ?_, fun m m' hm => ?_, fun u hu => ?_⟩⟩
  · rw [z] at ht; omega
  · rw [z] at ht; omega
  · rw [z] at ht; omega
  · rw [z] at hu; omega
  · rw [z] at hu; omega
  · rw [kx_z _ (by omega)]; omega
  · rw [kx_z _ (by omega)]; omega
  · rw [kx_z (c := 152) _ (by omega), kx_z (c := 156) _ (by omega)]; exact ⟨by decide, by decide, fun _ => rfl⟩
  · rw [z] at hm; omega
  · rw [z] at hu; omega
  · rw [z] at hm; omega
  · rw [z] at hm; omega
  · rw [z] at hu; omega
theorem kx_N {r : Nat} (hr : r < 4) : rl_N kx_0 kx_0 r := by
  have z : ∀ k, kx_0 136 k = 0 := fun k => kx_z k (by omega)
  have d : ∀ k, kx_0 228 k = 0 := fun k => kx_z k (by omega)
  refine ⟨⟨?_, ⟨?_, ?_⟩, ⟨?_, ?_⟩, ⟨?_, ?_⟩, ⟨?_, ?_⟩, ?_, ?_, ?_, ?_, ?_⟩, Or.inl ⟨?_, kx_200 hr⟩, ⟨?_, fun i hi => ?_, fun i j _ hj => ?_, fun t ht => ?_, fun i hi => ?_⟩, fun a ha => ⟨⟨?_, ?_⟩, fun w h1 h2 => ⟨?_, ?_⟩⟩, fun u hu => ⟨⟨?_, ?_⟩, ⟨?_, ?_⟩, fun _ => ?_⟩, ⟨?_, fun i hi => ?_, fun i j hi => ?_, fun u hu => ?_⟩, ⟨fun w a h1 h2 h3 => ?_, fun a ha => ?_, fun w h1 h2 => ?_, ?_, ?_⟩, fun w a h1 h2 h3 => ?_, ⟨fun w a _ _ _ h4 => ?_, fun u v hu => ?_, fun u hu h4 => ?_, fun w _ _ a _ h4 => ?_⟩, fun w a _ _ _ h4 => ?_⟩
  · rw [kx_64 hr]; rfl
  · rw [kx_64 hr, kx_192 hr]; rfl
  · rw [kx_192 hr]; decide
  · rw [kx_64 hr, kx_z (c := 220) _ (by omega)]; rfl
  · rw [kx_z (c := 220) _ (by omega)]; decide
  · rw [kx_64 hr, kx_z (c := 216) _ (by omega)]; rfl
  · rw [kx_z (c := 216) _ (by omega)]; decide
  · rw [kx_z (c := 68 + r) _ (by omega), kx_z (c := 204) _ (by omega)]
  · rw [kx_z (c := 204) _ (by omega)]; decide
  · rw [kx_z (c := 68 + r) _ (by omega), kx_z (c := 196) _ (by omega)]
  · rw [kx_64 hr, if_neg (by decide), if_neg (by decide)]; decide
  · rw [kx_z (c := 124 + r) _ (by omega), kx_z (c := 224) _ (by omega)]
  · rw [kx_z (c := 224) _ (by omega)]; decide
  · rw [kx_z (c := 224) _ (by omega)]
  · rw [kx_64 hr]; rfl
  · rw [kx_z (c := 68 + r) _ (by omega), kx_z (c := 68 + r) _ (by omega)]; exact Nat.le_refl _
  · rw [kx_z (c := 68 + r) _ (by omega)] at hi; omega
  · rw [kx_z (c := 68 + r) _ (by omega)] at hj; omega
  · rw [z] at ht; omega
  · rw [kx_z (c := 68 + r) _ (by omega)] at hi; omega
  · rw [kx_z (c := 76 + r) _ (by omega)]; decide
  · rw [kx_z (c := 80 + r) _ (by omega)]; decide
  · rw [kx_z (c := 76 + r) _ (by omega), kx_z (c := 208) _ (by omega), Nat.zero_div]; decide
  · rw [kx_z (c := 80 + r) _ (by omega), kx_z (c := 212) _ (by omega), Nat.zero_div]; decide
  · rw [kx_z (c := 88 + r) _ (by omega), kx_z (c := 232) _ (by omega)]
  · rw [kx_z (c := 92 + r) _ (by omega), kx_z (c := 236) _ (by omega)]
  · rw [kx_z (c := 232) _ (by omega)]; decide
  · rw [kx_z (c := 236) _ (by omega)]; decide
  · exact kx_z (c := 236) _ (by omega)
  · rw [kx_z (c := 84 + r) _ (by omega)]; decide
  · rw [kx_z (c := 84 + r) _ (by omega)] at hi; omega
  · rw [kx_z (c := 84 + r) _ (by omega)] at hi; omega
  · rw [z] at hu; omega
  · rw [kx_104 hr (by omega), d, if_pos rfl]
  · exact kx_104 hr (by omega)
  · rw [kx_z (c := 108 + r) _ (by omega), kx_th]
  · exact kx_z (c := 108 + r) _ (by omega)
  · rw [kx_z (c := 100 + r) _ (by omega), kx_sz]
  · rw [kx_z (c := 128 + r) _ (by omega), d, Nat.zero_div]
    exact ⟨fun q => absurd q (by decide), fun q => absurd rfl q.1⟩
  · exact absurd (d _) h4
  · rw [z] at hu; omega
  · exact absurd (kx_z (c := 240) _ (by omega)) h4
  · exact absurd (d _) h4
  · exact absurd (d _) h4
theorem kx_Y {r : Nat} (hr : r < 4) : rl_Y kx_0 kx_0 r := by
  have n248 : kx_0 248 r = 0 := kx_z (c := 248) _ (by omega)
  refine ⟨fun hd => ?_, fun _ => ⟨?_, ?_, fun k hk => ?_, fun a ha => ?_⟩, ?_, fun k hk => ?_, ?_⟩
  · rw [rl_dead, kx_192 hr] at hd; omega
  · rw [kx_z (c := 112 + r) _ (by omega), n248]
  · rw [kx_z (c := 112 + r) _ (by omega), n248, zm_msk]
  · rw [n248] at hk; omega
  · rw [kx_120 hr ha, kx_252 (by omega)]
  · rw [n248, zm_msk, zn_pop0]
  · rw [n248] at hk; omega
  · rw [kx_252 (by omega), kx_252 (by omega), kx_252 (by omega), kx_252 (by omega)]; decide
theorem kx_all : rl_all kx_0 kx_0 := by
  refine ⟨⟨kx_G, fun s hs => ⟨kx_N hs, kx_Y hs⟩⟩, ⟨fun i hi => ?_, fun s hs => ⟨fun a ha => kx_104 hs (by omega), kx_z (c := 108 + s) _ (by omega)⟩⟩, ⟨fun i => ?_, ?_⟩, ?_⟩
  · rw [kx_z (c := 32) _ (by omega)]; decide
  · rw [kx_z (c := 208) _ (by omega), kx_z (c := 212) _ (by omega)]; decide
  · rw [kx_z (c := 136) _ (by omega)]; decide
  · rw [kx_z (c := 136) _ (by omega)]; decide
