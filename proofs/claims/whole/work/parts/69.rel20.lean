/-! corrupt, cut, forge, send, submit -/
theorem rl_fl {A B : wx_S} (h : rl_F A B) : zm_fl B = A 0 4 := by
  unfold zm_fl
  rcases h with ⟨a, b⟩ | ⟨a, b, c⟩
  · rw [if_neg (b 0 (by decide)), if_neg (b 1 (by decide)), if_neg (b 2 (by decide)), if_neg (b 3 (by decide)), a]
  · rcases (show A 0 4 = 0 ∨ A 0 4 = 1 ∨ A 0 4 = 2 ∨ A 0 4 = 3 by omega) with e | e | e | e
    · rw [e] at b; rw [if_pos b, e]
    · rw [e] at b; rw [if_neg (c 0 (by decide) (by omega)), if_pos b, e]
    · rw [e] at b; rw [if_neg (c 0 (by decide) (by omega)), if_neg (c 1 (by decide) (by omega)), if_pos b, e]
    · rw [e] at b; rw [if_neg (c 0 (by decide) (by omega)), if_neg (c 1 (by decide) (by omega)), if_neg (c 2 (by decide) (by omega)), if_pos b, e]
theorem rl_sCor {A B : wx_S} {r : Nat} (hr : r < 4) (h : rl_R A B) (h0 : A 0 4 = 4294967295) : rl_R (wx_u (wx_u A (64 + r) 8 2) 0 4 r) (zm_corrupt B r) := by
  obtain ⟨h1, h2, _⟩ := (h.2 r hr).1
  have hY := (h.2 r hr).2
  have no : ∀ s, s < 4 → B 192 s ≠ 2 := by
    rcases h.1.2.2.2.1 with f | f
    · exact f.2
    · have := f.1; omega
  unfold zm_corrupt
  have oA : ∀ {c : Nat} k, 0 < c → c ≠ 64 + r → wx_u (wx_u A (64 + r) 8 2) 0 4 r c k = A c k := fun k a1 a2 => by rw [wx_u_nc (by omega), wx_u_nc a2]
  have o8 : ∀ k, k ≠ 8 → wx_u (wx_u A (64 + r) 8 2) 0 4 r (64 + r) k = A (64 + r) k := fun k hk => by rw [wx_u_nc (by omega), wx_u_nk hk]
  have oB : ∀ {c : Nat} k, c ≠ 136 → c ≠ 192 → wx_u (wx_u B 136 34 (zb_n (B 192 r = 0))) 192 r 2 c k = B c k := fun k a1 a2 => by rw [wx_u_nc a2, wx_u_nc a1]
  have o1 : ∀ k, k ≠ 34 → wx_u (wx_u B 136 34 (zb_n (B 192 r = 0))) 192 r 2 136 k = B 136 k := fun k hk => by rw [wx_u_nc (by decide), wx_u_nk hk]
  have oS : ∀ s, s ≠ r → wx_u (wx_u B 136 34 (zb_n (B 192 r = 0))) 192 r 2 192 s = B 192 s := fun s hs => by rw [wx_u_nk hs, wx_u_nc (by decide)]
  have o34 : wx_u (wx_u B 136 34 (zb_n (B 192 r = 0))) 192 r 2 136 34 = zb_n (B 192 r = 0) := by rw [wx_u_nc (by decide), wx_u_eq]
  have oR : wx_u (wx_u B 136 34 (zb_n (B 192 r = 0))) 192 r 2 192 r = 2 := wx_u_eq _ _ _ _
  have dr : rl_dead (wx_u (wx_u B 136 34 (zb_n (B 192 r = 0))) 192 r 2) r ↔ rl_dead B r := by
    rw [rl_dead, rl_dead, oR, o34]
    have n := no r hr
    by_cases z : B 192 r = 0
    · rw [zb_n, if_pos z]; omega
    · rw [zb_n, if_neg z]; omega
  have hp := zm_B_pos hY.2.2
  refine rl_sGS hr h (fun c k a0 _ a1 _ => oA k a0 a1) (fun c k a0 _ a1 _ => oB k (by omega) a1) (o1 _ (by decide)) (o1 _ (by decide)) (o1 _ (by decide)) (fun c s hc hs => ?_) ?_ ?_ ?_ (fun s hs hsr => ?_) (fun q hq => ?_) ⟨fun hd => ?_, fun hd => ?_, zm_B_ext (oB _ (by decide) (by decide)) (fun k _ => oB _ (by decide) (by decide)) (fun a _ => oB _ (by decide) (by decide)) hY.2.2⟩
  · rcases hc with hc | hc <;> subst hc
    · exact oS s hs
    · exact oB _ (by decide) (by decide)
  · unfold rl_S
    have e8 : wx_u (wx_u A (64 + r) 8 2) 0 4 r (64 + r) 8 = 2 := by rw [wx_u_nc (by omega), wx_u_eq]
    rw [e8, o8 0 (by decide), o8 9 (by decide), o8 10 (by decide), o8 12 (by decide), oA (c := 68 + r) _ (by omega) (by omega), oA (c := 68 + r) _ (by omega) (by omega), oA (c := 124 + r) _ (by omega) (by omega), oR, oB (c := 220) _ (by decide) (by decide), oB (c := 216) _ (by decide) (by decide), oB (c := 204) _ (by decide) (by decide), oB (c := 196) _ (by decide) (by decide), oB (c := 224) _ (by decide) (by decide)]
    exact ⟨h1.1, ⟨rfl, by decide⟩, h1.2.2⟩
  · unfold rl_X
    rw [o8 _ (by decide), o8 _ (by decide), oB _ (by decide) (by decide)]
    exact h2
  · refine Or.inr ⟨by rw [wx_u_eq]; exact hr, by rw [wx_u_eq]; exact oR, fun s hs hn => ?_⟩
    rw [wx_u_eq] at hn
    rw [oS s hn]
    exact no s hs
  · rw [rl_dead, rl_dead, oS s hsr]
    have := no s hs
    omega
  · by_cases hqr : q = r
    · rw [hqr]; exact no r hr
    · rw [oS q hqr] at hq; exact hq
  · have q := hY.1 (dr.mp hd)
    refine ⟨by rw [oA _ (by omega) (by omega)]; exact q.1, by rw [oA _ (by omega) (by omega)]; exact q.2.1, by rw [oB _ (by decide) (by decide)]; exact q.2.2.1, fun a ha => ?_⟩
    rw [oA _ (by omega) (by omega), oB _ (by decide) (by decide)]
    exact q.2.2.2 a ha
  · exact rl_Bk_rg hp (fun c k hc => oA k (by omega) (by omega)) (oB _ (by decide) (by decide)) (fun k _ => oB _ (by decide) (by decide)) (fun k _ => oB _ (by decide) (by decide)) (hY.2.1 (fun q => hd (dr.mpr q)))
theorem rl_sCut {A B : wx_S} {r k : Nat} (hr : r < 4) (h : rl_R A B) (hk : k < 2147483648) : rl_R (wx_u (wx_u A (64 + r) 11 1) (64 + r) 12 k) (wx_u B 200 r k) := by
  obtain ⟨h1, h2, _⟩ := (h.2 r hr).1
  have oA : ∀ i, i ≠ 11 → i ≠ 12 → wx_u (wx_u A (64 + r) 11 1) (64 + r) 12 k (64 + r) i = A (64 + r) i := fun i a1 a2 => by rw [wx_u_nk a2, wx_u_nk a1]
  refine rl_sSX hr h (fun c i a1 _ => by rw [wx_u_nc a1, wx_u_nc a1]) (by rw [wx_u_nc (by omega), wx_u_nc (by omega)]) (by rw [wx_u_nc (by omega), wx_u_nc (by omega)]) (fun c i _ a2 _ _ => wx_u_nc a2) (fun c s hs => ?_) ?_ ?_
  · by_cases hc : c = 200
    · subst hc; exact Or.inl (wx_u_nk hs)
    · exact Or.inl (wx_u_nc hc)
  · unfold rl_S
    rw [oA _ (by decide) (by decide), oA 8 (by decide) (by decide), oA 9 (by decide) (by decide), oA 10 (by decide) (by decide), wx_u_nc (c' := 68 + r) (by omega), wx_u_nc (c' := 68 + r) (by omega), wx_u_nc (c' := 68 + r) (by omega), wx_u_nc (c' := 68 + r) (by omega), wx_u_eq, wx_u_nc (c' := 124 + r) (by omega), wx_u_nc (c' := 124 + r) (by omega), wx_u_nc (c' := 192) (by decide), wx_u_nc (c' := 220) (by decide), wx_u_nc (c' := 216) (by decide), wx_u_nc (c' := 204) (by decide), wx_u_nc (c' := 196) (by decide), wx_u_nc (c' := 224) (by decide)]
    exact ⟨h1.1, h1.2.1, h1.2.2.1, h1.2.2.2.1, h1.2.2.2.2.1, h1.2.2.2.2.2.1, by omega, h1.2.2.2.2.2.2.2⟩
  · exact Or.inr ⟨by rw [wx_u_nk (by decide), wx_u_eq], by rw [wx_u_eq, wx_u_eq], by rw [wx_u_eq]; exact hk⟩
theorem rl_faulty {A B : wx_S} (h : rl_F A B) (h0 : A 0 4 ≠ 4294967295) : A 0 4 < 4 ∧ B 192 (A 0 4) = 2 := by
  rcases h with f | f
  · exact absurd f.1 h0
  · exact ⟨f.1, f.2.1⟩
theorem rl_fgC {A B : wx_S} {w q a b : Nat} (h : rl_R A B) : zc_fgC A w q a b ↔ zm_fgC B w q a b := by
  rw [zc_fgC, zm_fgC, rl_fl h.1.2.2.2.1, h.1.1.1, h.1.2.1.1, h.1.2.2.1.1]
theorem rl_forge {A B : wx_S} {w q a b : Nat} (h : rl_R A B) (hc : zm_fgC B w q a b) : rl_R (zc_forge A w q a b) (zm_forge B w q a b) := by
  have ef := rl_fl h.1.2.2.2.1
  have c1 := hc.1
  rw [ef] at c1
  obtain ⟨f1, f2⟩ := rl_faulty h.1.2.2.2.1 c1
  unfold zc_forge zm_forge
  rw [ef, h.1.2.1.1]
  have r1 := rl_sVtx (a := A 0 4) (w := w) (q := q) (f := a) (u := b) h f1 ⟨hc.2.1, hc.2.2.1⟩ (by have := hc.2.2.2.1; omega) hc.2.2.2.2.1.symm hc.2.2.2.2.2.1.symm hc.2.2.2.2.2.2.1 (fun z => absurd f2 z)
  exact rl_sSay r1 f1 (by decide) (by rw [(zm_mk _ _ _ _ _ _).1]; omega) (fun z => absurd z (by decide))
theorem rl_sdC {A B : wx_S} {k u : Nat} (h : rl_R A B) : zc_sdC A k u ↔ zm_sdC B k u := by
  rw [zc_sdC, zm_sdC, rl_fl h.1.2.2.2.1, h.1.2.1.1, h.1.2.2.1.1]
theorem rl_send {A B : wx_S} {k u : Nat} (h : rl_R A B) (hc : zm_sdC B k u) : rl_R (zc_post A k (A 0 4) u) (zm_say B (zm_fl B) u k) := by
  have ef := rl_fl h.1.2.2.2.1
  have c1 := hc.1
  rw [ef] at c1
  obtain ⟨f1, f2⟩ := rl_faulty h.1.2.2.2.1 c1
  rw [ef]
  exact rl_sSay h f1 (by have := hc.2.1; omega) hc.2.2.1 (fun _ z => absurd f2 z)
