/-! the reference: what its emission keeps -/
theorem zm_place_oth (X : wx_S) (r t : Nat) {c : Nat} (k : Nat) (h1 : c ≠ 244) (h2 : c ≠ 248) (h3 : c ≠ 252) : zm_place X r t c k = X c k := by
  unfold zm_place
  split
  · rfl
  · split
    · rw [wx_u_nc h3, wx_u_nc h3, wx_u_nc h2, wx_u_nc h1]
    · rw [wx_u_nc h2, wx_u_nc h1]
theorem zm_V_ext {X Y : wx_S} (e : ∀ c k, c = 136 ∨ c = 140 ∨ c = 144 ∨ c = 148 ∨ c = 160 ∨ c = 164 ∨ c = 168 ∨ c = 172 ∨ c = 176 → Y c k = X c k) (h : zm_V X) : zm_V Y := by
  unfold zm_V at *
  simp only [e 136 _ (by omega), e 140 _ (by omega), e 144 _ (by omega), e 148 _ (by omega), e 160 _ (by omega), e 164 _ (by omega), e 168 _ (by omega), e 172 _ (by omega), e 176 _ (by omega)]
  exact h
theorem zm_D_ext {X Y : wx_S} (e : ∀ c k, c = 136 ∨ c = 228 → Y c k = X c k) (h : zm_D X) : zm_D Y := fun k hk => by
  rw [e 228 _ (by omega), e 136 _ (by omega)]; exact h k hk
theorem zm_msk_ext {X Y : wx_S} {r : Nat} : ∀ n, (∀ k, k < n → Y 244 (40 * r + k) = X 244 (40 * r + k)) → zm_msk Y r n = zm_msk X r n
  | 0, _ => rfl
  | n + 1, h => by
    simp only [zm_msk]
    rw [zm_msk_ext n (fun k hk => h k (by omega)), h n (by omega)]
theorem zm_B_ext {X Y : wx_S} {r : Nat} (e1 : Y 248 r = X 248 r) (e2 : ∀ k, k < X 248 r → Y 244 (40 * r + k) = X 244 (40 * r + k)) (e3 : ∀ a, a < 4 → Y 252 (4 * r + a) = X 252 (4 * r + a)) (h : zm_B X r) : zm_B Y r := by
  have e30 := e3 0 (by omega)
  rw [Nat.add_zero] at e30
  unfold zm_B at *
  rw [e1, zm_msk_ext _ e2, e30, e3 1 (by omega), e3 2 (by omega), e3 3 (by omega)]
  refine ⟨h.1, fun k hk => ?_, h.2.2⟩
  rw [e2 k hk]
  exact h.2.1 k hk
theorem zm_place_B {X : wx_S} {r t : Nat} (hV : zm_V X) (ht : t < X 136 1 ∨ t = 4294967295) (h : zm_B X r) : zm_B (zm_place X r t) r := by
  unfold zm_place
  split
  · exact h
  · rename_i hn
    have ht' : t < X 136 1 := by
      rcases ht with h1 | h1
      · exact h1
      · subst h1; exact absurd (zm_hs_N X r _) hn
    have h40 : t < 40 := Nat.lt_of_lt_of_le ht' hV.2.1
    have hf := hV.2.2.2 t ht'
    have hbit : ¬ zm_msk X r (X 248 r) / 2 ^ t % 2 = 1 := fun q => hn ((zm_hs_iff X r t (by omega) _).mpr q)
    have hlt : X 248 r < 40 := by rw [h.1]; exact zn_pop_lt hbit 40 h40
    have hpop := zn_pop_or hbit 40
    rw [if_pos h40] at hpop
    have base : zm_B (wx_u (wx_u X 244 (40 * r + X 248 r) t) 248 r (X 248 r + 1)) r := by
      have e1 : wx_u (wx_u X 244 (40 * r + X 248 r) t) 248 r (X 248 r + 1) 248 r = X 248 r + 1 := wx_u_eq _ _ _ _
      have e2 : ∀ k, wx_u (wx_u X 244 (40 * r + X 248 r) t) 248 r (X 248 r + 1) 244 k = wx_u X 244 (40 * r + X 248 r) t 244 k := fun k => wx_u_nc (by decide)
      have e3 : ∀ k, wx_u (wx_u X 244 (40 * r + X 248 r) t) 248 r (X 248 r + 1) 252 k = X 252 k := fun k => by rw [wx_u_nc (by decide), wx_u_nc (by decide)]
      unfold zm_B
      rw [e1, e3, e3, e3, e3]
      have em : zm_msk (wx_u (wx_u X 244 (40 * r + X 248 r) t) 248 r (X 248 r + 1)) r (X 248 r + 1) = zm_msk X r (X 248 r) ||| 2 ^ t := by
        simp only [zm_msk]
        rw [zm_msk_ext (X := X) _ (fun k hk => by rw [e2, wx_u_nk (by omega)]), e2, wx_u_eq]
      refine ⟨?_, fun k hk => ?_, h.2.2⟩
      · rw [em, hpop, ← h.1]
      · rw [e2]
        by_cases e : k = X 248 r
        · subst e; rw [wx_u_eq]; exact h40
        · rw [wx_u_nk (by omega)]; exact h.2.1 k (by omega)
    split
    · rename_i hle
      generalize hY : wx_u (wx_u X 244 (40 * r + X 248 r) t) 248 r (X 248 r + 1) = Y at base ⊢
      have eY : ∀ k, Y 252 k = X 252 k := fun k => by rw [← hY, wx_u_nc (by decide), wx_u_nc (by decide)]
      have k1 : ∀ a b c d, wx_u (wx_u Y 252 a b) 252 c d 248 r = Y 248 r := fun a b c d => by rw [wx_u_nc (by decide), wx_u_nc (by decide)]
      refine ⟨?_, ?_, ?_⟩
      · rw [k1, zm_msk_ext (X := Y) _ (fun k hk => by rw [wx_u_nc (by decide), wx_u_nc (by decide)])]
        exact base.1
      · intro k hk
        rw [k1] at hk
        rw [wx_u_nc (by decide), wx_u_nc (by decide)]
        exact base.2.1 k hk
      · have key := zc_sum_mv (f := fun k => X 252 (4 * r + k)) hf.1 hf.2.1 hf.2.2.2 hle
        have := h.2.2
        have rd : ∀ a, wx_u (wx_u Y 252 (4 * r + X 140 t) (X 252 (4 * r + X 140 t) - X 148 t)) 252 (4 * r + X 144 t) (X 252 (4 * r + X 144 t) + X 148 t) 252 (4 * r + a) = if a = X 144 t then X 252 (4 * r + X 144 t) + X 148 t else if a = X 140 t then X 252 (4 * r + X 140 t) - X 148 t else X 252 (4 * r + a) := by
          intro a
          by_cases h1 : a = X 144 t
          · rw [if_pos h1, h1, wx_u_eq]
          · rw [if_neg h1, wx_u_nk (by omega)]
            by_cases h2 : a = X 140 t
            · rw [if_pos h2, h2, wx_u_eq]
            · rw [if_neg h2, wx_u_nk (by omega), eY]
        have r0 := rd 0
        rw [Nat.add_zero] at r0
        rw [r0, rd 1, rd 2, rd 3]
        simp only [Nat.add_zero] at key
        omega
    · exact base
/-- a node of the reference, as far as its methods need it to run -/
def zm_ok (X : wx_S) (r : Nat) : Prop := zm_V X ∧ zm_D X ∧ zm_B X r ∧ (∀ k, k < 360 → X 240 k < 4294967296)
theorem zm_place_ok {X : wx_S} {r t : Nat} (h : zm_ok X r) (ht : t < X 136 1 ∨ t = 4294967295) : zm_ok (zm_place X r t) r :=
  ⟨zm_V_ext (fun c k hc => zm_place_oth X r t k (by omega) (by omega) (by omega)) h.1, zm_D_ext (fun c k hc => zm_place_oth X r t k (by omega) (by omega) (by omega)) h.2.1, zm_place_B h.1 ht h.2.2.1, fun k hk => by rw [zm_place_oth _ _ _ _ (by decide) (by decide) (by decide)]; exact h.2.2.2 k hk⟩
theorem mm_Mo_place_ok (X : wx_S) (r : Nat) (hr : r < 4) (t : Nat) (h : zm_ok X r) (ht : t < X 136 1 ∨ t = 4294967295) : nw_M wd_all yy_Mo_place cc_Mo_place 5 none 1 0 0 [.ref 136, .int (nI r), .int (nI t)] X (fun v X' => v = none ∧ X' = zm_place X r t) := by
  have h40 := h.1.2.1
  have hB := h.2.2.1
  refine mm_Mo_place X r hr t (by omega) (zm_B_pos hB) (fun k hk => by have := hB.2.1 k hk; omega) (fun h1 h2 => ?_) (fun h1 => ?_) (fun a ha => by have := zm_B_bal hB a ha; omega)
  · rw [hB.1]
    exact zn_pop_lt (fun q => h2 ((zm_hs_iff X r t (by omega) _).mpr q)) 40 h1
  · rcases ht with ht | ht
    · have := h.1.2.2.2 t ht
      exact ⟨this.1, this.2.1, by omega, this.2.2.2⟩
    · omega
