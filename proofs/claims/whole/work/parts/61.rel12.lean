/-! steps that touch a node's state alone; a record; the queue -/
theorem rl_sSX {A B A' B' : wx_S} {r : Nat} (hr : r < 4) (h : rl_R A B) (eA : ∀ c k, c ≠ 64 + r → c ≠ 68 + r → A' c k = A c k) (eA1 : A' (68 + r) 1 = A (68 + r) 1) (eA2 : A' (68 + r) 2 = A (68 + r) 2) (eB : ∀ c k, c ≠ 196 → c ≠ 200 → c ≠ 216 → c ≠ 220 → B' c k = B c k) (eB2 : ∀ c s, s ≠ r → B' c s = B c s ∨ (c ≠ 196 ∧ c ≠ 200 ∧ c ≠ 216 ∧ c ≠ 220)) (hS : rl_S A' B' r) (hX : rl_X A' B' r) : rl_R A' B' := by
  have ok := rl_Gok h hr
  have h90 : B 136 7 ≤ 90 := ok.1.1
  have g : rl_gV B B' := rl_gV_id h90 (fun c k hc => eB _ k (by omega) (by omega) (by omega) (by omega))
  obtain ⟨G1, G2, G3, G4, G5, G6, G7, G8, G9⟩ := h.1
  refine ⟨⟨rl_T_ext (fun c k hc => eA _ k (by omega) (by omega)) (fun c k hc => eB _ k (by omega) (by omega) (by omega) (by omega)) G1, rl_V_ext (fun c k _ hc => eA _ k (by omega) (by omega)) (fun c k hc => eB _ k (by omega) (by omega) (by omega) (by omega)) G2, rl_M_ext (fun c k _ hc => eA _ k (by omega) (by omega)) (fun c k hc => eB _ k (by omega) (by omega) (by omega) (by omega)) G3, rl_F_ext (eA _ _ (by omega) (by omega)) (fun k => eB _ k (by decide) (by decide) (by decide) (by decide)) G4, zm_V_ext (fun c k hc => eB _ k (by omega) (by omega) (by omega) (by omega)) G5, zm_D_ext (fun c k hc => eB _ k (by omega) (by omega) (by omega) (by omega)) G6, fun k hk => by rw [eB _ _ (by decide) (by decide) (by decide) (by decide)]; exact G7 k hk, fun t ht => by rw [eB _ _ (by decide) (by decide) (by decide) (by decide), eB _ _ (by decide) (by decide) (by decide) (by decide), eB _ _ (by decide) (by decide) (by decide) (by decide)]; exact G8 t ht, rl_H_ext (fun c k hc => eB _ k (by omega) (by omega) (by omega) (by omega)) G9⟩, fun s hs => ?_⟩
  have ed : rl_dead B' s ↔ rl_dead B s := by rw [rl_dead, rl_dead, eB _ _ (by decide) (by decide) (by decide) (by decide), eB _ _ (by decide) (by decide) (by decide) (by decide)]
  by_cases hsr : s = r
  · subst hsr
    obtain ⟨⟨h1, h2, h3, h4, h5, h6, h7, h8, ⟨h9, h10, h11, h12⟩, h13⟩, hY⟩ := h.2 s hr
    have hp := zm_B_pos hY.2.2
    have e228 : ∀ k, B' 228 k = B 228 k := fun k => eB _ k (by decide) (by decide) (by decide) (by decide)
    have e236 : ∀ k, B' 236 k = B 236 k := fun k => eB _ k (by decide) (by decide) (by decide) (by decide)
    have e240 : ∀ k, B' 240 k = B 240 k := fun k => eB _ k (by decide) (by decide) (by decide) (by decide)
    have e248 : B' 248 s = B 248 s := eB _ _ (by decide) (by decide) (by decide) (by decide)
    refine ⟨⟨hS, hX, rl_Q_rg (rl_gQ_id (fun c k hc => eB _ k (by omega) (by omega) (by omega) (by omega))) (fun k => eA _ k (by omega) (by omega)) eA1 eA2 h3, rl_E_rg (fun c k hc => eA _ k (by omega) (by omega)) (fun c k hc _ => eB _ _ (by omega) (by omega) (by omega) (by omega)) h4, rl_P_rg g.1 (fun c k hc => eA _ k (by omega) (by omega)) (fun k _ => eB _ _ (by decide) (by decide) (by decide) (by decide)) (fun k _ => e236 _) h5, rl_W_rg ok.1 g (eA _ _ (by omega) (by omega)) (fun k => eA _ k (by omega) (by omega)) (fun k _ => e228 _) (fun k _ => e236 _) h5 h6, rl_D_rg (fun c k hc => eA _ k (by omega) (by omega)) (fun k _ => e228 _) h7, rl_K_rg hr ok.2.1 h90 (fun k => eA _ k (by omega) (by omega)) (fun k _ => e228 _) (fun k _ => e240 _) h8, ⟨rl_I_rg hr ok.2.1 g (fun k _ => e228 _) h9, rl_U_rg g (fun k _ => e236 _) h5 h10, rl_Z_rg ok.1 g (fun k _ => e228 _) (fun k _ => e240 _) h11, rl_C_rg hr ok.2.1 g (fun k _ => e228 _) h12⟩, rl_J_rg hr ok.2.1 h90 (fun k _ => e228 _) (fun k _ => e236 _) h13⟩, fun hd => ?_, fun hd => rl_Bk_rg hp (fun c k hc => eA _ k (by omega) (by omega)) e248 (fun k _ => eB _ _ (by decide) (by decide) (by decide) (by decide)) (fun k _ => eB _ _ (by decide) (by decide) (by decide) (by decide)) (hY.2.1 (fun q => hd (ed.mpr q))), zm_B_ext e248 (fun k _ => eB _ _ (by decide) (by decide) (by decide) (by decide)) (fun a _ => eB _ _ (by decide) (by decide) (by decide) (by decide)) hY.2.2⟩
    have q := hY.1 (ed.mp hd)
    refine ⟨by rw [eA _ _ (by omega) (by omega)]; exact q.1, by rw [eA _ _ (by omega) (by omega)]; exact q.2.1, by rw [e248]; exact q.2.2.1, fun a ha => ?_⟩
    rw [eA _ _ (by omega) (by omega), eB _ _ (by decide) (by decide) (by decide) (by decide)]
    exact q.2.2.2 a ha
  · have e1 : rl_eA A A' s := fun c k _ _ h3 => eA _ k (by omega) (by omega)
    have e2 : rl_eB B B' s := ⟨fun c hc => (eB2 c s hsr).elim id (fun q => eB _ _ q.1 q.2.1 q.2.2.1 q.2.2.2), fun c k hc _ => eB _ _ (by omega) (by omega) (by omega) (by omega), fun c k hc _ => eB _ _ (by omega) (by omega) (by omega) (by omega), fun k _ => eB _ _ (by decide) (by decide) (by decide) (by decide), fun k _ => eB _ _ (by decide) (by decide) (by decide) (by decide)⟩
    exact ⟨rl_N_fr hs ok.1 ok.2.1 g (rl_gQ_id (fun c k hc => eB _ k (by omega) (by omega) (by omega) (by omega))) e1 e2 (h.2 s hs).1, rl_Y_fr hs ed e1 e2 (h.2 s hs).2⟩
theorem rl_cut {A B : wx_S} {r : Nat} (h : rl_X A B r) : zc_cut A r ↔ B 200 r = 0 := by
  unfold zc_cut
  rcases h with h | h <;> omega
theorem zc_wr_64 (A : wx_S) (r : Nat) {k : Nat} (hk : k ≠ 12) : zc_wrote A r (64 + r) k = A (64 + r) k := by
  rw [zc_wrote, wx_u_nc (by omega)]
  split
  · rfl
  · rw [wx_u_nk hk]
theorem zc_wr_12 (A : wx_S) (r : Nat) : zc_wrote A r (64 + r) 12 = if A (64 + r) 11 = 0 then A (64 + r) 12 else A (64 + r) 12 - 1 := by
  rw [zc_wrote, wx_u_nc (by omega)]
  split
  · rfl
  · rw [wx_u_eq]
theorem rl_sWr {A B : wx_S} {r : Nat} (hr : r < 4) (h : rl_R A B) (hc : B 200 r ≠ 0) : rl_R (zc_wrote A r) (zm_wrote B r) := by
  obtain ⟨h1, h2, _⟩ := (h.2 r hr).1
  have e6 : zc_wrote A r (68 + r) 6 = A (68 + r) 6 + 1 := by rw [zc_wrote, wx_u_eq]
  have oth : ∀ {c : Nat} k, c ≠ 200 → c ≠ 196 → zm_wrote B r c k = B c k := fun k a1 a2 => zm_wrote_oth B r k a1 a2
  refine rl_sSX hr h (fun c k a1 a2 => zc_wrote_oth A r k a1 a2) (zc_wrote_dk A r (by decide)) (zc_wrote_dk A r (by decide)) (fun c k a1 a2 _ _ => oth k a2 a1) (fun c s hs => ?_) ?_ ?_
  · by_cases ha : c = 196
    · subst ha; exact Or.inl (by rw [zm_wrote, wx_u_nk hs, wx_u_nc (by decide)])
    · by_cases hb : c = 200
      · subst hb; exact Or.inl (by rw [zm_wrote, wx_u_nc (by decide), wx_u_nk hs])
      · exact Or.inl (oth s hb ha)
  · refine ⟨by rw [zc_wr_64 _ _ (by decide)]; exact h1.1, by rw [zc_wr_64 _ _ (by decide), oth _ (by decide) (by decide)]; exact h1.2.1, by rw [zc_wr_64 _ _ (by decide), oth _ (by decide) (by decide)]; exact h1.2.2.1, by rw [zc_wr_64 _ _ (by decide), oth _ (by decide) (by decide)]; exact h1.2.2.2.1, by rw [zc_wrote_dk _ _ (by decide), oth _ (by decide) (by decide)]; exact h1.2.2.2.2.1, by rw [e6, zm_wrote, wx_u_eq, h1.2.2.2.2.2.1], ?_, ?_⟩
    · rw [zc_wr_12]
      have := h1.2.2.2.2.2.2.1
      split <;> omega
    · rw [zc_wrote_oth _ _ _ (by omega) (by omega), oth _ (by decide) (by decide)]; exact h1.2.2.2.2.2.2.2
  · unfold rl_X
    rw [zc_wr_64 _ _ (by decide), zc_wr_12, show zm_wrote B r 200 r = (if 0 < B 200 r ∧ B 200 r < 2147483648 then B 200 r - 1 else 4294967295) by rw [zm_wrote, wx_u_nc (by decide), wx_u_eq]]
    rcases h2 with h2 | h2
    · rw [if_neg (show ¬ (0 < B 200 r ∧ B 200 r < 2147483648) by omega)]
      exact Or.inl ⟨h2.1, rfl⟩
    · rw [if_neg (show ¬ A (64 + r) 11 = 0 by omega), if_pos (show 0 < B 200 r ∧ B 200 r < 2147483648 by omega)]
      exact Or.inr ⟨h2.1, by omega, by omega⟩
/-! the queue of own transfers -/
theorem rl_qF (B : wx_S) (r : Nat) : ∀ n t, B 136 1 ≤ t + n → (zm_qF B r t n = 4294967295 ∧ ∀ x, t ≤ x → x < B 136 1 → ¬ (B 152 x = r ∧ B 156 x = 0)) ∨ (t ≤ zm_qF B r t n ∧ zm_qF B r t n < B 136 1 ∧ (B 152 (zm_qF B r t n) = r ∧ B 156 (zm_qF B r t n) = 0) ∧ ∀ x, t ≤ x → x < zm_qF B r t n → ¬ (B 152 x = r ∧ B 156 x = 0))
  | 0, t, h => Or.inl ⟨rfl, fun x h1 h2 => by omega⟩
  | n + 1, t, h => by
    rw [zm_qF]
    by_cases h1 : B 136 1 ≤ t
    · rw [if_pos h1]; exact Or.inl ⟨rfl, fun x a1 a2 => by omega⟩
    · rw [if_neg h1]
      by_cases h2 : B 152 t = r ∧ B 156 t = 0
      · rw [if_pos h2]; exact Or.inr ⟨Nat.le_refl _, by omega, h2, fun x a1 a2 => by omega⟩
      · rw [if_neg h2]
        rcases rl_qF B r n (t + 1) (by omega) with ⟨a, b⟩ | ⟨a, b, c, d⟩
        · refine Or.inl ⟨a, fun x a1 a2 => ?_⟩
          by_cases hx : x = t
          · rw [hx]; exact h2
          · exact b x (by omega) a2
        · refine Or.inr ⟨by omega, b, c, fun x a1 a2 => ?_⟩
          by_cases hx : x = t
          · rw [hx]; exact h2
          · exact d x (by omega) a2
theorem rl_q {A B : wx_S} {r j t : Nat} (hQ : rl_Q A B r) (h40 : B 136 1 ≤ 40) (hj : A (68 + r) 2 ≤ j) (h1 : ∀ i, i < A (68 + r) 1 → A (68 + r) 2 ≤ i → i < j → A (72 + r) i < t) (h2 : j < A (68 + r) 1 → t ≤ A (72 + r) j) : zm_q B r t = if A (68 + r) 1 ≤ j then 4294967295 else A (72 + r) j := by
  obtain ⟨q1, q2, q3, q4, q5⟩ := hQ
  have mono : ∀ i k, i < A (68 + r) 1 → k < A (68 + r) 1 → A (72 + r) i < A (72 + r) k → i < k := fun i k hi hk hl => Nat.lt_of_not_le (fun q => by
    by_cases e : i = k
    · rw [e] at hl; exact Nat.lt_irrefl _ hl
    · have := q3 k i (by omega) hi; omega)
  have sp := rl_qF B r 41 t (by omega)
  change (zm_q B r t = _ ∧ _) ∨ (_ ≤ zm_q B r t ∧ zm_q B r t < _ ∧ (B 152 (zm_q B r t) = r ∧ B 156 (zm_q B r t) = 0) ∧ ∀ x, _ → x < zm_q B r t → _) at sp
  by_cases hn : A (68 + r) 1 ≤ j
  · rw [if_pos hn]
    rcases sp with ⟨a, _⟩ | ⟨a, b, c, _⟩
    · exact a
    · obtain ⟨i, hi, e⟩ := q4 _ b c.1
      have m := (q5 i hi).mp (by rw [e]; exact c.2)
      have := h1 i hi m (by omega)
      omega
  · rw [if_neg hn]
    have hj1 := q2 j (by omega)
    have hj2 := (q5 j (by omega)).mpr hj
    have hj3 := h2 (by omega)
    rcases sp with ⟨_, b⟩ | ⟨a, b, c, d⟩
    · exact absurd ⟨hj1.2, hj2⟩ (b _ hj3 hj1.1)
    · obtain ⟨i, hi, e⟩ := q4 _ b c.1
      have m := (q5 i hi).mp (by rw [e]; exact c.2)
      have n1 : ¬ A (72 + r) j < zm_q B r t := fun q => d _ hj3 q ⟨hj1.2, hj2⟩
      have n2 : ¬ i < j := fun q => by have := h1 i hi m q; omega
      by_cases hij : i = j
      · rw [← hij, e]
      · have := q3 j i (by omega) hi; omega
theorem rl_q1 {A B : wx_S} {r : Nat} (hQ : rl_Q A B r) (h40 : B 136 1 ≤ 40) : zm_q B r 0 = zc_q1 A r := by
  rw [zc_q1]
  exact rl_q hQ h40 (Nat.le_refl _) (fun i _ h1 h2 => by omega) (fun _ => Nat.zero_le _)
theorem rl_q2 {A B : wx_S} {r : Nat} (hQ : rl_Q A B r) (h40 : B 136 1 ≤ 40) : zm_two B r = zc_q1 (zc_qX A r) r := by
  have e1 := rl_q1 hQ h40
  rw [zm_two, e1]
  by_cases hn : A (68 + r) 1 ≤ A (68 + r) 2
  · rw [zc_q1, if_pos hn, if_neg (by decide), zc_qX, if_pos hn, zc_q1, if_pos hn]
  · have z := hQ.2.1 (A (68 + r) 2) (by omega)
    rw [zc_q1, if_neg hn, if_pos (by omega), zc_qX, if_neg hn, zc_q1, wx_u_nk (by decide), wx_u_eq, wx_u_nc (by omega)]
    exact rl_q hQ h40 (by omega) (fun i _ h1 h2 => by
      have : i = A (68 + r) 2 := by omega
      rw [this]; omega) (fun h => hQ.2.2.1 _ _ (by omega) h)
