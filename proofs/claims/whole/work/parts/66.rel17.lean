/-! notes are taken -/
theorem zz_pig : ∀ (m n : Nat) (f : Nat → Nat), (∀ i, i < n → f i < m) → (∀ i j, i < n → j < n → f i = f j → i = j) → n ≤ m
  | 0, n, f, h, _ => by
    cases n with
    | zero => exact Nat.le_refl _
    | succ n => exact absurd (h 0 (by omega)) (by omega)
  | m + 1, n, f, h, inj => by
    by_cases hx : ∃ i, i < n ∧ f i = m
    · obtain ⟨i0, hi0, e0⟩ := hx
      have q := zz_pig m (n - 1) (fun i => f (if i = i0 then n - 1 else i)) (fun i hi => by
        have h1 := h (if i = i0 then n - 1 else i) (by split <;> omega)
        have h2 : f (if i = i0 then n - 1 else i) ≠ m := fun e => by
          have := inj _ _ (by split <;> omega) hi0 (e.trans e0.symm)
          split at this <;> omega
        show f (if i = i0 then n - 1 else i) < m
        omega) (fun i j hi hj e => by
        have := inj _ _ (by split <;> omega) (by split <;> omega) e
        split at this <;> split at this <;> omega)
      omega
    · have q := zz_pig m n f (fun i hi => by
        have h1 := h i hi
        have h2 : f i ≠ m := fun e => hx ⟨i, hi, e⟩
        omega) inj
      omega
theorem rl_sGP {A B A' B' : wx_S} {r : Nat} (hr : r < 4) (h : rl_R A B) (eA : ∀ c k, c ≠ 84 + r → c ≠ 88 + r → c ≠ 92 + r → c ≠ 96 + r → A' c k = A c k) (eB : ∀ c k, c ≠ 232 → c ≠ 236 → B' c k = B c k) (eB2 : ∀ c s k, c = 232 ∨ c = 236 → s < 4 → s ≠ r → k < 90 → B' c (90 * s + k) = B c (90 * s + k)) (hP : rl_P A' B' r) (hW : rl_W A' B' r) (hJ : rl_J B' r) (hH : rl_H B') : rl_R A' B' := by
  have ok := rl_Gok h hr
  have h90 : B 136 7 ≤ 90 := ok.1.1
  have eb : ∀ {c : Nat} (k : Nat), c < 232 ∨ 236 < c → B' c k = B c k := fun k hc => eB _ k (by omega) (by omega)
  have ea : ∀ {c : Nat} (k : Nat), c < 84 ∨ 100 ≤ c → A' c k = A c k := fun k hc => eA _ k (by omega) (by omega) (by omega) (by omega)
  have g : rl_gV B B' := rl_gV_id h90 (fun c k hc => eb k (by omega))
  obtain ⟨G1, G2, G3, G4, G5, G6, G7, G8, G9⟩ := h.1
  have F' : rl_F A' B' := rl_F_ext (ea _ (by omega)) (fun k => eb k (by omega)) G4
  refine ⟨⟨rl_T_ext (fun c k hc => ea k (by omega)) (fun c k hc => eb k (by omega)) G1, rl_V_ext (fun c k _ hc => ea k (by omega)) (fun c k hc => eb k (by omega)) G2, rl_M_ext (fun c k _ hc => ea k (by omega)) (fun c k hc => eb k (by omega)) G3, F', zm_V_ext (fun c k hc => eb k (by omega)) G5, zm_D_ext (fun c k hc => eb k (by omega)) G6, fun k hk => by rw [eb _ (by omega)]; exact G7 k hk, fun t ht => by rw [eb _ (by omega), eb _ (by omega), eb _ (by omega)]; exact G8 t ht, hH⟩, fun s hs => ?_⟩
  have ed : rl_dead B' s ↔ rl_dead B s := by rw [rl_dead, rl_dead, eb _ (by omega), eb _ (by omega)]
  by_cases hsr : s = r
  · subst hsr
    obtain ⟨⟨h1, h2, h3, h4, h5, h6, h7, h8, ⟨h9, h10, h11, h12⟩, h13⟩, hY⟩ := h.2 s hr
    have hp := zm_B_pos hY.2.2
    have e228 : ∀ k, B' 228 k = B 228 k := fun k => eb k (by omega)
    have e240 : ∀ k, B' 240 k = B 240 k := fun k => eb k (by omega)
    have e248 : B' 248 s = B 248 s := eb _ (by omega)
    refine ⟨⟨rl_S_x (fun c k hc => ea k (by omega)) (fun c hc => eb s (by omega)) (by rw [ea _ (by omega), eb _ (by omega)]; exact h1.2.2.2.2.2.2.2.1) (by rw [eb _ (by omega)]; exact h1.2.2.2.2.2.2.2.2.1) (by rw [eb _ (by omega)]; exact h1.2.2.2.2.2.2.2.2.2) h1, rl_X_x (fun k => ea k (by omega)) (eb _ (by omega)) h2, rl_Q_rg (rl_gQ_id (fun c k hc => eb k (by omega))) (fun k => ea k (by omega)) (ea _ (by omega)) (ea _ (by omega)) h3, rl_E_rg (fun c k hc => ea k (by omega)) (fun c k hc _ => eb _ (by omega)) h4, hP, hW, rl_D_rg (fun c k hc => ea k (by omega)) (fun k _ => e228 _) h7, rl_K_rg hr ok.2.1 h90 (fun k => ea k (by omega)) (fun k _ => e228 _) (fun k _ => e240 _) h8, ⟨rl_I_rg hr ok.2.1 g (fun k _ => e228 _) h9, rl_U_of hr hH F' (fun u hu => (hP u (by rw [eb _ (by omega)] at hu; omega)).2.1.2), rl_Z_rg ok.1 g (fun k _ => e228 _) (fun k _ => e240 _) h11, rl_C_rg hr ok.2.1 g (fun k _ => e228 _) h12⟩, hJ⟩, fun hd => ?_, fun hd => rl_Bk_rg hp (fun c k hc => ea k (by omega)) e248 (fun k _ => eb _ (by omega)) (fun k _ => eb _ (by omega)) (hY.2.1 (fun q => hd (ed.mpr q))), zm_B_ext e248 (fun k _ => eb _ (by omega)) (fun a _ => eb _ (by omega)) hY.2.2⟩
    have q := hY.1 (ed.mp hd)
    refine ⟨by rw [ea _ (by omega)]; exact q.1, by rw [ea _ (by omega)]; exact q.2.1, by rw [e248]; exact q.2.2.1, fun a ha => ?_⟩
    rw [ea _ (by omega), eb _ (by omega)]
    exact q.2.2.2 a ha
  · have e1 : rl_eA A A' s := fun c k _ _ h3 => eA _ k (by omega) (by omega) (by omega) (by omega)
    have e2 : rl_eB B B' s := ⟨fun c hc => eb _ (by omega), fun c k hc hk => eb _ (by omega), fun c k hc hk => by
      by_cases hq : c = 232 ∨ c = 236
      · exact eB2 c s k hq hs hsr hk
      · exact eb _ (by omega), fun k _ => eb _ (by omega), fun k _ => eb _ (by omega)⟩
    exact ⟨rl_N_fr hs ok.1 ok.2.1 g (rl_gQ_id (fun c k hc => eb k (by omega))) e1 e2 (h.2 s hs).1, rl_Y_fr hs ed e1 e2 (h.2 s hs).2⟩
theorem rl_sNE {A B : wx_S} {r u q : Nat} (hr : r < 4) (h : rl_R A B) (hu : u < B 136 7) (hq : q < 4) : rl_R (zc_nE A r u q) (zm_nE B r u q) := by
  have ok := rl_Gok h hr
  have h90 : B 136 7 ≤ 90 := ok.1.1
  have hP := (h.2 r hr).1.2.2.2.2.1
  have hW := (h.2 r hr).1.2.2.2.2.2.1
  unfold zc_nE zm_nE
  have oB : ∀ {c : Nat} k, c ≠ 232 → wx_u B 232 (90 * r + u) (B 232 (90 * r + u) ||| 2 ^ q) c k = B c k := fun k hc => wx_u_nc hc
  have g : rl_gV B (wx_u B 232 (90 * r + u) (B 232 (90 * r + u) ||| 2 ^ q)) := rl_gV_id h90 (fun c k hc => oB k (by omega))
  refine rl_sGP hr h (fun c k _ a _ _ => wx_u_nc a) (fun c k a _ => oB k a) (fun c s k hc hs hsr hk => ?_) (fun v hv => ?_) (rl_W_rg ok.1 g (wx_u_nc (by omega)) (fun k => wx_u_nc (by omega)) (fun k _ => oB _ (by decide)) (fun k _ => oB _ (by decide)) hP hW) (rl_J_rg hr ok.2.1 h90 (fun k _ => oB _ (by decide)) (fun k _ => oB _ (by decide)) (h.2 r hr).1.2.2.2.2.2.2.2.2.2) (rl_H_ext (fun c k hc => oB k (by omega)) h.1.2.2.2.2.2.2.2.2)
  · by_cases h8 : c = 232
    · subst h8; exact wx_u_nk (by omega)
    · exact oB _ h8
  · have z := hP v hv
    have zu := hP u (by omega)
    rw [wx_u_nc (c' := 92 + r) (by omega), oB (c := 236) _ (by decide), oB (c := 136) _ (by decide)]
    by_cases hvu : v = u
    · subst hvu
      rw [wx_u_eq, wx_u_eq, z.1.1]
      exact ⟨⟨rfl, z.1.2⟩, ⟨zn_or16 z.2.1.1 (zn_pow4 hq), z.2.1.2⟩, z.2.2⟩
    · rw [wx_u_nk hvu, wx_u_nk (by omega)]
      exact z
theorem zn_ones_mono : ∀ x, x < 16 → ∀ q, q < 4 → zn_ones x ≤ zn_ones (x ||| 2 ^ q) := by decide +kernel
theorem rl_sNR {A B : wx_S} {r u q : Nat} (hr : r < 4) (h : rl_R A B) (hu : u < B 136 7) (hq : q < 4) (hm : ∃ m, m < B 136 13 ∧ B 188 m = 2 ∧ B 180 m = q ∧ B 184 m = u) : rl_R (zc_nR A r u q) (zm_nR B r u q) ∧ (zn_ones (A (92 + r) u) < 3 → A (84 + r) 3 < 90) := by
  have hr' := hr
  have ok := rl_Gok h hr
  have h90 : B 136 7 ≤ 90 := ok.1.1
  have hP := (h.2 r hr).1.2.2.2.2.1
  obtain ⟨w1, w2, w3, w4⟩ := (h.2 r hr).1.2.2.2.2.2.1
  obtain ⟨k1, k2, k3, k4, k5⟩ := h.1.2.2.2.2.2.2.2.2
  have zu := hP u (by omega)
  have cap : zn_ones (A (92 + r) u) < 3 → A (84 + r) 3 < 90 := fun hl => by
    have nin : ∀ i, i < A (84 + r) 3 → A (96 + r) i ≠ u := fun i hi e => by
      have := ((w4 u hu).mp ⟨i, hi, e⟩).1
      rw [← zu.1.2] at this
      omega
    have p := zz_pig (B 136 7) (A (84 + r) 3 + 1) (fun i => if i = A (84 + r) 3 then u else A (96 + r) i) (fun i hi => by
      show (if i = A (84 + r) 3 then u else A (96 + r) i) < B 136 7
      split
      · exact hu
      · exact w2 i (by omega)) (fun i j hi hj e => by
      change (if i = A (84 + r) 3 then u else A (96 + r) i) = (if j = A (84 + r) 3 then u else A (96 + r) j) at e
      clear w4
      split at e <;> split at e
      · omega
      · exact absurd e.symm (nin j (by omega))
      · exact absurd e (nin i (by omega))
      · exact w3 i j (by omega) (by omega) e)
    clear w4 nin
    omega
  refine ⟨?_, cap⟩
  have oB : ∀ {c : Nat} k, c ≠ 236 → zm_nR B r u q c k = B c k := fun k hc => wx_u_nc hc
  have e236 : ∀ x, zm_nR B r u q 236 x = if x = 90 * r + u then B 236 (90 * r + u) ||| 2 ^ q else B 236 x := fun x => by
    unfold zm_nR
    by_cases hx : x = 90 * r + u
    · rw [hx, wx_u_eq, if_pos rfl]
    · rw [wx_u_nk hx, if_neg hx]
  refine rl_sGP hr h (fun c k a1 _ a3 a4 => zc_nR_oth A r u q k a3 a4 a1) (fun c k _ a => oB k a) (fun c s k hc hs hsr hk => ?_) (fun v hv => ?_) ?_ ?_ ?_
  · by_cases h8 : c = 236
    · subst h8; rw [e236, if_neg (by omega)]
    · exact oB _ h8
  · have z := hP v hv
    rw [zc_nR_oth A r u q _ (by omega) (by omega) (by omega), zc_nR_rd A r u q v hr, oB (c := 232) _ (by decide), oB (c := 136) _ (by decide), e236]
    by_cases hvu : v = u
    · rw [if_pos hvu, if_pos (by omega), zu.1.2]
      refine ⟨⟨z.1.1, rfl⟩, ⟨z.2.1.1, zn_or16 zu.2.1.2 (zn_pow4 hq)⟩, fun hl => ?_⟩
      omega
    · rw [if_neg hvu, if_neg (by omega)]
      exact z
  · have key : ∀ v, v < B 136 7 → (3 ≤ zn_ones (zm_nR B r u q 236 (90 * r + v)) ↔ if v = u then 3 ≤ zn_ones (A (92 + r) u ||| 2 ^ q) else 3 ≤ zn_ones (B 236 (90 * r + v))) := fun v hv => by
      rw [e236]
      by_cases hvu : v = u
      · rw [if_pos hvu, if_pos (by omega), zu.1.2]
      · rw [if_neg hvu, if_neg (by omega)]
    unfold rl_W
    simp only [show ∀ k, zm_nR B r u q 136 k = B 136 k from fun k => oB k (by decide), show ∀ k, zm_nR B r u q 228 k = B 228 k from fun k => oB k (by decide), show ∀ k, zm_nR B r u q 164 k = B 164 k from fun k => oB k (by decide), show ∀ k, zm_nR B r u q 160 k = B 160 k from fun k => oB k (by decide)]
    have hJ := (h.2 r hr).1.2.2.2.2.2.2.2.2.2
    have hu0 : zn_ones (A (92 + r) u) < 3 → B 228 (60 * r + 4 * B 164 u + B 160 u) ≠ u + 1 := fun hl e => by
      have b := ok.1.2.2.1 u hu
      have z := hJ _ _ b.2.1 b.2.2.1 b.1 (by rw [e]; omega)
      rw [e, Nat.add_sub_cancel, ← zu.1.2] at z
      omega
    have nin : zn_ones (A (92 + r) u) < 3 → ∀ i, i < A (84 + r) 3 → A (96 + r) i ≠ u := fun hl i hi e => by
      have := ((w4 u hu).mp ⟨i, hi, e⟩).1
      rw [← zu.1.2] at this
      omega
    by_cases hc : zn_ones (A (92 + r) u) < 3 ∧ 3 ≤ zn_ones (A (92 + r) u ||| 2 ^ q)
    · have en : zc_nR A r u q (84 + r) 3 = A (84 + r) 3 + 1 := by rw [zc_nR, if_pos hc, wx_u_eq]
      have ei : ∀ i, zc_nR A r u q (96 + r) i = if i = A (84 + r) 3 then u else A (96 + r) i := fun i => by
        rw [zc_nR, if_pos hc, wx_u_nc (by omega)]
        by_cases hi : i = A (84 + r) 3
        · rw [hi, wx_u_eq, if_pos rfl]
        · rw [wx_u_nk hi, if_neg hi, wx_u_nc (by omega)]
      have nn := nin hc.1
      have cp := cap hc.1
      simp only [en, ei]
      refine ⟨by omega, fun i hi => ?_, fun i j hi hj e => ?_, fun v hv => ?_⟩
      · split
        · exact hu
        · exact w2 i (by omega)
      · clear w4 key
        split at e <;> split at e
        · omega
        · exact absurd e.symm (nn j (by omega))
        · exact absurd e (nn i (by omega))
        · exact w3 i j (by omega) (by omega) e
      · rw [key v hv]
        by_cases hvu : v = u
        · subst hvu
          rw [if_pos rfl]
          exact ⟨fun _ => ⟨hc.2, hu0 hc.1⟩, fun _ => ⟨A (84 + r) 3, by omega, if_pos rfl⟩⟩
        · rw [if_neg hvu, ← w4 v hv]
          constructor
          · rintro ⟨i, hi, e⟩
            by_cases hi2 : i = A (84 + r) 3
            · rw [if_pos hi2] at e; exact absurd e.symm hvu
            · rw [if_neg hi2] at e; exact ⟨i, by clear w4 key; omega, e⟩
          · rintro ⟨i, hi, e⟩
            exact ⟨i, by clear w4 key; omega, by rw [if_neg (by clear w4 key; omega)]; exact e⟩
    · have en : zc_nR A r u q (84 + r) 3 = A (84 + r) 3 := by rw [zc_nR, if_neg hc, wx_u_nc (by omega)]
      have ei : ∀ i, zc_nR A r u q (96 + r) i = A (96 + r) i := fun i => by rw [zc_nR, if_neg hc, wx_u_nc (by omega)]
      simp only [en, ei]
      refine ⟨w1, w2, w3, fun v hv => ?_⟩
      rw [key v hv, w4 v hv]
      by_cases hvu : v = u
      · subst hvu
        rw [if_pos rfl, zu.1.2]
        have mo := zn_ones_mono _ zu.2.1.2 q hq
        rw [zu.1.2] at hc
        constructor
        · exact fun z => ⟨by omega, z.2⟩
        · exact fun z => ⟨by have := z.1; omega, z.2⟩
      · rw [if_neg hvu]
  · have hJ := (h.2 r hr).1.2.2.2.2.2.2.2.2.2
    intro w a h1 h2 h3 h4
    have q0 := rl_D_le hr ok.2.1 h2 h3
    rw [oB (c := 228) _ (by decide)] at h4 ⊢
    have z := hJ w a h1 h2 h3 h4
    rw [e236]
    split
    · rename_i he
      rw [he] at z
      exact Nat.le_trans z (zn_ones_mono _ zu.2.1.2 q hq)
    · exact z
  · unfold rl_H
    simp only [show ∀ k, zm_nR B r u q 136 k = B 136 k from fun k => oB k (by decide), show ∀ k, zm_nR B r u q 188 k = B 188 k from fun k => oB k (by decide), show ∀ k, zm_nR B r u q 180 k = B 180 k from fun k => oB k (by decide), show ∀ k, zm_nR B r u q 184 k = B 184 k from fun k => oB k (by decide), show ∀ k, zm_nR B r u q 192 k = B 192 k from fun k => oB k (by decide), show ∀ k, zm_nR B r u q 212 k = B 212 k from fun k => oB k (by decide), show ∀ k, zm_nR B r u q 164 k = B 164 k from fun k => oB k (by decide), show ∀ k, zm_nR B r u q 160 k = B 160 k from fun k => oB k (by decide), show ∀ k, zm_nR B r u q 204 k = B 204 k from fun k => oB k (by decide)]
    refine ⟨k1, fun s v p hs hv hp hb => ?_, k3, k4, k5⟩
    rw [e236] at hb
    by_cases hx : 90 * s + v = 90 * r + u
    · rw [if_pos hx, zn_or_bit] at hb
      have es : s = r ∧ v = u := by omega
      obtain ⟨es1, es2⟩ := es
      subst es1; subst es2
      by_cases hpq : p = q
      · rw [hpq]; exact hm
      · rw [if_neg hpq] at hb; exact k2 s v p hs hv hp hb
    · rw [if_neg hx] at hb
      exact k2 s v p hs hv hp hb
