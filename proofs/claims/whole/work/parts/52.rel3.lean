/-! what a node has put out -/
def rl_K (A B : wx_S) (r : Nat) : Prop := ∀ w a, 1 ≤ w → w ≤ 14 → a < 4 → (A (128 + r) w / 2 ^ a % 2 = 1 ↔ (B 228 (60 * r + 4 * w + a) ≠ 0 ∧ B 240 (90 * r + (B 228 (60 * r + 4 * w + a) - 1)) ≠ 0))
theorem rl_K_ext {A B A' B' : wx_S} {r : Nat} (eA : ∀ k, A' (128 + r) k = A (128 + r) k) (eB : ∀ c k, c = 228 ∨ c = 240 → B' c k = B c k) (h : rl_K A B r) : rl_K A' B' r := fun w a h1 h2 h3 => by
  rw [eA, eB 228 _ (by omega), eB 240 _ (by omega)]
  exact h w a h1 h2 h3
theorem rl_Bk_ext {A B A' B' : wx_S} {r : Nat} (eA : ∀ c k, c = 112 + r ∨ c = 116 + r ∨ c = 120 + r → A' c k = A c k) (eB : ∀ c k, c = 244 ∨ c = 248 ∨ c = 252 → B' c k = B c k) (h : rl_Bk A B r) : rl_Bk A' B' r := by
  refine ⟨?_, ?_, fun k hk => ?_, fun a ha => ?_⟩
  · rw [eA _ _ (by omega), eB _ _ (by omega)]; exact h.1
  · rw [eA _ _ (by omega), eB _ _ (by omega), zm_msk_ext (X := B) (Y := B') _ (fun k _ => eB _ _ (by omega))]; exact h.2.1
  · rw [eB _ _ (by omega)] at hk
    rw [eA _ _ (by omega), eB _ _ (by omega)]; exact h.2.2.1 k hk
  · rw [eA _ _ (by omega), eB _ _ (by omega)]; exact h.2.2.2 a ha
theorem rl_emI_fl {Z : wx_S} {r k : Nat} : ∀ i q, zm_emI Z r k i 240 q ≠ 0 ↔ Z 240 q ≠ 0 ∨ ∃ a, a < i ∧ Z 256 k / 2 ^ a % 2 = 1 ∧ q = 90 * r + (Z 228 (60 * r + 4 * k + a) - 1)
  | 0, q => by
    rw [zm_emI]
    constructor
    · exact Or.inl
    · rintro (h | ⟨a, h, _⟩)
      · exact h
      · omega
  | i + 1, q => by
    have ih := rl_emI_fl (Z := Z) (r := r) (k := k) i
    have e1 : zm_emI Z r k i 256 k = Z 256 k := zm_emI_oth Z r k k (by decide) (by decide) (by decide) (by decide) i
    have e2 : zm_emI Z r k i 228 (60 * r + 4 * k + i) = Z 228 (60 * r + 4 * k + i) := zm_emI_oth Z r k _ (by decide) (by decide) (by decide) (by decide) i
    rw [zm_emI, zm_emA, e1, e2]
    by_cases hb : Z 256 k / 2 ^ i % 2 = 1
    · by_cases h0 : zm_emI Z r k i 240 (90 * r + (Z 228 (60 * r + 4 * k + i) - 1)) = 0
      · rw [if_pos ⟨hb, h0⟩, zm_place_oth _ _ _ _ (by decide) (by decide) (by decide), zm_place_oth _ _ _ _ (by decide) (by decide) (by decide)]
        by_cases hq : q = 90 * r + (Z 228 (60 * r + 4 * k + i) - 1)
        · constructor
          · intro _; exact Or.inr ⟨i, by omega, hb, hq⟩
          · intro _; rw [hq, wx_u_eq]; decide
        · rw [wx_u_nk hq, ih q]
          constructor
          · rintro (h | ⟨a, h1, h2, h3⟩)
            · exact Or.inl h
            · exact Or.inr ⟨a, by omega, h2, h3⟩
          · rintro (h | ⟨a, h1, h2, h3⟩)
            · exact Or.inl h
            · by_cases ha : a = i
              · subst ha; exact absurd h3 hq
              · exact Or.inr ⟨a, by omega, h2, h3⟩
      · rw [if_neg (fun z => h0 z.2), ih q]
        constructor
        · rintro (h | ⟨a, h1, h2, h3⟩)
          · exact Or.inl h
          · exact Or.inr ⟨a, by omega, h2, h3⟩
        · rintro (h | ⟨a, h1, h2, h3⟩)
          · exact Or.inl h
          · by_cases ha : a = i
            · subst ha; rw [← h3] at h0; exact (ih q).mp h0
            · exact Or.inr ⟨a, by omega, h2, h3⟩
    · rw [if_neg (fun z => hb z.1), ih q]
      constructor
      · rintro (h | ⟨a, h1, h2, h3⟩)
        · exact Or.inl h
        · exact Or.inr ⟨a, by omega, h2, h3⟩
      · rintro (h | ⟨a, h1, h2, h3⟩)
        · exact Or.inl h
        · by_cases ha : a = i
          · subst ha; exact absurd h2 hb
          · exact Or.inr ⟨a, by omega, h2, h3⟩
/-- one vertex, one place -/
theorem rl_I_inj {B : wx_S} {r w a w' a' : Nat} (hI : rl_I B r) (h1 : 1 ≤ w) (h2 : w ≤ 14) (h3 : a < 4) (h1' : 1 ≤ w') (h2' : w' ≤ 14) (h3' : a' < 4) (hn : B 228 (60 * r + 4 * w + a) ≠ 0) (hn' : B 228 (60 * r + 4 * w' + a') ≠ 0) (he : B 228 (60 * r + 4 * w + a) - 1 = B 228 (60 * r + 4 * w' + a') - 1) : w = w' ∧ a = a' := by
  have g := hI w a h1 h2 h3 hn
  have g' := hI w' a' h1' h2' h3' hn'
  rw [he] at g
  exact ⟨g.1.symm.trans g'.1, g.2.symm.trans g'.2⟩
theorem rl_emF {A B : wx_S} {r k au : Nat} (hr : r < 4) (hk1 : 1 ≤ k) (hk : k ≤ 14) (hT : rl_T A B) (hV : rl_V A B) (hB : zm_ok B r) (hD : rl_D A B r) (hI : rl_I B r) (hK : rl_K A B r) (hR : zm_R B r k (B 256 k)) (hau : ∀ a, a < 4 → (au / 2 ^ a % 2 = 1 ↔ B 256 k / 2 ^ a % 2 = 1 ∧ ¬ A (128 + r) k / 2 ^ a % 2 = 1)) (bk : rl_Bk A B r) : ∀ i, i ≤ 4 → rl_Bk (zc_emF A r k au i) (zm_emI B r k i) r
  | 0, _ => bk
  | i + 1, hi => by
    have ih := rl_emF hr hk1 hk hT hV hB hD hI hK hR hau bk i (by omega)
    have ok := (zm_emI_ok hr hk hB hR i (by omega)).1
    have fl := rl_emI_fl (Z := B) (r := r) (k := k) i (90 * r + (B 228 (60 * r + 4 * k + i) - 1))
    have eB : ∀ {c : Nat} q, c ≠ 240 → c ≠ 244 → c ≠ 248 → c ≠ 252 → zm_emI B r k i c q = B c q := fun q a1 a2 a3 a4 => zm_emI_oth B r k q a1 a2 a3 a4 i
    have eA : ∀ {c : Nat} q, c ≠ 112 + r → c ≠ 116 + r → c ≠ 120 + r → zc_emF A r k au i c q = A c q := fun q a1 a2 a3 => zc_emF_oth A r k au q a1 a2 a3 i
    have gl := rl_D_le hr hB.2.1 hk (show i < 4 by omega)
    have g9 : B 136 7 ≤ 90 := hB.1.1
    have gD := hD.1 k i hk1 hk (by omega)
    have gK := hK k i hk1 hk (by omega)
    have ga := hau i (by omega)
    rw [zc_emF, zm_emI, zc_emA, zm_emA, eA _ (by omega) (by omega) (by omega), eB (c := 256) _ (by decide) (by decide) (by decide) (by decide), eB (c := 228) _ (by decide) (by decide) (by decide) (by decide), gD]
    by_cases hb : B 256 k / 2 ^ i % 2 = 1
    · have h0 := hR.2 i (by omega) hb
      rw [if_neg h0]
      by_cases he : A (128 + r) k / 2 ^ i % 2 = 1
      · rw [if_neg (fun z => (ga.mp z.2).2 he), if_neg (fun z => fl.mpr (Or.inl (gK.mp he).2) z.2)]
        exact ih
      · have hf : zm_emI B r k i 240 (90 * r + (B 228 (60 * r + 4 * k + i) - 1)) = 0 := by
          refine Classical.byContradiction (fun hc => ?_)
          rcases fl.mp hc with h | ⟨a, h1, h2, h3⟩
          · exact he (gK.mpr ⟨h0, h⟩)
          · have ha0 := hR.2 a (by omega) h2
            have := (rl_I_inj hI hk1 hk (show i < 4 by omega) hk1 hk (show a < 4 by omega) h0 ha0 (by omega)).2
            omega
        rw [if_pos ⟨by omega, ga.mpr ⟨hb, he⟩⟩, if_pos ⟨hb, hf⟩]
        have g2 := hV.2 (B 228 (60 * r + 4 * k + i) - 1) (by omega)
        have g3 := hB.1.2.2.1 (B 228 (60 * r + 4 * k + i) - 1) (by omega)
        rw [eA _ (by omega) (by omega) (by omega), eA _ (by omega) (by omega) (by omega), eB (c := 172) _ (by decide) (by decide) (by decide) (by decide), eB (c := 176) _ (by decide) (by decide) (by decide) (by decide), g2.2.2.2.1, g2.2.2.2.2]
        have hT1 : rl_T (zc_emF A r k au i) (wx_u (zm_emI B r k i) 240 (90 * r + (B 228 (60 * r + 4 * k + i) - 1)) 1) := rl_T_ext (fun c q hc => eA q (by omega) (by omega) (by omega)) (fun c q hc => by rw [wx_u_nc (by omega)]; exact eB q (by omega) (by omega) (by omega) (by omega)) hT
        have e1 : ∀ q, wx_u (zm_emI B r k i) 240 (90 * r + (B 228 (60 * r + 4 * k + i) - 1)) 1 136 q = B 136 q := fun q => by rw [wx_u_nc (by decide)]; exact eB q (by decide) (by decide) (by decide) (by decide)
        have p1 := rl_place hT1 (zm_ok_em ok) (by rw [e1]; exact g3.2.2.2.2.1) (rl_Bk_ext (fun _ _ _ => rfl) (fun c q hc => wx_u_nc (by omega)) ih)
        refine rl_place ?_ (zm_place_ok (zm_ok_em ok) (by rw [e1]; exact g3.2.2.2.2.1)) ?_ p1
        · exact rl_T_ext (fun c q hc => zc_place_oth _ _ _ _ (by omega) (by omega) (by omega)) (fun c q hc => zm_place_oth _ _ _ _ (by omega) (by omega) (by omega)) hT1
        · rw [zm_place_oth _ _ _ _ (by decide) (by decide) (by decide), e1]; exact g3.2.2.2.2.2
    · rw [if_neg (show ¬ (_ ∧ au / 2 ^ i % 2 = 1) from fun z => hb (ga.mp z.2).1), if_neg (show ¬ (B 256 k / 2 ^ i % 2 = 1 ∧ _) from fun z => hb z.1)]
      exact ih
theorem rl_andn (x y a : Nat) (ha : a < 32) : (x &&& (y ^^^ 4294967295)) / 2 ^ a % 2 = 1 ↔ x / 2 ^ a % 2 = 1 ∧ ¬ y / 2 ^ a % 2 = 1 := by
  rw [zn_tb, zn_tb, zn_tb, Nat.testBit_and, Nat.testBit_xor, show (4294967295 : Nat) = 2 ^ 32 - 1 from rfl, Nat.testBit_two_pow_sub_one]
  simp [ha]
/-- a round is put out: what stands marked then -/
theorem rl_emK {A B A1 : wx_S} {r k : Nat} (hr : r < 4) (hk1 : 1 ≤ k) (hk : k ≤ 14) (hI : rl_I B r) (hK : rl_K A B r) (hR : zm_R B r k (B 256 k)) (eA : ∀ w, A1 (128 + r) w = if w = k then A (128 + r) k ||| B 256 k else A (128 + r) w) : rl_K A1 (zm_emI B r k 4) r := fun w a h1 h2 h3 => by
  have hr' := hr
  have gK := hK w a h1 h2 h3
  have fl := rl_emI_fl (Z := B) (r := r) (k := k) 4 (90 * r + (B 228 (60 * r + 4 * w + a) - 1))
  rw [eA, zm_emI_oth B r k _ (by decide) (by decide) (by decide) (by decide) 4, fl]
  by_cases hw : w = k
  · subst hw
    rw [if_pos rfl, zm_or_bit, gK]
    constructor
    · rintro (h | h)
      · exact ⟨h.1, Or.inl h.2⟩
      · exact ⟨hR.2 a h3 h, Or.inr ⟨a, h3, h, rfl⟩⟩
    · rintro ⟨h0, h | ⟨b, hb1, hb2, hb3⟩⟩
      · exact Or.inl ⟨h0, h⟩
      · have := (rl_I_inj hI h1 h2 h3 h1 h2 hb1 h0 (hR.2 b hb1 hb2) (by omega)).2
        subst this
        exact Or.inr hb2
  · rw [if_neg hw, gK]
    constructor
    · exact fun h => ⟨h.1, Or.inl h.2⟩
    · rintro ⟨h0, h | ⟨b, hb1, hb2, hb3⟩⟩
      · exact ⟨h0, h⟩
      · have := (rl_I_inj hI h1 h2 h3 hk1 hk hb1 h0 (hR.2 b hb1 hb2) (by omega)).1
        exact absurd this hw
theorem rl_e2 {Y S : wx_S} {r w : Nat} (hr : r < 4) (hw : w ≤ 14) (hT : rl_T Y S) (hV : rl_V Y S) (hB : zm_ok S r) (hD : rl_D Y S r) (hI : rl_I S r) (hK : rl_K Y S r) (bk : rl_Bk Y S r) (hR : ∀ k, 1 ≤ k → k ≤ w → zm_R S r k (S 256 k)) (he : ∀ k, 1 ≤ k → k ≤ w → Y (132 + r) k = S 256 k) : ∀ i, i ≤ w → rl_Bk (zc_e2 Y r i) (zm_emO S r i) r ∧ rl_K (zc_e2 Y r i) (zm_emO S r i) r
  | 0, _ => ⟨bk, hK⟩
  | i + 1, hi => by
    obtain ⟨b1, k1⟩ := rl_e2 hr hw hT hV hB hD hI hK bk hR he i (by omega)
    have ok := zm_emO_ok hr hw hB hR i (by omega)
    have eB : ∀ {c : Nat} q, c ≠ 240 → c ≠ 244 → c ≠ 248 → c ≠ 252 → zm_emO S r i c q = S c q := fun q a1 a2 a3 a4 => zm_emO_oth S r q a1 a2 a3 a4 i
    have eA : ∀ {c : Nat} q, c ≠ 112 + r → c ≠ 116 + r → c ≠ 120 + r → c ≠ 128 + r → zc_e2 Y r i c q = Y c q := fun q a1 a2 a3 a4 => zc_e2_oth Y r q a1 a2 a3 a4 i
    have hT1 : rl_T (zc_e2 Y r i) (zm_emO S r i) := rl_T_ext (fun c q hc => eA q (by omega) (by omega) (by omega) (by omega)) (fun c q hc => eB q (by omega) (by omega) (by omega) (by omega)) hT
    have hV1 : rl_V (zc_e2 Y r i) (zm_emO S r i) := rl_V_ext (fun c q h1 h2 => eA q (by omega) (by omega) (by omega) (by omega)) (fun c q hc => eB q (by omega) (by omega) (by omega) (by omega)) hV
    have hD1 : rl_D (zc_e2 Y r i) (zm_emO S r i) r := rl_D_ext (fun c q hc => eA q (by omega) (by omega) (by omega) (by omega)) (fun q => eB q (by decide) (by decide) (by decide) (by decide)) hD
    have hI1 : rl_I (zm_emO S r i) r := rl_I_ext (fun c q hc => eB q (by omega) (by omega) (by omega) (by omega)) hI
    have er : zc_e2 Y r i (132 + r) (i + 1) = zm_emO S r i 256 (i + 1) := by rw [eA _ (by omega) (by omega) (by omega) (by omega), eB _ (by decide) (by decide) (by decide) (by decide)]; exact he _ (by omega) hi
    have hR1 := ok.2 (i + 1) (by omega) hi
    have f1 := rl_emF (au := zc_e2 Y r i (132 + r) (i + 1) &&& (zc_e2 Y r i (128 + r) (i + 1) ^^^ 4294967295)) hr (show 1 ≤ i + 1 by omega) (by omega) hT1 hV1 ok.1 hD1 hI1 k1 hR1 (fun a ha => by rw [rl_andn _ _ _ (by omega), er]) b1 4 (Nat.le_refl _)
    rw [zc_e2, zm_emO]
    refine ⟨rl_Bk_ext (fun c q hc => wx_u_nc (by omega)) (fun _ _ _ => rfl) f1, rl_emK hr (by omega) (by omega) hI1 k1 hR1 (fun w => ?_)⟩
    by_cases hk : w = i + 1
    · subst hk
      rw [wx_u_eq, if_pos rfl, er]
    · rw [wx_u_nk hk, if_neg hk, zc_emF_oth _ _ _ _ _ (by omega) (by omega) (by omega)]
/-- the vertex of round w and its leader is put out -/
theorem rl_emit {A B : wx_S} {r w : Nat} (hr : r < 4) (hw1 : 1 ≤ w) (hw : w ≤ 14) (hT : rl_T A B) (hV : rl_V A B) (hB : zm_ok B r) (hC : zm_C B r) (hD : rl_D A B r) (hI : rl_I B r) (hK : rl_K A B r) (bk : rl_Bk A B r) (hl : B 228 (60 * r + 4 * w + w / 2 % 4) ≠ 0) : rl_Bk (zc_emit A r (w / 2 % 4) w) (zm_emit B r w) r ∧ rl_K (zc_emit A r (w / 2 % 4) w) (zm_emit B r w) r := by
  rw [zc_emit, zm_emit]
  have eB : ∀ {c : Nat} q, c ≠ 256 → zm_spread B r w (w / 2 % 4) c q = B c q := fun q a1 => zm_spread_oth B r w _ q a1
  have eA : ∀ {c : Nat} q, c ≠ 132 + r → zc_dn A r w (w / 2 % 4) (w - 1) c q = A c q := fun q a1 => zc_dn_oth A r w _ q a1 _
  refine rl_e2 hr hw (rl_T_ext (fun c q hc => eA q (by omega)) (fun c q hc => eB q (by omega)) hT) (rl_V_ext (fun c q h1 h2 => eA q (by omega)) (fun c q hc => eB q (by omega)) hV) (zm_spread_ok hB) (rl_D_ext (fun c q hc => eA q (by omega)) (fun q => eB q (by decide)) hD) (rl_I_ext (fun c q hc => eB q (by omega)) hI) (rl_K_ext (fun q => eA q (by omega)) (fun c q hc => eB q (by omega)) hK) (rl_Bk_ext (fun c q hc => eA q (by omega)) (fun c q hc => eB q (by omega)) bk) (fun k h1 h2 => ?_) (fun k h1 h2 => ?_) w (Nat.le_refl _)
  · exact zm_R_ext (fun i => eB i (by decide)) (zm_spread_R hr (by omega) hw1 hw hB.1 hB.2.1 hC hl h1 h2)
  · have g := rl_dn (a := w / 2 % 4) hr hV hD hB.2.1 hB.1.1 hw (w - 1) (by omega) (w - k) (by omega)
    rw [show w - (w - k) = k by omega] at g
    rw [g, rl_spread hr (by omega) hw1 hw hB.1 hB.2.1 hC hl h1 h2]
