/-! what a commit of one node leaves of the others -/
def rl_fr (r : Nat) (B B' : wx_S) : Prop := ∀ s, s < 4 → s ≠ r → (∀ k, k < 90 → B' 240 (90 * s + k) = B 240 (90 * s + k)) ∧ (∀ k, k < 40 → B' 244 (40 * s + k) = B 244 (40 * s + k)) ∧ B' 248 s = B 248 s ∧ ∀ k, k < 4 → B' 252 (4 * s + k) = B 252 (4 * s + k)
theorem rl_fr_id (r : Nat) {B B' : wx_S} (e : ∀ c k, c = 240 ∨ c = 244 ∨ c = 248 ∨ c = 252 → B' c k = B c k) : rl_fr r B B' := fun s _ _ => ⟨fun k _ => e _ _ (by omega), fun k _ => e _ _ (by omega), e _ _ (by omega), fun k _ => e _ _ (by omega)⟩
theorem rl_fr_tr {r : Nat} {B B' B'' : wx_S} (h : rl_fr r B B') (g : rl_fr r B' B'') : rl_fr r B B'' := fun s hs hn => by
  have a := h s hs hn
  have b := g s hs hn
  exact ⟨fun k hk => (b.1 k hk).trans (a.1 k hk), fun k hk => (b.2.1 k hk).trans (a.2.1 k hk), b.2.2.1.trans a.2.2.1, fun k hk => (b.2.2.2 k hk).trans (a.2.2.2 k hk)⟩
theorem rl_fr_place {B : wx_S} {r t : Nat} (hB : zm_ok B r) (ht : t < B 136 1 ∨ t = 4294967295) : rl_fr r B (zm_place B r t) := by
  unfold zm_place
  by_cases hh : zm_hs B r t (B 248 r) = true
  · rw [if_pos hh]; exact rl_fr_id r (fun _ _ _ => rfl)
  · rw [if_neg hh]
    rcases ht with ht | ht
    · have h40 : B 136 1 ≤ 40 := hB.1.2.1
      have hv := hB.1.2.2.2 t ht
      have hp : B 248 r < 40 := by
        rw [hB.2.2.1.1]
        exact zn_pop_lt (t := t) (fun q => hh ((zm_hs_iff B r t (by omega) _).mpr q)) 40 (by omega)
      intro s hs hn
      split
      · refine ⟨fun k hk => ?_, fun k hk => ?_, ?_, fun k hk => ?_⟩
        · rw [wx_u_nc (by decide), wx_u_nc (by decide), wx_u_nc (by decide), wx_u_nc (by decide)]
        · rw [wx_u_nc (by decide), wx_u_nc (by decide), wx_u_nc (by decide), wx_u_nk (by omega)]
        · rw [wx_u_nc (by decide), wx_u_nc (by decide), wx_u_nk hn, wx_u_nc (by decide)]
        · rw [wx_u_nk (by omega), wx_u_nk (by omega), wx_u_nc (by decide), wx_u_nc (by decide)]
      · refine ⟨fun k hk => ?_, fun k hk => ?_, ?_, fun k hk => ?_⟩
        · rw [wx_u_nc (by decide), wx_u_nc (by decide)]
        · rw [wx_u_nc (by decide), wx_u_nk (by omega)]
        · rw [wx_u_nk hn, wx_u_nc (by decide)]
        · rw [wx_u_nc (by decide), wx_u_nc (by decide)]
    · subst ht
      exact absurd (zm_hs_N _ _ _) hh
theorem rl_fr_emA {Z : wx_S} {r k a : Nat} (hr : r < 4) (hk : k ≤ 14) (ha : a < 4) (h : zm_ok Z r) (hR : zm_R Z r k (Z 256 k)) : rl_fr r Z (zm_emA Z r k a) := by
  unfold zm_emA
  by_cases hc : Z 256 k / 2 ^ a % 2 = 1 ∧ Z 240 (90 * r + (Z 228 (60 * r + 4 * k + a) - 1)) = 0
  · rw [if_pos hc]
    have h0 := hR.2 a ha hc.1
    have hl := rl_D_le hr h.2.1 hk ha
    have h9 : Z 136 7 ≤ 90 := h.1.1
    have v := h.1.2.2.1 (Z 228 (60 * r + 4 * k + a) - 1) (by omega)
    have e1 : ∀ q, wx_u Z 240 (90 * r + (Z 228 (60 * r + 4 * k + a) - 1)) 1 136 q = Z 136 q := fun q => wx_u_nc (by decide)
    have ok1 := zm_ok_em (q := 90 * r + (Z 228 (60 * r + 4 * k + a) - 1)) h
    refine rl_fr_tr ?_ (rl_fr_tr (rl_fr_place ok1 (by rw [e1]; exact v.2.2.2.2.1)) (rl_fr_place (zm_place_ok ok1 (by rw [e1]; exact v.2.2.2.2.1)) (by rw [zm_place_oth _ _ _ _ (by decide) (by decide) (by decide), e1]; exact v.2.2.2.2.2)))
    intro s hs hn
    exact ⟨fun q hq => wx_u_nk (by omega), fun q _ => wx_u_nc (by decide), wx_u_nc (by decide), fun q _ => wx_u_nc (by decide)⟩
  · rw [if_neg hc]; exact rl_fr_id r (fun _ _ _ => rfl)
theorem rl_fr_emI {Z : wx_S} {r k : Nat} (hr : r < 4) (hk : k ≤ 14) (h : zm_ok Z r) (hR : zm_R Z r k (Z 256 k)) : ∀ i, i ≤ 4 → rl_fr r Z (zm_emI Z r k i)
  | 0, _ => rl_fr_id r (fun _ _ _ => rfl)
  | i + 1, hi => by
    have g := zm_emI_ok hr hk h hR i (by omega)
    exact rl_fr_tr (rl_fr_emI hr hk h hR i (by omega)) (rl_fr_emA hr hk (by omega) g.1 g.2)
theorem rl_fr_emO {S : wx_S} {r w : Nat} (hr : r < 4) (hw : w ≤ 14) (h : zm_ok S r) (hR : ∀ k, 1 ≤ k → k ≤ w → zm_R S r k (S 256 k)) : ∀ i, i ≤ w → rl_fr r S (zm_emO S r i)
  | 0, _ => rl_fr_id r (fun _ _ _ => rfl)
  | i + 1, hi => by
    have g := zm_emO_ok hr hw h hR i (by omega)
    exact rl_fr_tr (rl_fr_emO hr hw h hR i (by omega)) (rl_fr_emI hr (by omega) g.1 (g.2 _ (by omega) hi) 4 (Nat.le_refl _))
theorem rl_spr {B : wx_S} {r w : Nat} (hr : r < 4) (hw1 : 1 ≤ w) (hw : w ≤ 14) (h : zm_ok B r) (hC : zm_C B r) (hl : B 228 (60 * r + 4 * w + w / 2 % 4) ≠ 0) : ∀ k, 1 ≤ k → k ≤ w → zm_R (zm_spread B r w (w / 2 % 4)) r k (zm_spread B r w (w / 2 % 4) 256 k) := fun k h1 h2 =>
  zm_R_ext (fun i => zm_spread_oth _ _ _ _ _ (by decide)) (zm_spread_R hr (by omega) hw1 hw h.1 h.2.1 hC hl h1 h2)
theorem rl_fr_emit {B : wx_S} {r w : Nat} (hr : r < 4) (hw1 : 1 ≤ w) (hw : w ≤ 14) (h : zm_ok B r) (hC : zm_C B r) (hl : B 228 (60 * r + 4 * w + w / 2 % 4) ≠ 0) : rl_fr r B (zm_emit B r w) :=
  rl_fr_tr (rl_fr_id r (fun c k hc => zm_spread_oth B r w (w / 2 % 4) k (by omega))) (rl_fr_emO hr hw (zm_spread_ok h) (rl_spr hr hw1 hw h hC hl) w (Nat.le_refl _))
theorem rl_fr_c2 {Y : wx_S} {r f l : Nat} (hr : r < 4) (h : zm_ok Y r) (hC : zm_C Y r) (hf : ∀ k, f / 2 ^ k % 2 = 1 → zm_L Y r k) : ∀ i, rl_fr r Y (zm_c2 Y r f l i)
  | 0 => rl_fr_id r (fun _ _ _ => rfl)
  | i + 1 => by
    have ok := zm_c2_ok (l := l) hr h hC hf i
    have eB : ∀ {c : Nat} q, c ≠ 240 → c ≠ 244 → c ≠ 248 → c ≠ 252 → c ≠ 256 → zm_c2 Y r f l i c q = Y c q := fun q a1 a2 a3 a4 a5 => zm_c2_oth Y r f l q a1 a2 a3 a4 a5 i
    rw [zm_c2]
    by_cases hb : f / 2 ^ (l + 2 + 2 * i) % 2 = 1
    · rw [if_pos hb]
      have hL := hf _ hb
      exact rl_fr_tr (rl_fr_c2 hr h hC hf i) (rl_fr_emit hr hL.1 hL.2.1 ok (zm_C_ext (fun c q hc => eB q (by omega) (by omega) (by omega) (by omega) (by omega)) hC) (by rw [eB _ (by decide) (by decide) (by decide) (by decide) (by decide)]; exact hL.2.2))
    · rw [if_neg hb]; exact rl_fr_c2 hr h hC hf i
/-! the flags of what is put out -/
theorem rl_Z_ext {B B' : wx_S} {r : Nat} (e : ∀ c k, c = 136 ∨ c = 160 ∨ c = 164 ∨ c = 228 ∨ c = 240 → B' c k = B c k) (h : rl_Z B r) : rl_Z B' r := fun u hu hf => by
  rw [e _ _ (by omega)] at hf
  rw [e 136 _ (by omega), e 164 _ (by omega), e 160 _ (by omega), e 228 _ (by omega)]
  exact h u hu hf
theorem rl_Z_emI {Z : wx_S} {r k : Nat} (hr : r < 4) (hk1 : 1 ≤ k) (hk : k ≤ 14) (hd : zm_D Z) (hI : rl_I Z r) (hR : zm_R Z r k (Z 256 k)) (h : rl_Z Z r) : rl_Z (zm_emI Z r k 4) r := fun u hu hf => by
  have e : ∀ {c : Nat} q, c ≠ 240 → c ≠ 244 → c ≠ 248 → c ≠ 252 → zm_emI Z r k 4 c q = Z c q := fun q a1 a2 a3 a4 => zm_emI_oth Z r k q a1 a2 a3 a4 4
  rw [e (c := 136) _ (by decide) (by decide) (by decide) (by decide), e (c := 164) _ (by decide) (by decide) (by decide) (by decide), e (c := 160) _ (by decide) (by decide) (by decide) (by decide), e (c := 228) _ (by decide) (by decide) (by decide) (by decide)]
  rcases (rl_emI_fl 4 _).mp hf with q | ⟨a, h1, h2, h3⟩
  · exact h u hu q
  · have h0 := hR.2 a h1 h2
    have hl := rl_D_le hr hd hk h1
    have g := hI k a hk1 hk h1 h0
    have eu : u = Z 228 (60 * r + 4 * k + a) - 1 := by omega
    refine ⟨by omega, ?_⟩
    rw [← eu] at g
    rw [g.1, g.2]
    omega
theorem rl_Z_emO {S : wx_S} {r w : Nat} (hr : r < 4) (hw : w ≤ 14) (h : zm_ok S r) (hR : ∀ k, 1 ≤ k → k ≤ w → zm_R S r k (S 256 k)) (hI : rl_I S r) (hZ : rl_Z S r) : ∀ i, i ≤ w → rl_Z (zm_emO S r i) r
  | 0, _ => hZ
  | i + 1, hi => by
    have g := zm_emO_ok hr hw h hR i (by omega)
    exact rl_Z_emI hr (by omega) (by omega) g.1.2.1 (rl_I_ext (fun c q hc => zm_emO_oth S r q (by omega) (by omega) (by omega) (by omega) i) hI) (g.2 _ (by omega) hi) (rl_Z_emO hr hw h hR hI hZ i (by omega))
theorem rl_Z_emit {B : wx_S} {r w : Nat} (hr : r < 4) (hw1 : 1 ≤ w) (hw : w ≤ 14) (h : zm_ok B r) (hC : zm_C B r) (hI : rl_I B r) (hZ : rl_Z B r) (hl : B 228 (60 * r + 4 * w + w / 2 % 4) ≠ 0) : rl_Z (zm_emit B r w) r :=
  rl_Z_emO hr hw (zm_spread_ok h) (rl_spr hr hw1 hw h hC hl) (rl_I_ext (fun c q hc => zm_spread_oth _ _ _ _ _ (by omega)) hI) (rl_Z_ext (fun c q hc => zm_spread_oth _ _ _ _ _ (by omega)) hZ) w (Nat.le_refl _)
theorem rl_Z_c2 {Y : wx_S} {r f l : Nat} (hr : r < 4) (h : zm_ok Y r) (hC : zm_C Y r) (hI : rl_I Y r) (hZ : rl_Z Y r) (hf : ∀ k, f / 2 ^ k % 2 = 1 → zm_L Y r k) : ∀ i, rl_Z (zm_c2 Y r f l i) r
  | 0 => hZ
  | i + 1 => by
    have ok := zm_c2_ok (l := l) hr h hC hf i
    have eB : ∀ {c : Nat} q, c ≠ 240 → c ≠ 244 → c ≠ 248 → c ≠ 252 → c ≠ 256 → zm_c2 Y r f l i c q = Y c q := fun q a1 a2 a3 a4 a5 => zm_c2_oth Y r f l q a1 a2 a3 a4 a5 i
    rw [zm_c2]
    by_cases hb : f / 2 ^ (l + 2 + 2 * i) % 2 = 1
    · rw [if_pos hb]
      have hL := hf _ hb
      exact rl_Z_emit hr hL.1 hL.2.1 ok (zm_C_ext (fun c q hc => eB q (by omega) (by omega) (by omega) (by omega) (by omega)) hC) (rl_I_ext (fun c q hc => eB q (by omega) (by omega) (by omega) (by omega) (by omega)) hI) (rl_Z_c2 hr h hC hI hZ hf i) (by rw [eB _ (by decide) (by decide) (by decide) (by decide) (by decide)]; exact hL.2.2)
    · rw [if_neg hb]; exact rl_Z_c2 hr h hC hI hZ hf i
/-- a commit of the reference: the books of the others, the flags, the bounds -/
theorem rl_cmB {B : wx_S} {r w : Nat} (hr : r < 4) (h : zm_ok B r) (hC : zm_C B r) (hI : rl_I B r) (hZ : rl_Z B r) (hl : zm_L B r w) (h3 : B 224 r + 2 ≤ w) : rl_fr r B (zm_commit B r w) ∧ rl_Z (zm_commit B r w) r ∧ zm_ok (zm_commit B r w) r ∧ (∀ c k, c ≠ 240 → c ≠ 244 → c ≠ 248 → c ≠ 252 → c ≠ 256 → zm_commit B r w c k = wx_u B 224 r w c k) := by
  have hg : 2 * zm_gap B r w < w := by unfold zm_gap; omega
  obtain ⟨c1, c2, c3, c4, c5⟩ := zm_chI_all hr h hC hl (zm_gap B r w) hg
  have e : ∀ {c : Nat} k, c ≠ 256 → (zm_ch B r w (zm_gap B r w)).2.2 c k = B c k := fun k hc => zm_ch_oth B r w k hc _
  have hf : ∀ k, (zm_ch B r w (zm_gap B r w)).1 / 2 ^ k % 2 = 1 → zm_L (zm_ch B r w (zm_gap B r w)).2.2 r k := fun k hk => by
    have z := c5 k hk
    exact ⟨z.1, z.2.1, by rw [e _ (by decide)]; exact z.2.2⟩
  have hC' : zm_C (zm_ch B r w (zm_gap B r w)).2.2 r := zm_C_ext (fun c k hc => e k (by omega)) hC
  have hI' : rl_I (zm_ch B r w (zm_gap B r w)).2.2 r := rl_I_ext (fun c k hc => e k (by omega)) hI
  have hZ' : rl_Z (zm_ch B r w (zm_gap B r w)).2.2 r := rl_Z_ext (fun c k hc => e k (by omega)) hZ
  rw [zm_commit]
  refine ⟨rl_fr_tr (rl_fr_tr (rl_fr_id r (fun c k hc => e k (by omega))) (rl_fr_c2 (l := B 224 r) hr c1 hC' hf ((w - B 224 r) / 2))) (rl_fr_id r (fun c k hc => wx_u_nc (by omega))), rl_Z_ext (fun c k hc => wx_u_nc (by omega)) (rl_Z_c2 (l := B 224 r) hr c1 hC' hI' hZ' hf ((w - B 224 r) / 2)), ?_, fun c k a1 a2 a3 a4 a5 => ?_⟩
  · have ok := zm_c2_ok (l := B 224 r) hr c1 hC' hf ((w - B 224 r) / 2)
    exact ⟨zm_V_ext (fun c k hc => wx_u_nc (by omega)) ok.1, zm_D_ext (fun c k hc => wx_u_nc (by omega)) ok.2.1, zm_B_ext (wx_u_nc (by decide)) (fun k _ => wx_u_nc (by decide)) (fun a _ => wx_u_nc (by decide)) ok.2.2.1, fun k hk => by rw [wx_u_nc (by decide)]; exact ok.2.2.2 k hk⟩
  · by_cases hc : c = 224
    · subst hc
      by_cases hk : k = r
      · rw [hk, wx_u_eq, wx_u_eq]
      · rw [wx_u_nk hk, wx_u_nk hk, zm_c2_oth _ _ _ _ _ a1 a2 a3 a4 a5, e _ a5]
    · rw [wx_u_nc hc, wx_u_nc hc, zm_c2_oth _ _ _ _ _ a1 a2 a3 a4 a5, e _ a5]
