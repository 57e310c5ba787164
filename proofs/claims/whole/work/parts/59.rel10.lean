/-! the whole relation; INSERT and COMMIT keep it -/
def rl_G (A B : wx_S) : Prop := rl_T A B ∧ rl_V A B ∧ rl_M A B ∧ rl_F A B ∧ zm_V B ∧ zm_D B ∧ (∀ k, k < 360 → B 240 k < 4294967296) ∧ (∀ t, t < 40 → B 152 t < 4294967296 ∧ B 156 t < 4294967296 ∧ (B 136 1 ≤ t → B 156 t = 0)) ∧ rl_H B
def rl_R (A B : wx_S) : Prop := rl_G A B ∧ ∀ s, s < 4 → rl_N A B s ∧ rl_Y A B s
theorem rl_H_ext {B B' : wx_S} (e : ∀ c k, c = 136 ∨ c = 188 ∨ c = 180 ∨ c = 184 ∨ c = 236 ∨ c = 192 ∨ c = 212 ∨ c = 164 ∨ c = 160 ∨ c = 204 → B' c k = B c k) (h : rl_H B) : rl_H B' := by
  have e1 : ∀ k, B' 136 k = B 136 k := fun k => e _ _ (by omega)
  have e2 : ∀ k, B' 188 k = B 188 k := fun k => e _ _ (by omega)
  have e3 : ∀ k, B' 180 k = B 180 k := fun k => e _ _ (by omega)
  have e4 : ∀ k, B' 184 k = B 184 k := fun k => e _ _ (by omega)
  have e5 : ∀ k, B' 236 k = B 236 k := fun k => e _ _ (by omega)
  have e6 : ∀ k, B' 192 k = B 192 k := fun k => e _ _ (by omega)
  have e7 : ∀ k, B' 212 k = B 212 k := fun k => e _ _ (by omega)
  have e8 : ∀ k, B' 164 k = B 164 k := fun k => e _ _ (by omega)
  have e9 : ∀ k, B' 160 k = B 160 k := fun k => e _ _ (by omega)
  have e0 : ∀ k, B' 204 k = B 204 k := fun k => e _ _ (by omega)
  unfold rl_H
  simp only [e1, e2, e3, e4, e5, e6, e7, e8, e9, e0]
  exact h
theorem rl_F_ext {A B A' B' : wx_S} (eA : A' 0 4 = A 0 4) (e : ∀ k, B' 192 k = B 192 k) (h : rl_F A B) : rl_F A' B' := by
  unfold rl_F
  simp only [eA, e]
  exact h
theorem rl_M_ext {A B A' B' : wx_S} (eA : ∀ c k, 44 ≤ c → c < 60 → A' c k = A c k) (eB : ∀ c k, c = 136 ∨ (180 ≤ c ∧ c ≤ 188) → B' c k = B c k) (h : rl_M A B) : rl_M A' B' := by
  refine ⟨by rw [eA _ _ (by decide) (by decide), eB _ _ (by omega)]; exact h.1, fun t ht => ?_⟩
  rw [eB _ _ (by omega)] at ht
  rw [eA _ _ (by decide) (by decide), eA _ _ (by decide) (by decide), eA _ _ (by decide) (by decide), eB _ _ (by omega), eB _ _ (by omega), eB _ _ (by omega)]
  exact h.2 t ht
/-- what stands apart of the nodes' DAGs and books is unchanged -/
theorem rl_G_x {A B A' B' : wx_S} (eA : ∀ c k, c < 60 → A' c k = A c k) (eB : ∀ c k, 136 ≤ c → c < 228 → c ≠ 224 → B' c k = B c k) (e236 : ∀ k, B' 236 k = B 236 k) (hd : zm_D B') (hf : ∀ k, k < 360 → B' 240 k < 4294967296) (h : rl_G A B) : rl_G A' B' := by
  obtain ⟨h1, h2, h3, h4, h5, h6, h7, h8, h9⟩ := h
  refine ⟨rl_T_ext (fun c k hc => eA _ _ (by omega)) (fun c k hc => eB _ _ (by omega) (by omega) (by omega)) h1, rl_V_ext (fun c k _ hc => eA _ _ (by omega)) (fun c k hc => eB _ _ (by omega) (by omega) (by omega)) h2, rl_M_ext (fun c k _ hc => eA _ _ (by omega)) (fun c k hc => eB _ _ (by omega) (by omega) (by omega)) h3, rl_F_ext (eA _ _ (by decide)) (fun k => eB _ _ (by decide) (by decide) (by decide)) h4, zm_V_ext (fun c k hc => eB _ _ (by omega) (by omega) (by omega)) h5, hd, hf, fun t ht => ?_, rl_H_ext (fun c k hc => ?_) h9⟩
  · rw [eB _ _ (by decide) (by decide) (by decide), eB _ _ (by decide) (by decide) (by decide), eB _ _ (by decide) (by decide) (by decide)]; exact h8 t ht
  · by_cases hq : c = 236
    · subst hq; exact e236 k
    · exact eB _ _ (by omega) (by omega) (by omega)
theorem rl_S_x {A B A' B' : wx_S} {r : Nat} (eA : ∀ c k, c = 64 + r ∨ c = 68 + r → A' c k = A c k) (eB : ∀ c, c = 192 ∨ c = 196 ∨ c = 204 ∨ c = 216 ∨ c = 220 → B' c r = B c r) (e1 : A' (124 + r) 5 = B' 224 r) (e2 : B' 224 r ≤ 14) (e3 : B' 224 r % 2 = 0) (h : rl_S A B r) : rl_S A' B' r := by
  unfold rl_S
  rw [eA _ _ (Or.inl rfl), eA _ _ (Or.inl rfl), eA _ _ (Or.inl rfl), eA _ _ (Or.inl rfl), eA _ _ (Or.inr rfl), eA _ _ (Or.inr rfl), eA _ _ (Or.inl rfl), eB 192 (by omega), eB 196 (by omega), eB 204 (by omega), eB 216 (by omega), eB 220 (by omega)]
  exact ⟨h.1, h.2.1, h.2.2.1, h.2.2.2.1, h.2.2.2.2.1, h.2.2.2.2.2.1, h.2.2.2.2.2.2.1, e1, e2, e3⟩
theorem rl_X_x {A B A' B' : wx_S} {r : Nat} (eA : ∀ k, A' (64 + r) k = A (64 + r) k) (eB : B' 200 r = B 200 r) (h : rl_X A B r) : rl_X A' B' r := by
  unfold rl_X
  rw [eA, eA, eB]
  exact h
theorem rl_Gok {A B : wx_S} (h : rl_R A B) {r : Nat} (hr : r < 4) : zm_ok B r := ⟨h.1.2.2.2.2.1, h.1.2.2.2.2.2.1, (h.2 r hr).2.2.2, h.1.2.2.2.2.2.2.1⟩
theorem rl_insJ {B : wx_S} {r u : Nat} (h : rl_J B r) (h3 : 3 ≤ zn_ones (B 236 (90 * r + u))) (ha : B 160 u < 4) : rl_J (rl_nB B r u) r := fun w a k1 k2 k3 k4 => by
  unfold rl_nB at *
  rw [wx_u_nc (c' := 236) (by decide)]
  by_cases he : w = B 164 u ∧ a = B 160 u
  · rw [he.1, he.2, wx_u_eq, Nat.add_sub_cancel]
    exact h3
  · rw [wx_u_nk (by omega)] at k4 ⊢
    exact h w a k1 k2 k3 k4
theorem zc_ins_oth (A : wx_S) (r i : Nat) {c : Nat} (k : Nat) (h1 : c ≠ 104 + r) (h2 : c ≠ 108 + r) (h3 : c ≠ 100 + r) (h4 : c ≠ 84 + r) (h5 : c ≠ 96 + r) : zc_ins A r i c k = A c k := by
  rw [zc_ins, wx_u_nc h5, wx_u_nc h4, zc_insert_oth _ _ _ _ h1 h2 h3]
theorem rl_sIns {A B : wx_S} {r i u : Nat} (hr : r < 4) (h : rl_R A B) (hi : i < A (84 + r) 3) (eu : A (96 + r) i = u) (hu : u < B 136 7) (hm : zm_may B r u) : rl_R (zc_ins A r i) (rl_nB B r u) := by
  have ok := rl_Gok h hr
  have ok2 := rl_insOk ok hu
  have v := ok.1.2.2.1 u hu
  have h90 : B 136 7 ≤ 90 := ok.1.1
  have eA : ∀ {c : Nat} (k : Nat), c ≠ 104 + r → c ≠ 108 + r → c ≠ 100 + r → c ≠ 84 + r → c ≠ 96 + r → zc_ins A r i c k = A c k := fun k a1 a2 a3 a4 a5 => zc_ins_oth A r i k a1 a2 a3 a4 a5
  have eB : ∀ {c : Nat} (k : Nat), c ≠ 228 → rl_nB B r u c k = B c k := fun k hc => wx_u_nc hc
  have g : rl_gV B (rl_nB B r u) := rl_gV_id h90 (fun c k hc => eB k (by omega))
  refine ⟨rl_G_x (fun c k hc => eA k (by omega) (by omega) (by omega) (by omega) (by omega)) (fun c k _ hc _ => eB k (by omega)) (fun k => eB k (by decide)) ok2.2.1 ok2.2.2.2 h.1, fun s hs => ?_⟩
  by_cases hsr : s = r
  · subst hsr
    obtain ⟨⟨h1, h2, h3, h4, h5, h6, h7, h8, ⟨h9, h10, h11, h12⟩, h13⟩, hY⟩ := h.2 s hr
    have hp := zm_B_pos hY.2.2
    refine ⟨⟨rl_S_x (fun c k hc => eA k (by omega) (by omega) (by omega) (by omega) (by omega)) (fun c hc => eB s (by omega)) (by rw [eA _ (by omega) (by omega) (by omega) (by omega) (by omega), eB _ (by decide)]; exact h1.2.2.2.2.2.2.2.1) (by rw [eB _ (by decide)]; exact h1.2.2.2.2.2.2.2.2.1) (by rw [eB _ (by decide)]; exact h1.2.2.2.2.2.2.2.2.2) h1, rl_X_x (fun k => eA k (by omega) (by omega) (by omega) (by omega) (by omega)) (eB _ (by decide)) h2, rl_Q_rg (rl_gQ_id (fun c k hc => eB k (by omega))) (fun k => eA k (by omega) (by omega) (by omega) (by omega) (by omega)) (eA _ (by omega) (by omega) (by omega) (by omega) (by omega)) (eA _ (by omega) (by omega) (by omega) (by omega) (by omega)) h3, rl_E_rg (fun c k hc => eA k (by omega) (by omega) (by omega) (by omega) (by omega)) (fun c k hc _ => eB _ (by omega)) h4, rl_P_rg g.1 (fun c k hc => eA k (by omega) (by omega) (by omega) (by omega) (by omega)) (fun k _ => eB _ (by decide)) (fun k _ => eB _ (by decide)) h5, rl_insW hr h6 hi eu hm.2.1, rl_insD hr h.1.2.1 ok h7 hu eu hm.2.1, rl_insK h8 h11 (by omega) v.1 hm.2.1 (fun k => eA k (by omega) (by omega) (by omega) (by omega) (by omega)), ⟨rl_insI h9 v.1, rl_U_rg g (fun k _ => eB _ (by decide)) h5 h10, rl_insZ h11 hm.2.1, rl_insC h12 hm v.1 v.2.2.2.1⟩, rl_insJ h13 hm.1 v.1⟩, ?_⟩
    have ed : rl_dead (rl_nB B s u) s ↔ rl_dead B s := by rw [rl_dead, rl_dead, eB _ (by decide), eB _ (by decide)]
    refine ⟨fun hd => ?_, fun hd => rl_Bk_rg hp (fun c k hc => eA k (by omega) (by omega) (by omega) (by omega) (by omega)) (eB _ (by decide)) (fun k _ => eB _ (by decide)) (fun k _ => eB _ (by decide)) (hY.2.1 (fun q => hd (ed.mpr q))), ok2.2.2.1⟩
    have q := hY.1 (ed.mp hd)
    refine ⟨by rw [eA _ (by omega) (by omega) (by omega) (by omega) (by omega)]; exact q.1, by rw [eA _ (by omega) (by omega) (by omega) (by omega) (by omega)]; exact q.2.1, by rw [eB _ (by decide)]; exact q.2.2.1, fun a ha => ?_⟩
    rw [eA _ (by omega) (by omega) (by omega) (by omega) (by omega), eB _ (by decide)]
    exact q.2.2.2 a ha
  · have e1 : rl_eA A (zc_ins A r i) s := fun c k _ _ h3 => eA k (by omega) (by omega) (by omega) (by omega) (by omega)
    have e2 : rl_eB B (rl_nB B r u) s := ⟨fun c hc => eB _ (by omega), fun c k hc hk => by
      by_cases hq : c = 228
      · subst hq; exact wx_u_nk (by omega)
      · exact eB _ hq, fun c k hc _ => eB _ (by omega), fun k _ => eB _ (by decide), fun k _ => eB _ (by decide)⟩
    exact ⟨rl_N_fr hs ok.1 ok.2.1 g (rl_gQ_id (fun c k hc => eB k (by omega))) e1 e2 (h.2 s hs).1, rl_Y_fr hs (by rw [rl_dead, rl_dead, eB _ (by decide), eB _ (by decide)]) e1 e2 (h.2 s hs).2⟩
theorem zc_commit_oth (A : wx_S) (r w : Nat) {c : Nat} (k : Nat) (h1 : c ≠ 112 + r) (h2 : c ≠ 116 + r) (h3 : c ≠ 120 + r) (h4 : c ≠ 128 + r) (h5 : c ≠ 132 + r) (h6 : c ≠ 124 + r) : zc_commit A r w c k = A c k := by
  rw [zc_commit, wx_u_nc h6, zc_cm_oth _ _ _ _ _ h1 h2 h3 h4 h5]
theorem rl_sCom {A B : wx_S} {r w : Nat} (hr : r < 4) (h : rl_R A B) (hup : B 192 r = 1) (hl : zm_L B r w) (he : w % 2 = 0) (h3' : B 224 r + 2 ≤ w) : rl_R (zc_commit A r w) (zm_commit B r w) := by
  have ok := rl_Gok h hr
  have h90 : B 136 7 ≤ 90 := ok.1.1
  obtain ⟨⟨h1, h2, h3, h4, h5, h6, h7, h8, ⟨h9, h10, h11, h12⟩, h13⟩, hY⟩ := h.2 r hr
  obtain ⟨fr, z2, ok2, oth⟩ := rl_cmB hr ok h12 h9 h11 hl h3'
  have nd : ¬ rl_dead B r := by rw [rl_dead]; omega
  obtain ⟨c1, c2⟩ := rl_commit hr h.1.1 h.1.2.1 ok h12 h7 h9 h8 (hY.2.1 nd) hl he h1.2.2.2.2.2.2.2.1 h1.2.2.2.2.2.2.2.2.2 h3'
  have eA : ∀ {c : Nat} (k : Nat), c ≠ 112 + r → c ≠ 116 + r → c ≠ 120 + r → c ≠ 128 + r → c ≠ 132 + r → c ≠ 124 + r → zc_commit A r w c k = A c k := fun k a1 a2 a3 a4 a5 a6 => zc_commit_oth A r w k a1 a2 a3 a4 a5 a6
  have eB : ∀ {c : Nat} (k : Nat), c ≠ 240 → c ≠ 244 → c ≠ 248 → c ≠ 252 → c ≠ 256 → c ≠ 224 → zm_commit B r w c k = B c k := fun k a1 a2 a3 a4 a5 a6 => by rw [oth _ k a1 a2 a3 a4 a5]; exact wx_u_nc a6
  have e224 : ∀ s, zm_commit B r w 224 s = if s = r then w else B 224 s := fun s => by
    rw [oth _ s (by decide) (by decide) (by decide) (by decide) (by decide)]
    by_cases hs : s = r
    · rw [hs, wx_u_eq, if_pos rfl]
    · rw [wx_u_nk hs, if_neg hs]
  have g : rl_gV B (zm_commit B r w) := rl_gV_id h90 (fun c k hc => eB k (by omega) (by omega) (by omega) (by omega) (by omega) (by omega))
  have e228 : ∀ k, zm_commit B r w 228 k = B 228 k := fun k => eB k (by decide) (by decide) (by decide) (by decide) (by decide) (by decide)
  have e236 : ∀ k, zm_commit B r w 236 k = B 236 k := fun k => eB k (by decide) (by decide) (by decide) (by decide) (by decide) (by decide)
  refine ⟨rl_G_x (fun c k hc => eA k (by omega) (by omega) (by omega) (by omega) (by omega) (by omega)) (fun c k _ hc hc2 => eB k (by omega) (by omega) (by omega) (by omega) (by omega) hc2) e236 ok2.2.1 ok2.2.2.2 h.1, fun s hs => ?_⟩
  by_cases hsr : s = r
  · subst hsr
    refine ⟨⟨rl_S_x (fun c k hc => eA k (by omega) (by omega) (by omega) (by omega) (by omega) (by omega)) (fun c hc => eB s (by omega) (by omega) (by omega) (by omega) (by omega) (by omega)) (by rw [e224, if_pos rfl, zc_commit, wx_u_eq]) (by rw [e224, if_pos rfl]; exact hl.2.1) (by rw [e224, if_pos rfl]; exact he) h1, rl_X_x (fun k => eA k (by omega) (by omega) (by omega) (by omega) (by omega) (by omega)) (eB _ (by decide) (by decide) (by decide) (by decide) (by decide) (by decide)) h2, rl_Q_rg (rl_gQ_id (fun c k hc => eB k (by omega) (by omega) (by omega) (by omega) (by omega) (by omega))) (fun k => eA k (by omega) (by omega) (by omega) (by omega) (by omega) (by omega)) (eA _ (by omega) (by omega) (by omega) (by omega) (by omega) (by omega)) (eA _ (by omega) (by omega) (by omega) (by omega) (by omega) (by omega)) h3, rl_E_rg (fun c k hc => eA k (by omega) (by omega) (by omega) (by omega) (by omega) (by omega)) (fun c k hc _ => eB _ (by omega) (by omega) (by omega) (by omega) (by omega) (by omega)) h4, rl_P_rg g.1 (fun c k hc => eA k (by omega) (by omega) (by omega) (by omega) (by omega) (by omega)) (fun k _ => eB _ (by decide) (by decide) (by decide) (by decide) (by decide) (by decide)) (fun k _ => e236 _) h5, rl_W_rg ok.1 g (eA _ (by omega) (by omega) (by omega) (by omega) (by omega) (by omega)) (fun k => eA k (by omega) (by omega) (by omega) (by omega) (by omega) (by omega)) (fun k _ => e228 _) (fun k _ => e236 _) h5 h6, rl_D_rg (fun c k hc => eA k (by omega) (by omega) (by omega) (by omega) (by omega) (by omega)) (fun k _ => e228 _) h7, c2, ⟨rl_I_rg hr ok.2.1 g (fun k _ => e228 _) h9, rl_U_rg g (fun k _ => e236 _) h5 h10, z2, rl_C_rg hr ok.2.1 g (fun k _ => e228 _) h12⟩, rl_J_rg hr ok.2.1 h90 (fun k _ => e228 _) (fun k _ => e236 _) h13⟩, fun hd => ?_, fun _ => c1, ok2.2.2.1⟩
    rw [rl_dead, eB _ (by decide) (by decide) (by decide) (by decide) (by decide) (by decide)] at hd
    omega
  · have e1 : rl_eA A (zc_commit A r w) s := fun c k _ _ h3 => eA k (by omega) (by omega) (by omega) (by omega) (by omega) (by omega)
    have f := fr s hs hsr
    have e2 : rl_eB B (zm_commit B r w) s := ⟨fun c hc => by
      by_cases hq : c = 224
      · subst hq; rw [e224, if_neg hsr]
      · by_cases hq2 : c = 248
        · subst hq2; exact f.2.2.1
        · exact eB _ (by omega) (by omega) (by omega) (by omega) (by omega) (by omega), fun c k hc hk => eB _ (by omega) (by omega) (by omega) (by omega) (by omega) (by omega), fun c k hc hk => by
      by_cases hq : c = 240
      · subst hq; exact f.1 k hk
      · exact eB _ (by omega) (by omega) (by omega) (by omega) (by omega) (by omega), f.2.1, f.2.2.2⟩
    exact ⟨rl_N_fr hs ok.1 ok.2.1 g (rl_gQ_id (fun c k hc => eB k (by omega) (by omega) (by omega) (by omega) (by omega) (by omega))) e1 e2 (h.2 s hs).1, rl_Y_fr hs (by rw [rl_dead, rl_dead, eB _ (by decide) (by decide) (by decide) (by decide) (by decide) (by decide), eB _ (by decide) (by decide) (by decide) (by decide) (by decide) (by decide)]) e1 e2 (h.2 s hs).2⟩
