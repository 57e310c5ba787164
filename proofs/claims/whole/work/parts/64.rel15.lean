/-! ADVANCE, and a whole act -/
theorem wx_u_comm {X : wx_S} {c k n c' k' n' : Nat} (h : c ≠ c') : wx_u (wx_u X c k n) c' k' n' = wx_u (wx_u X c' k' n') c k n := by
  funext a b
  simp only [wx_u]
  by_cases h1 : a = c'
  · have h3 : ¬ c' = c := fun q => h q.symm
    simp [h1, h3]
  · simp [h1]
theorem rl_m1_u (X : wx_S) (x c k n : Nat) (h : c ≠ 156) : rl_m1 (wx_u X c k n) x = wx_u (rl_m1 X x) c k n := by
  unfold rl_m1
  split
  · exact wx_u_comm h
  · rfl
theorem rl_m1_say (X : wx_S) (x q u k : Nat) : rl_m1 (zm_say X q u k) x = zm_say (rl_m1 X x) q u k := by
  rw [zm_say, zm_say, rl_m1_u _ _ _ _ _ (by decide), rl_m1_u _ _ _ _ _ (by decide), rl_m1_u _ _ _ _ _ (by decide), rl_m1_u _ _ _ _ _ (by decide), rl_m1_oth _ _ _ (by decide)]
theorem rl_m1_make (X : wx_S) (x a w q f u : Nat) : rl_m1 (zm_make X a w q f u) x = zm_make (rl_m1 X x) a w q f u := by
  rw [zm_make, zm_make, rl_m1_u _ _ _ _ _ (by decide), rl_m1_u _ _ _ _ _ (by decide), rl_m1_u _ _ _ _ _ (by decide), rl_m1_u _ _ _ _ _ (by decide), rl_m1_u _ _ _ _ _ (by decide), rl_m1_u _ _ _ _ _ (by decide), rl_m1_oth _ _ _ (by decide)]
theorem zm_made_eq (W : wx_S) (r set one two : Nat) : zm_made W r set one two = wx_u (zm_say (zm_make (wx_u (rl_m1 (rl_m1 W one) two) 204 r (W 204 r + 1)) r (W 204 r + 1) set one two) r (W 136 7) 0) 216 r 0 := by
  have e : zm_made W r set one two = wx_u (rl_m1 (rl_m1 (zm_say (zm_make (wx_u W 204 r (W 204 r + 1)) r (W 204 r + 1) set one two) r (W 136 7) 0) one) two) 216 r 0 := rfl
  rw [e, rl_m1_say, rl_m1_make, rl_m1_u _ _ _ _ _ (by decide), rl_m1_say, rl_m1_make, rl_m1_u _ _ _ _ _ (by decide)]
theorem rl_sTm {A B : wx_S} {r v : Nat} (hr : r < 4) (h : rl_R A B) (hv : v ≤ 3) : rl_R (wx_u A (64 + r) 10 v) (wx_u B 216 r v) := by
  obtain ⟨h1, h2, _⟩ := (h.2 r hr).1
  refine rl_sSX hr h (fun c k a1 _ => wx_u_nc a1) (wx_u_nc (by omega)) (wx_u_nc (by omega)) (fun c k _ _ a3 _ => wx_u_nc a3) (fun c s hs => ?_) ?_ ?_
  · by_cases hc : c = 216
    · subst hc; exact Or.inl (wx_u_nk hs)
    · exact Or.inl (wx_u_nc hc)
  · unfold rl_S
    rw [wx_u_nk (k' := 0) (by decide), wx_u_nk (k' := 8) (by decide), wx_u_nk (k' := 9) (by decide), wx_u_eq, wx_u_nc (c' := 68 + r) (by omega), wx_u_nc (c' := 68 + r) (by omega), wx_u_nk (k' := 12) (by decide), wx_u_nc (c' := 124 + r) (by omega), wx_u_eq, wx_u_nc (c' := 192) (by decide), wx_u_nc (c' := 220) (by decide), wx_u_nc (c' := 204) (by decide), wx_u_nc (c' := 196) (by decide), wx_u_nc (c' := 224) (by decide)]
    exact ⟨h1.1, h1.2.1, h1.2.2.1, ⟨rfl, hv⟩, h1.2.2.2.2⟩
  · unfold rl_X
    rw [wx_u_nk (k' := 11) (by decide), wx_u_nk (k' := 12) (by decide), wx_u_nc (by decide)]
    exact h2
theorem rl_may {A B : wx_S} {r : Nat} (hr : r < 4) (h : rl_R A B) : zc_may A r ↔ zm_adv B r := by
  have ok := rl_Gok h hr
  have h90 : B 136 7 ≤ 90 := ok.1.1
  obtain ⟨h1, _, _, _, _, _, h7, _⟩ := (h.2 r hr).1
  have e1 := h.1.2.1.1
  have e2 := h1.2.2.2.2.1
  have e3 := h1.2.2.2.1
  unfold zc_may zm_adv
  rw [e1, e2.1, e3.1]
  by_cases h0 : B 204 r = 0
  · simp only [h0, ne_eq, not_true_eq_false, false_and, or_false, true_and]
    constructor
    · rintro ⟨a, b, c⟩; exact ⟨by omega, by omega, c⟩
    · rintro ⟨a, b, c⟩; exact ⟨by omega, by omega, c⟩
  · have s1 := rl_slot hr h7 ok.2.1 h90 (w := B 204 r) (a := r) (by omega) e2.2 hr
    have s2 := rl_slot hr h7 ok.2.1 h90 (w := B 204 r) (a := B 204 r / 2 % 4) (by omega) e2.2 (by omega)
    have s3 := rl_th_bit B r (B 204 r) r 4
    rw [rl_set h7 e2.2, s1, s2, s3]
    constructor
    · rintro ⟨a, b, c⟩
      refine ⟨by omega, by omega, ?_⟩
      rcases c with c | c
      · exact absurd c.1 h0
      · exact Or.inr ⟨c.1, ⟨hr, by omega, c.2.1⟩, c.2.2⟩
    · rintro ⟨a, b, c⟩
      refine ⟨by omega, by omega, ?_⟩
      rcases c with c | c
      · exact absurd c.1 h0
      · exact Or.inr ⟨c.1, c.2.1.2.2, c.2.2⟩
theorem rl_sMd {Y W : wx_S} {r : Nat} (hr : r < 4) (h : rl_R Y W) (h9 : W 136 7 < 90) (h13 : W 204 r ≤ 13) : rl_R (zc_made Y r) (zm_made W r (zm_th W r (W 204 r) 4) (zm_q W r 0) (zm_two W r)) := by
  have h40 : W 136 1 ≤ 40 := h.1.2.2.2.2.1.2.1
  have hQ := (h.2 r hr).1.2.2.1
  have h7 := (h.2 r hr).1.2.2.2.2.2.2.1
  have hS := (h.2 r hr).1.1
  have q1 := rl_q1 hQ h40
  have q2 := rl_q2 hQ h40
  have g1 := zm_qF_lt W r 41 0
  change (0 ≤ zm_q W r 0 ∧ zm_q W r 0 < W 136 1 ∧ _) ∨ zm_q W r 0 = 4294967295 at g1
  have g2 : zm_two W r < W 136 1 ∨ zm_two W r = 4294967295 := by
    unfold zm_two
    split
    · have g3 := zm_qF_lt W r 41 (zm_q W r 0 + 1)
      change (_ ≤ zm_q W r (zm_q W r 0 + 1) ∧ zm_q W r (zm_q W r 0 + 1) < W 136 1 ∧ _) ∨ zm_q W r (zm_q W r 0 + 1) = 4294967295 at g3
      rcases g3 with g3 | g3
      · exact Or.inl g3.2.1
      · exact Or.inr g3
    · exact Or.inr rfl
  have r1 := rl_sQ1 hr h
  have r2 := rl_sQ1 hr r1
  have e2 : zm_q (rl_m1 W (zm_q W r 0)) r 0 = zm_two W r := by
    rw [q2]; exact rl_q1 (r1.2 r hr).1.2.2.1 (by rw [rl_m1_oth _ _ _ (by decide)]; exact h40)
  rw [e2] at r2
  have oW : ∀ {c : Nat} k, c ≠ 156 → rl_m1 (rl_m1 W (zm_q W r 0)) (zm_two W r) c k = W c k := fun k hc => by rw [rl_m1_oth _ _ _ hc, rl_m1_oth _ _ _ hc]
  have oY : ∀ {c k : Nat}, ¬ (c = 68 + r ∧ k = 2) → zc_qX (zc_qX Y r) r c k = Y c k := fun hc => by rw [zc_qX_oth _ _ hc, zc_qX_oth _ _ hc]
  have r3 := rl_sMade hr r2 (by rw [oW _ (by decide)]; exact h13)
  rw [oW _ (by decide), oY (by omega)] at r3
  have r4 := rl_sVtx (a := r) (w := W 204 r + 1) (q := zm_th W r (W 204 r) 4) (f := zm_q W r 0) (u := zm_two W r) r3 hr ⟨by omega, by omega⟩ (zm_th_lt W r _ 4 (Nat.le_refl _)) (by rw [wx_u_nc (by decide), oW _ (by decide)]; rcases g1 with g | g; exact Or.inl g.2.1; exact Or.inr g) (by rw [wx_u_nc (by decide), oW _ (by decide)]; exact g2) (by rw [wx_u_nc (by decide), oW _ (by decide)]; exact h9) (fun _ => by rw [wx_u_eq]; exact Nat.le_refl _)
  have r5 := rl_sSay (q := r) (u := W 136 7) (k := 0) r4 hr (by decide) (by rw [(zm_mk _ _ _ _ _ _).1, wx_u_nc (by decide), oW _ (by decide)]; omega) (fun q => absurd q (by decide))
  have r6 := rl_sTm (v := 0) hr r5 (by decide)
  have eY : zc_made Y r = wx_u (zc_post (zc_vadd (wx_u (zc_qX (zc_qX Y r) r) (68 + r) 5 (Y (68 + r) 5 + 1)) r (W 204 r + 1) (zm_th W r (W 204 r) 4) (zm_q W r 0) (zm_two W r)) 0 r (W 136 7)) (64 + r) 10 0 := by
    rw [q1, q2, ← h.1.2.1.1, ← hS.2.2.2.2.1.1, ← rl_set h7 (by rw [hS.2.2.2.2.1.1]; omega)]
    rfl
  rw [eY, zm_made_eq]
  exact r6
theorem rl_sAdv {A B : wx_S} {r : Nat} (hr : r < 4) (h : rl_R A B) (hup : B 192 r = 1) (ha : zm_adv B r) : rl_R (zc_advance A r) (zm_advance B r) := by
  have hX := (h.2 r hr).1.2.1
  have hc := rl_cut hX
  have h90 : B 136 7 ≤ 90 := (rl_Gok h hr).1.1
  unfold zc_advance zm_advance
  by_cases hcut : B 200 r = 0
  · rw [if_pos (hc.mpr hcut), if_pos hcut]
    exact rl_sFall hr h (by omega)
  · rw [if_neg (fun q => hcut (hc.mp q)), if_neg hcut]
    have r1 := rl_sWr hr h hcut
    have oW : ∀ {c : Nat} k, c ≠ 200 → c ≠ 196 → zm_wrote B r c k = B c k := fun k a1 a2 => zm_wrote_oth B r k a1 a2
    have r2 := rl_sMd hr r1 (by rw [oW _ (by decide) (by decide)]; have := ha.1; omega) (by rw [oW _ (by decide) (by decide)]; exact ha.2.1)
    rw [rl_th_ext (X := B) (fun k => oW k (by decide) (by decide)), oW (c := 204) _ (by decide) (by decide)] at r2
    exact r2
/-- one step: both do the same -/
theorem rl_step {A B : wx_S} {r : Nat} (hr : r < 4) (h : rl_R A B) (hup : B 192 r = 1) : (zc_step A r = none ∧ zm_step B r = none) ∨ ∃ A' B', zc_step A r = some A' ∧ zm_step B r = some B' ∧ rl_R A' B' := by
  have ok := rl_Gok h hr
  have h90 : B 136 7 ≤ 90 := ok.1.1
  obtain ⟨h1, _, _, _, _, h6, h7, _, ⟨_, h10, _⟩, _⟩ := (h.2 r hr).1
  rcases rl_pick hr h.1.2.1 h7 ok h6 h10 with ⟨p1, p2⟩ | ⟨p1, p2, p3, p4⟩
  · have nr := rl_nr hr h.1.2.1 h7 ok.2.1 h90 h1.2.2.2.2.2.2.2.1 h1.2.2.2.2.2.2.2.2.2
    have l2 := h1.2.2.2.2.2.2.2.2.2
    have c0 : zc_step A r = if zc_nr A r ≠ 4294967295 then some (zc_commit A r (zc_nr A r)) else if zc_may A r then some (zc_advance A r) else none := if_neg (fun q => q p1)
    have d0 : zm_step B r = if zm_com B r ≠ 0 then some (zm_commit B r (zm_com B r)) else if zm_adv B r then some (zm_advance B r) else none := if_neg (fun q => q p2)
    rcases zm_cs_all B r with hc | ⟨k, k1, k2, k3⟩
    · rw [if_pos hc] at nr
      have c1 : zc_step A r = if zc_may A r then some (zc_advance A r) else none := c0.trans (if_neg (fun q => q nr))
      have d1 : zm_step B r = if zm_adv B r then some (zm_advance B r) else none := d0.trans (if_neg (fun q => q hc))
      have hm := rl_may hr h
      by_cases ha : zm_adv B r
      · exact Or.inr ⟨_, _, c1.trans (if_pos (hm.mpr ha)), d1.trans (if_pos ha), rl_sAdv hr h hup ha⟩
      · exact Or.inl ⟨c1.trans (if_neg (fun q => ha (hm.mp q))), d1.trans (if_neg ha)⟩
    · rw [if_neg (by omega), k1] at nr
      have c1 : zc_step A r = some (zc_commit A r (B 224 r + 2 + 2 * k)) := by rw [c0, nr]; exact if_pos (by omega)
      have d1 : zm_step B r = some (zm_commit B r (B 224 r + 2 + 2 * k)) := by rw [d0, k1]; exact if_pos (by omega)
      exact Or.inr ⟨_, _, c1, d1, rl_sCom hr h hup ⟨by omega, by omega, k3.1⟩ (by omega) (by omega)⟩
  · have w1 := h6.1
    exact Or.inr ⟨_, _, if_pos (by omega), if_pos (by omega), rl_sIns hr h p1 p3 p2 p4⟩
theorem rl_up {A B : wx_S} {r : Nat} (hr : r < 4) (h : rl_R A B) : A (64 + r) 8 = B 192 r := (h.2 r hr).1.1.2.1.1
theorem rl_actF {r : Nat} (hr : r < 4) : ∀ n A B, rl_R A B → rl_R (zc_actF r n A) (zm_actF r n B)
  | 0, A, B, h => h
  | n + 1, A, B, h => by
    rw [zc_actF, zm_actF, rl_up hr h]
    by_cases hup : B 192 r = 1
    · rw [if_pos hup, if_pos hup]
      rcases rl_step hr h hup with ⟨e1, e2⟩ | ⟨A', B', e1, e2, h'⟩
      · rw [e1, e2]; exact h
      · rw [e1, e2]; exact rl_actF hr n A' B' h'
    · rw [if_neg hup, if_neg hup]; exact h
theorem rl_act {A B : wx_S} {r : Nat} (hr : r < 4) (h : rl_R A B) : rl_R (zc_act A r) (zm_act B r) := rl_actF hr 1000 A B h
