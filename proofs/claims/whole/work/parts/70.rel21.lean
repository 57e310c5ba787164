/-! submit -/
theorem rl_sSub {A B : wx_S} {r f t a : Nat} (hr : r < 4) (h : rl_R A B) (hup : B 192 r ≠ 2) : (zc_sub A r f t a).1 = (zm_sub B r f t a).1 ∧ rl_R (zc_sub A r f t a).2 (zm_sub B r f t a).2 := by
  have hc := rl_cut (h.2 r hr).1.2.1
  have en := h.1.1.1
  unfold zc_sub zm_sub
  rw [en]
  by_cases hg : B 136 1 < 40 ∧ f < 4 ∧ t < 4 ∧ f ≠ t ∧ 1 ≤ a ∧ a ≤ 1000
  · rw [if_pos hg, if_pos hg]
    by_cases hcut : B 200 r = 0
    · rw [if_pos (hc.mpr hcut), if_pos hcut]
      exact ⟨rfl, rl_sFall hr h hup⟩
    · rw [if_neg (fun q => hcut (hc.mp q)), if_neg hcut]
      refine ⟨rfl, ?_⟩
      have r1 := rl_sWr hr h hcut
      have en1 : zm_wrote B r 136 1 = B 136 1 := zm_wrote_oth _ _ _ (by decide) (by decide)
      have eq1 : zc_wrote A r (68 + r) 1 = A (68 + r) 1 := zc_wrote_dk A r (by decide)
      rw [← en1, ← eq1]
      rw [← en1] at hg
      generalize zc_wrote A r = C at *
      generalize zm_wrote B r = D at *
      clear h hc en hcut hup en1 eq1
      obtain ⟨h1, h2, h3, _⟩ := (r1.2 r hr).1
      obtain ⟨q1, q2, q3, q4, q5⟩ := h3
      have G := r1.1
      have G8 := G.2.2.2.2.2.2.2.1
      have oA : ∀ {c : Nat} k, 20 ≤ c → c ≠ 72 + r → c ≠ 68 + r → wx_u (wx_u (wx_u (wx_u (wx_u (wx_u C 8 (D 136 1) f) 12 (D 136 1) t) 16 (D 136 1) a) 4 3 (D 136 1 + 1)) (72 + r) (C (68 + r) 1) (D 136 1)) (68 + r) 1 (C (68 + r) 1 + 1) c k = C c k := fun k a1 a2 a3 => by rw [wx_u_nc a3, wx_u_nc a2, wx_u_nc (by omega), wx_u_nc (by omega), wx_u_nc (by omega), wx_u_nc (by omega)]
      have oA0 : wx_u (wx_u (wx_u (wx_u (wx_u (wx_u C 8 (D 136 1) f) 12 (D 136 1) t) 16 (D 136 1) a) 4 3 (D 136 1 + 1)) (72 + r) (C (68 + r) 1) (D 136 1)) (68 + r) 1 (C (68 + r) 1 + 1) 0 4 = C 0 4 := by rw [wx_u_nc (by omega), wx_u_nc (by omega), wx_u_nc (by omega), wx_u_nc (by omega), wx_u_nc (by omega), wx_u_nc (by omega)]
      have o68 : ∀ k, wx_u (wx_u (wx_u (wx_u (wx_u (wx_u C 8 (D 136 1) f) 12 (D 136 1) t) 16 (D 136 1) a) 4 3 (D 136 1 + 1)) (72 + r) (C (68 + r) 1) (D 136 1)) (68 + r) 1 (C (68 + r) 1 + 1) (68 + r) k = if k = 1 then C (68 + r) 1 + 1 else C (68 + r) k := fun k => by
        by_cases hk : k = 1
        · rw [hk, wx_u_eq, if_pos rfl]
        · rw [wx_u_nk hk, if_neg hk, wx_u_nc (by omega), wx_u_nc (by omega), wx_u_nc (by omega), wx_u_nc (by omega), wx_u_nc (by omega)]
      have o72 : ∀ k, wx_u (wx_u (wx_u (wx_u (wx_u (wx_u C 8 (D 136 1) f) 12 (D 136 1) t) 16 (D 136 1) a) 4 3 (D 136 1 + 1)) (72 + r) (C (68 + r) 1) (D 136 1)) (68 + r) 1 (C (68 + r) 1 + 1) (72 + r) k = if k = C (68 + r) 1 then D 136 1 else C (72 + r) k := fun k => by
        by_cases hk : k = C (68 + r) 1
        · rw [wx_u_nc (by omega), hk, wx_u_eq, if_pos rfl]
        · rw [wx_u_nc (by omega), wx_u_nk hk, if_neg hk, wx_u_nc (by omega), wx_u_nc (by omega), wx_u_nc (by omega), wx_u_nc (by omega)]
      have oB : ∀ {c : Nat} k, c ≠ 140 → c ≠ 144 → c ≠ 148 → c ≠ 152 → ¬ (c = 136 ∧ k = 1) → wx_u (wx_u (wx_u (wx_u (wx_u D 140 (D 136 1) f) 144 (D 136 1) t) 148 (D 136 1) a) 152 (D 136 1) r) 136 1 (D 136 1 + 1) c k = D c k := fun k a1 a2 a3 a4 a5 => by rw [wx_u_ne a5, wx_u_nc a4, wx_u_nc a3, wx_u_nc a2, wx_u_nc a1]
      have o1 : wx_u (wx_u (wx_u (wx_u (wx_u D 140 (D 136 1) f) 144 (D 136 1) t) 148 (D 136 1) a) 152 (D 136 1) r) 136 1 (D 136 1 + 1) 136 1 = D 136 1 + 1 := wx_u_eq _ _ _ _
      have o152 : ∀ k, wx_u (wx_u (wx_u (wx_u (wx_u D 140 (D 136 1) f) 144 (D 136 1) t) 148 (D 136 1) a) 152 (D 136 1) r) 136 1 (D 136 1 + 1) 152 k = if k = D 136 1 then r else D 152 k := fun k => by
        by_cases hk : k = D 136 1
        · rw [wx_u_nc (by decide), hk, wx_u_eq, if_pos rfl]
        · rw [wx_u_nc (by decide), wx_u_nk hk, if_neg hk, wx_u_nc (by decide), wx_u_nc (by decide), wx_u_nc (by decide)]
      have oV : ∀ x, x ≠ D 136 1 → ∀ c, c = 140 ∨ c = 144 ∨ c = 148 → wx_u (wx_u (wx_u (wx_u (wx_u D 140 (D 136 1) f) 144 (D 136 1) t) 148 (D 136 1) a) 152 (D 136 1) r) 136 1 (D 136 1 + 1) c x = D c x := fun x hx c hc => by rw [wx_u_nc (by omega), wx_u_nk hx, wx_u_nk hx, wx_u_nk hx, wx_u_nk hx]
      have oN : wx_u (wx_u (wx_u (wx_u (wx_u D 140 (D 136 1) f) 144 (D 136 1) t) 148 (D 136 1) a) 152 (D 136 1) r) 136 1 (D 136 1 + 1) 140 (D 136 1) = f ∧ wx_u (wx_u (wx_u (wx_u (wx_u D 140 (D 136 1) f) 144 (D 136 1) t) 148 (D 136 1) a) 152 (D 136 1) r) 136 1 (D 136 1 + 1) 144 (D 136 1) = t ∧ wx_u (wx_u (wx_u (wx_u (wx_u D 140 (D 136 1) f) 144 (D 136 1) t) 148 (D 136 1) a) 152 (D 136 1) r) 136 1 (D 136 1 + 1) 148 (D 136 1) = a := by simp [wx_u]
      have hT : rl_T (wx_u (wx_u (wx_u (wx_u (wx_u (wx_u C 8 (D 136 1) f) 12 (D 136 1) t) 16 (D 136 1) a) 4 3 (D 136 1 + 1)) (72 + r) (C (68 + r) 1) (D 136 1)) (68 + r) 1 (C (68 + r) 1 + 1)) (wx_u (wx_u (wx_u (wx_u (wx_u D 140 (D 136 1) f) 144 (D 136 1) t) 148 (D 136 1) a) 152 (D 136 1) r) 136 1 (D 136 1 + 1)) := by
        refine ⟨by rw [o1, wx_u_nc (by omega), wx_u_nc (by omega), wx_u_eq], fun x hx => ?_⟩
        rw [o1] at hx
        rw [wx_u_nc (c' := 8) (by omega), wx_u_nc (c' := 8) (by omega), wx_u_nc (c' := 8) (by omega), wx_u_nc (c' := 8) (by omega), wx_u_nc (c' := 8) (by omega), wx_u_nc (c' := 12) (by omega), wx_u_nc (c' := 12) (by omega), wx_u_nc (c' := 12) (by omega), wx_u_nc (c' := 12) (by omega), wx_u_nc (c' := 16) (by omega), wx_u_nc (c' := 16) (by omega), wx_u_nc (c' := 16) (by omega), wx_u_nc (c' := 140) (by omega), wx_u_nc (c' := 140) (by omega), wx_u_nc (c' := 140) (by omega), wx_u_nc (c' := 140) (by omega), wx_u_nc (c' := 144) (by omega), wx_u_nc (c' := 144) (by omega), wx_u_nc (c' := 144) (by omega), wx_u_nc (c' := 148) (by omega), wx_u_nc (c' := 148) (by omega)]
        by_cases hxn : x = D 136 1
        · rw [hxn, wx_u_eq, wx_u_eq, wx_u_eq, wx_u_eq, wx_u_eq, wx_u_eq]; exact ⟨rfl, rfl, rfl⟩
        · simp only [wx_u_nk hxn]
          exact G.1.2 x (by omega)
      generalize wx_u (wx_u (wx_u (wx_u (wx_u (wx_u C 8 (D 136 1) f) 12 (D 136 1) t) 16 (D 136 1) a) 4 3 (D 136 1 + 1)) (72 + r) (C (68 + r) 1) (D 136 1)) (68 + r) 1 (C (68 + r) 1 + 1) = C' at *
      generalize wx_u (wx_u (wx_u (wx_u (wx_u D 140 (D 136 1) f) 144 (D 136 1) t) 148 (D 136 1) a) 152 (D 136 1) r) 136 1 (D 136 1 + 1) = D' at *
      show rl_R C' D'
      have oC : ∀ {c : Nat} k, 156 ≤ c → D' c k = D c k := fun k hc => oB k (by omega) (by omega) (by omega) (by omega) (by omega)
      refine rl_sGN hr r1 (fun c k a1 _ a2 a3 => oA k a1 a3 a2) oA0 (oB _ (by decide) (by decide) (by decide) (by decide) (by omega)) (oB _ (by decide) (by decide) (by decide) (by decide) (by omega)) (oB _ (by decide) (by decide) (by decide) (by decide) (by omega)) (fun c k hc _ _ _ _ _ => oC k (by omega)) (fun c s hc _ => oC _ (by omega)) hT ?_ (fun x hx => ?_) (fun s => by rw [oC _ (by decide)]; exact Nat.le_refl _) ?_ ?_ ?_ (fun s hs hsr => ?_)
      · obtain ⟨v1, v2, v3, v4⟩ := G.2.2.2.2.1
        unfold zm_V
        rw [o1, oB (c := 136) 7 (by decide) (by decide) (by decide) (by decide) (by omega)]
        refine ⟨v1, by omega, fun x hx => ?_, fun x hx => ?_⟩
        · rw [oC (c := 160) _ (by decide), oC (c := 164) _ (by decide), oC (c := 168) _ (by decide), oC (c := 172) _ (by decide), oC (c := 176) _ (by decide)]
          have z := v3 x hx
          exact ⟨z.1, z.2.1, z.2.2.1, z.2.2.2.1, by have := z.2.2.2.2.1; omega, by have := z.2.2.2.2.2; omega⟩
        · by_cases hxn : x = D 136 1
          · rw [hxn, oN.1, oN.2.1, oN.2.2]; exact ⟨hg.2.1, hg.2.2.1, hg.2.2.2.2.2, hg.2.2.2.1⟩
          · rw [oV x hxn 140 (by omega), oV x hxn 144 (by omega), oV x hxn 148 (by omega)]; exact v4 x (by omega)
      · have z := G8 x hx
        rw [o152, oC _ (by decide), o1]
        exact ⟨by split <;> omega, z.2.1, fun q => z.2.2 (by omega)⟩
      · unfold rl_S
        rw [o68, o68, if_neg (by decide), if_neg (by decide), oA (c := 64 + r) _ (by omega) (by omega) (by omega), oA (c := 64 + r) _ (by omega) (by omega) (by omega), oA (c := 64 + r) _ (by omega) (by omega) (by omega), oA (c := 64 + r) _ (by omega) (by omega) (by omega), oA (c := 64 + r) _ (by omega) (by omega) (by omega), oA (c := 124 + r) _ (by omega) (by omega) (by omega), oC _ (by decide), oC _ (by decide), oC _ (by decide), oC _ (by decide), oC _ (by decide), oC _ (by decide)]
        exact h1
      · exact rl_X_x (fun k => oA k (by omega) (by omega) (by omega)) (oC _ (by decide)) h2
      · unfold rl_Q
        simp only [o68, o72, o152, o1, show ∀ k, D' 156 k = D 156 k from fun k => oC k (by decide), if_true, show (2 : Nat) ≠ 1 from by decide, if_false]
        refine ⟨by omega, fun i hi => ?_, fun i j hij hj => ?_, fun x hx hq => ?_, fun i hi => ?_⟩
        · by_cases hin : i = C (68 + r) 1
          · rw [if_pos hin, if_pos rfl]; exact ⟨by omega, rfl⟩
          · have z := q2 i (by omega)
            rw [if_neg hin, if_neg (by omega)]; exact ⟨by omega, z.2⟩
        · rw [if_neg (show ¬ i = C (68 + r) 1 by omega)]
          by_cases hjn : j = C (68 + r) 1
          · rw [if_pos hjn]; exact (q2 i (by omega)).1
          · rw [if_neg hjn]; exact q3 i j hij (by omega)
        · by_cases hxn : x = D 136 1
          · exact ⟨C (68 + r) 1, by omega, by rw [if_pos rfl, hxn]⟩
          · rw [if_neg hxn] at hq
            obtain ⟨i, hi, e⟩ := q4 x (by omega) hq
            exact ⟨i, by omega, by rw [if_neg (by omega)]; exact e⟩
        · by_cases hin : i = C (68 + r) 1
          · rw [if_pos hin, (G8 _ hg.1).2.2 (Nat.le_refl _)]
            exact ⟨fun _ => by omega, fun _ => rfl⟩
          · rw [if_neg hin]; exact q5 i (by omega)
      · refine ⟨by rw [o1]; omega, fun x hx => ⟨by rw [o152, if_neg (by omega)], fun _ => oC _ (by decide)⟩, fun x k1 k2 => ?_⟩
        rw [o1] at k2
        rw [o152, if_pos (by omega)]
        exact fun q => hsr q.symm
  · rw [if_neg hg, if_neg hg]
    exact ⟨rfl, h⟩
