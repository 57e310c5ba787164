/-! the reference: ranges of arrays -/
def zz_fr (X : wx_S) (q b n v : Nat) : wx_S := fun c k => if c = q ∧ b ≤ k ∧ k < b + n then v else X c k
theorem zz_fr_0 (X : wx_S) (q b v : Nat) : zz_fr X q b 0 v = X := by
  funext c k
  simp only [zz_fr]
  rw [if_neg (by omega)]
theorem zz_fr_s (X : wx_S) (q b n v : Nat) : wx_u (zz_fr X q b n v) q (b + n) v = zz_fr X q b (n + 1) v := by
  funext c k
  simp only [wx_u, zz_fr]
  by_cases hc : c = q
  · subst hc
    by_cases hk : k = b + n
    · subst hk
      rw [if_pos ⟨rfl, rfl⟩, if_pos ⟨rfl, by omega, by omega⟩]
    · rw [if_neg (fun z => hk z.2)]
      by_cases h : b ≤ k ∧ k < b + n
      · rw [if_pos ⟨rfl, h⟩, if_pos ⟨rfl, by omega, by omega⟩]
      · rw [if_neg (fun z => h z.2), if_neg (fun z => h ⟨z.2.1, by omega⟩)]
  · rw [if_neg (fun z => hc z.1), if_neg (fun z => hc z.1), if_neg (fun z => hc z.1)]
theorem wx_u_fr {X : wx_S} {q b n v c k x : Nat} (h : c ≠ q) : wx_u (zz_fr X q b n v) c k x = zz_fr (wx_u X c k x) q b n v := by
  funext c' k'
  simp only [wx_u, zz_fr]
  by_cases h1 : c' = q
  · subst h1
    have e2 : ¬ (c' = c ∧ k' = k) := fun z => h z.1.symm
    simp only [e2, if_false]
  · have e1 : ¬ (c' = q ∧ b ≤ k' ∧ k' < b + n) := fun z => h1 z.1
    simp only [e1, if_false]
theorem zz_fr_oth (X : wx_S) {q b n v c k : Nat} (h : c ≠ q) : zz_fr X q b n v c k = X c k := if_neg (fun z => h z.1)
