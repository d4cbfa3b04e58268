section LXd
variable {G : Geo} {M : Mem}
theorem ru_all (P : Nat → Bool) (l : List Nat) : ∀ n p i, p ≤ i → i < ru P l n p → P (l.getD i 0) = true := by
  intro n
  induction n with
  | zero => intro p i h1 h2; rw [ru] at h2; omega
  | succ n ih =>
    intro p i h1 h2
    rw [ru] at h2
    by_cases q : p < l.length ∧ P (l.getD p 0) = true
    · rw [if_pos q] at h2
      by_cases e : p = i
      · rw [← e]; exact q.2
      · exact ih (p + 1) i (by omega) h2
    · rw [if_neg q] at h2; omega
theorem wv_big (l : List Nat) : ∀ n i v, 281474976710656 ≤ v → 281474976710656 ≤ wvM l n i v := by
  intro n
  induction n with
  | zero => intro i v h; exact h
  | succ n ih =>
    intro i v h
    rw [wvM, if_pos h]
    exact ih _ _ (by decide)
theorem wv_st {l : List Nat} {n i v : Nat} (h : v < 281474976710656) : wvM l (n + 1) i v = wvM l n (i + 1) (v * 256 + l.getD i 0) := by
  rw [wvM, if_neg (by omega)]
theorem kw_tb : ∀ j, j < 26 → (97 ≤ chW (j * 6 + 0) ∧ chW (j * 6 + 0) ≤ 122 ∧ 97 ≤ chW (j * 6 + 1) ∧ chW (j * 6 + 1) ≤ 122 ∧ chW (j * 6 + 2) = 32 ∧ chW (j * 6 + 3) = 32 ∧ chW (j * 6 + 4) = 32 ∧ chW (j * 6 + 5) = 32 ∧ kwN.getD j 0 = (chW (j * 6 + 0)) * 256 + chW (j * 6 + 1)) ∨ (97 ≤ chW (j * 6 + 0) ∧ chW (j * 6 + 0) ≤ 122 ∧ 97 ≤ chW (j * 6 + 1) ∧ chW (j * 6 + 1) ≤ 122 ∧ 97 ≤ chW (j * 6 + 2) ∧ chW (j * 6 + 2) ≤ 122 ∧ chW (j * 6 + 3) = 32 ∧ chW (j * 6 + 4) = 32 ∧ chW (j * 6 + 5) = 32 ∧ kwN.getD j 0 = ((chW (j * 6 + 0)) * 256 + chW (j * 6 + 1)) * 256 + chW (j * 6 + 2)) ∨ (97 ≤ chW (j * 6 + 0) ∧ chW (j * 6 + 0) ≤ 122 ∧ 97 ≤ chW (j * 6 + 1) ∧ chW (j * 6 + 1) ≤ 122 ∧ 97 ≤ chW (j * 6 + 2) ∧ chW (j * 6 + 2) ≤ 122 ∧ 97 ≤ chW (j * 6 + 3) ∧ chW (j * 6 + 3) ≤ 122 ∧ chW (j * 6 + 4) = 32 ∧ chW (j * 6 + 5) = 32 ∧ kwN.getD j 0 = (((chW (j * 6 + 0)) * 256 + chW (j * 6 + 1)) * 256 + chW (j * 6 + 2)) * 256 + chW (j * 6 + 3)) ∨ (97 ≤ chW (j * 6 + 0) ∧ chW (j * 6 + 0) ≤ 122 ∧ 97 ≤ chW (j * 6 + 1) ∧ chW (j * 6 + 1) ≤ 122 ∧ 97 ≤ chW (j * 6 + 2) ∧ chW (j * 6 + 2) ≤ 122 ∧ 97 ≤ chW (j * 6 + 3) ∧ chW (j * 6 + 3) ≤ 122 ∧ 97 ≤ chW (j * 6 + 4) ∧ chW (j * 6 + 4) ≤ 122 ∧ chW (j * 6 + 5) = 32 ∧ kwN.getD j 0 = ((((chW (j * 6 + 0)) * 256 + chW (j * 6 + 1)) * 256 + chW (j * 6 + 2)) * 256 + chW (j * 6 + 3)) * 256 + chW (j * 6 + 4)) ∨ (97 ≤ chW (j * 6 + 0) ∧ chW (j * 6 + 0) ≤ 122 ∧ 97 ≤ chW (j * 6 + 1) ∧ chW (j * 6 + 1) ≤ 122 ∧ 97 ≤ chW (j * 6 + 2) ∧ chW (j * 6 + 2) ≤ 122 ∧ 97 ≤ chW (j * 6 + 3) ∧ chW (j * 6 + 3) ≤ 122 ∧ 97 ≤ chW (j * 6 + 4) ∧ chW (j * 6 + 4) ≤ 122 ∧ 97 ≤ chW (j * 6 + 5) ∧ chW (j * 6 + 5) ≤ 122 ∧ kwN.getD j 0 = (((((chW (j * 6 + 0)) * 256 + chW (j * 6 + 1)) * 256 + chW (j * 6 + 2)) * 256 + chW (j * 6 + 3)) * 256 + chW (j * 6 + 4)) * 256 + chW (j * 6 + 5)) := by
  intro j hj
  rcases (show j = 0 ∨ j = 1 ∨ j = 2 ∨ j = 3 ∨ j = 4 ∨ j = 5 ∨ j = 6 ∨ j = 7 ∨ j = 8 ∨ j = 9 ∨ j = 10 ∨ j = 11 ∨ j = 12 ∨ j = 13 ∨ j = 14 ∨ j = 15 ∨ j = 16 ∨ j = 17 ∨ j = 18 ∨ j = 19 ∨ j = 20 ∨ j = 21 ∨ j = 22 ∨ j = 23 ∨ j = 24 ∨ j = 25 by omega) with rfl | rfl | rfl | rfl | rfl | rfl | rfl | rfl | rfl | rfl | rfl | rfl | rfl | rfl | rfl | rfl | rfl | rfl | rfl | rfl | rfl | rfl | rfl | rfl | rfl | rfl
  · exact (Or.inr (Or.inr (Or.inl (by decide +kernel))))
  · exact (Or.inr (Or.inr (Or.inr (Or.inl (by decide +kernel)))))
  · exact (Or.inr (Or.inr (Or.inr (Or.inr (by decide +kernel)))))
  · exact (Or.inr (Or.inr (Or.inl (by decide +kernel))))
  · exact (Or.inr (Or.inr (Or.inl (by decide +kernel))))
  · exact (Or.inr (Or.inr (Or.inl (by decide +kernel))))
  · exact (Or.inr (Or.inr (Or.inl (by decide +kernel))))
  · exact (Or.inl (by decide +kernel))
  · exact (Or.inr (Or.inr (Or.inl (by decide +kernel))))
  · exact (Or.inr (Or.inl (by decide +kernel)))
  · exact (Or.inr (Or.inr (Or.inl (by decide +kernel))))
  · exact (Or.inr (Or.inr (Or.inl (by decide +kernel))))
  · exact (Or.inl (by decide +kernel))
  · exact (Or.inr (Or.inr (Or.inl (by decide +kernel))))
  · exact (Or.inr (Or.inr (Or.inl (by decide +kernel))))
  · exact (Or.inr (Or.inl (by decide +kernel)))
  · exact (Or.inl (by decide +kernel))
  · exact (Or.inr (Or.inl (by decide +kernel)))
  · exact (Or.inr (Or.inl (by decide +kernel)))
  · exact (Or.inr (Or.inr (Or.inr (Or.inl (by decide +kernel)))))
  · exact (Or.inr (Or.inl (by decide +kernel)))
  · exact (Or.inr (Or.inl (by decide +kernel)))
  · exact (Or.inr (Or.inr (Or.inr (Or.inr (by decide +kernel)))))
  · exact (Or.inr (Or.inr (Or.inr (Or.inl (by decide +kernel)))))
  · exact (Or.inr (Or.inr (Or.inr (Or.inr (by decide +kernel)))))
  · exact (Or.inr (Or.inl (by decide +kernel)))
theorem kw_lt : ∀ j, j < 26 → kwN.getD j 0 < 281474976710656 := by decide +kernel
theorem word_eq {l : List Nat} {p e j : Nat} (hj : j < 26) (h1 : p < e) (h6 : e - p ≤ 6) (hb : ∀ t, p + t < e → 65 ≤ l.getD (p + t) 0 ∧ l.getD (p + t) 0 ≤ 122) : (∀ t, t < 6 → cel l p e t = chW (j * 6 + t)) ↔ wvM l (e - p) p 0 = kwN.getD j 0 := by
  have hc : (∀ t, t < 6 → cel l p e t = chW (j * 6 + t)) ↔ (cel l p e 0 = chW (j * 6 + 0) ∧ cel l p e 1 = chW (j * 6 + 1) ∧ cel l p e 2 = chW (j * 6 + 2) ∧ cel l p e 3 = chW (j * 6 + 3) ∧ cel l p e 4 = chW (j * 6 + 4) ∧ cel l p e 5 = chW (j * 6 + 5)) := by
    constructor
    · intro h
      exact ⟨h 0 (by decide), h 1 (by decide), h 2 (by decide), h 3 (by decide), h 4 (by decide), h 5 (by decide)⟩
    · rintro ⟨c0, c1, c2, c3, c4, c5⟩ t ht
      rcases (show t = 0 ∨ t = 1 ∨ t = 2 ∨ t = 3 ∨ t = 4 ∨ t = 5 by omega) with rfl | rfl | rfl | rfl | rfl | rfl
      · exact c0
      · exact c1
      · exact c2
      · exact c3
      · exact c4
      · exact c5
  rw [hc]
  have T := kw_tb j hj
  rcases (show e - p = 1 ∨ e - p = 2 ∨ e - p = 3 ∨ e - p = 4 ∨ e - p = 5 ∨ e - p = 6 by omega) with hn | hn | hn | hn | hn | hn
  · rw [hn]
    have c0 : cel l p e 0 = l.getD (p + 0) 0 := if_pos (by omega)
    have b0 := hb 0 (by omega)
    have c1 : cel l p e 1 = 32 := if_neg (by omega)
    have c2 : cel l p e 2 = 32 := if_neg (by omega)
    have c3 : cel l p e 3 = 32 := if_neg (by omega)
    have c4 : cel l p e 4 = 32 := if_neg (by omega)
    have c5 : cel l p e 5 = 32 := if_neg (by omega)
    have z0 : l.getD (p) 0 ≤ 122 := b0.2
    have hW : wvM l 1 p 0 = l.getD (p + 0) 0 := by
      rw [wv_st (by omega)]
      show 0 * 256 + l.getD (p + 0) 0 = _
      rw [Nat.zero_mul, Nat.zero_add]
    rw [hW, c0, c1, c2, c3, c4, c5]
    clear z0
    clear hW hc hb c0 c1 c2 c3 c4 c5
    generalize l.getD (p + 0) 0 = x0 at *
    generalize chW (j * 6 + 0) = d0 at *
    generalize chW (j * 6 + 1) = d1 at *
    generalize chW (j * 6 + 2) = d2 at *
    generalize chW (j * 6 + 3) = d3 at *
    generalize chW (j * 6 + 4) = d4 at *
    generalize chW (j * 6 + 5) = d5 at *
    generalize kwN.getD j 0 = K at *
    rcases T with T | T | T | T | T <;> omega
  · rw [hn]
    have c0 : cel l p e 0 = l.getD (p + 0) 0 := if_pos (by omega)
    have b0 := hb 0 (by omega)
    have c1 : cel l p e 1 = l.getD (p + 1) 0 := if_pos (by omega)
    have b1 := hb 1 (by omega)
    have c2 : cel l p e 2 = 32 := if_neg (by omega)
    have c3 : cel l p e 3 = 32 := if_neg (by omega)
    have c4 : cel l p e 4 = 32 := if_neg (by omega)
    have c5 : cel l p e 5 = 32 := if_neg (by omega)
    have z0 : l.getD (p) 0 ≤ 122 := b0.2
    have z1 : l.getD (p + 1) 0 ≤ 122 := b1.2
    have hW : wvM l 2 p 0 = (l.getD (p + 0) 0) * 256 + l.getD (p + 1) 0 := by
      rw [wv_st (by omega)]
      rw [wv_st (by omega)]
      show (0 * 256 + l.getD (p + 0) 0) * 256 + l.getD (p + 1) 0 = _
      rw [Nat.zero_mul, Nat.zero_add]
    rw [hW, c0, c1, c2, c3, c4, c5]
    clear z0 z1
    clear hW hc hb c0 c1 c2 c3 c4 c5
    generalize l.getD (p + 0) 0 = x0 at *
    generalize l.getD (p + 1) 0 = x1 at *
    generalize chW (j * 6 + 0) = d0 at *
    generalize chW (j * 6 + 1) = d1 at *
    generalize chW (j * 6 + 2) = d2 at *
    generalize chW (j * 6 + 3) = d3 at *
    generalize chW (j * 6 + 4) = d4 at *
    generalize chW (j * 6 + 5) = d5 at *
    generalize kwN.getD j 0 = K at *
    rcases T with T | T | T | T | T <;> omega
  · rw [hn]
    have c0 : cel l p e 0 = l.getD (p + 0) 0 := if_pos (by omega)
    have b0 := hb 0 (by omega)
    have c1 : cel l p e 1 = l.getD (p + 1) 0 := if_pos (by omega)
    have b1 := hb 1 (by omega)
    have c2 : cel l p e 2 = l.getD (p + 2) 0 := if_pos (by omega)
    have b2 := hb 2 (by omega)
    have c3 : cel l p e 3 = 32 := if_neg (by omega)
    have c4 : cel l p e 4 = 32 := if_neg (by omega)
    have c5 : cel l p e 5 = 32 := if_neg (by omega)
    have z0 : l.getD (p) 0 ≤ 122 := b0.2
    have z1 : l.getD (p + 1) 0 ≤ 122 := b1.2
    have z2 : l.getD (p + 1 + 1) 0 ≤ 122 := b2.2
    have hW : wvM l 3 p 0 = ((l.getD (p + 0) 0) * 256 + l.getD (p + 1) 0) * 256 + l.getD (p + 2) 0 := by
      rw [wv_st (by omega)]
      rw [wv_st (by omega)]
      rw [wv_st (by omega)]
      show ((0 * 256 + l.getD (p + 0) 0) * 256 + l.getD (p + 1) 0) * 256 + l.getD (p + 2) 0 = _
      rw [Nat.zero_mul, Nat.zero_add]
    rw [hW, c0, c1, c2, c3, c4, c5]
    clear z0 z1 z2
    clear hW hc hb c0 c1 c2 c3 c4 c5
    generalize l.getD (p + 0) 0 = x0 at *
    generalize l.getD (p + 1) 0 = x1 at *
    generalize l.getD (p + 2) 0 = x2 at *
    generalize chW (j * 6 + 0) = d0 at *
    generalize chW (j * 6 + 1) = d1 at *
    generalize chW (j * 6 + 2) = d2 at *
    generalize chW (j * 6 + 3) = d3 at *
    generalize chW (j * 6 + 4) = d4 at *
    generalize chW (j * 6 + 5) = d5 at *
    generalize kwN.getD j 0 = K at *
    rcases T with T | T | T | T | T <;> omega
  · rw [hn]
    have c0 : cel l p e 0 = l.getD (p + 0) 0 := if_pos (by omega)
    have b0 := hb 0 (by omega)
    have c1 : cel l p e 1 = l.getD (p + 1) 0 := if_pos (by omega)
    have b1 := hb 1 (by omega)
    have c2 : cel l p e 2 = l.getD (p + 2) 0 := if_pos (by omega)
    have b2 := hb 2 (by omega)
    have c3 : cel l p e 3 = l.getD (p + 3) 0 := if_pos (by omega)
    have b3 := hb 3 (by omega)
    have c4 : cel l p e 4 = 32 := if_neg (by omega)
    have c5 : cel l p e 5 = 32 := if_neg (by omega)
    have z0 : l.getD (p) 0 ≤ 122 := b0.2
    have z1 : l.getD (p + 1) 0 ≤ 122 := b1.2
    have z2 : l.getD (p + 1 + 1) 0 ≤ 122 := b2.2
    have z3 : l.getD (p + 1 + 1 + 1) 0 ≤ 122 := b3.2
    have hW : wvM l 4 p 0 = (((l.getD (p + 0) 0) * 256 + l.getD (p + 1) 0) * 256 + l.getD (p + 2) 0) * 256 + l.getD (p + 3) 0 := by
      rw [wv_st (by omega)]
      rw [wv_st (by omega)]
      rw [wv_st (by omega)]
      rw [wv_st (by omega)]
      show (((0 * 256 + l.getD (p + 0) 0) * 256 + l.getD (p + 1) 0) * 256 + l.getD (p + 2) 0) * 256 + l.getD (p + 3) 0 = _
      rw [Nat.zero_mul, Nat.zero_add]
    rw [hW, c0, c1, c2, c3, c4, c5]
    clear z0 z1 z2 z3
    clear hW hc hb c0 c1 c2 c3 c4 c5
    generalize l.getD (p + 0) 0 = x0 at *
    generalize l.getD (p + 1) 0 = x1 at *
    generalize l.getD (p + 2) 0 = x2 at *
    generalize l.getD (p + 3) 0 = x3 at *
    generalize chW (j * 6 + 0) = d0 at *
    generalize chW (j * 6 + 1) = d1 at *
    generalize chW (j * 6 + 2) = d2 at *
    generalize chW (j * 6 + 3) = d3 at *
    generalize chW (j * 6 + 4) = d4 at *
    generalize chW (j * 6 + 5) = d5 at *
    generalize kwN.getD j 0 = K at *
    rcases T with T | T | T | T | T <;> omega
  · rw [hn]
    have c0 : cel l p e 0 = l.getD (p + 0) 0 := if_pos (by omega)
    have b0 := hb 0 (by omega)
    have c1 : cel l p e 1 = l.getD (p + 1) 0 := if_pos (by omega)
    have b1 := hb 1 (by omega)
    have c2 : cel l p e 2 = l.getD (p + 2) 0 := if_pos (by omega)
    have b2 := hb 2 (by omega)
    have c3 : cel l p e 3 = l.getD (p + 3) 0 := if_pos (by omega)
    have b3 := hb 3 (by omega)
    have c4 : cel l p e 4 = l.getD (p + 4) 0 := if_pos (by omega)
    have b4 := hb 4 (by omega)
    have c5 : cel l p e 5 = 32 := if_neg (by omega)
    have z0 : l.getD (p) 0 ≤ 122 := b0.2
    have z1 : l.getD (p + 1) 0 ≤ 122 := b1.2
    have z2 : l.getD (p + 1 + 1) 0 ≤ 122 := b2.2
    have z3 : l.getD (p + 1 + 1 + 1) 0 ≤ 122 := b3.2
    have z4 : l.getD (p + 1 + 1 + 1 + 1) 0 ≤ 122 := b4.2
    have hW : wvM l 5 p 0 = ((((l.getD (p + 0) 0) * 256 + l.getD (p + 1) 0) * 256 + l.getD (p + 2) 0) * 256 + l.getD (p + 3) 0) * 256 + l.getD (p + 4) 0 := by
      rw [wv_st (by omega)]
      rw [wv_st (by omega)]
      rw [wv_st (by omega)]
      rw [wv_st (by omega)]
      rw [wv_st (by omega)]
      show ((((0 * 256 + l.getD (p + 0) 0) * 256 + l.getD (p + 1) 0) * 256 + l.getD (p + 2) 0) * 256 + l.getD (p + 3) 0) * 256 + l.getD (p + 4) 0 = _
      rw [Nat.zero_mul, Nat.zero_add]
    rw [hW, c0, c1, c2, c3, c4, c5]
    clear z0 z1 z2 z3 z4
    clear hW hc hb c0 c1 c2 c3 c4 c5
    generalize l.getD (p + 0) 0 = x0 at *
    generalize l.getD (p + 1) 0 = x1 at *
    generalize l.getD (p + 2) 0 = x2 at *
    generalize l.getD (p + 3) 0 = x3 at *
    generalize l.getD (p + 4) 0 = x4 at *
    generalize chW (j * 6 + 0) = d0 at *
    generalize chW (j * 6 + 1) = d1 at *
    generalize chW (j * 6 + 2) = d2 at *
    generalize chW (j * 6 + 3) = d3 at *
    generalize chW (j * 6 + 4) = d4 at *
    generalize chW (j * 6 + 5) = d5 at *
    generalize kwN.getD j 0 = K at *
    rcases T with T | T | T | T | T <;> omega
  · rw [hn]
    have c0 : cel l p e 0 = l.getD (p + 0) 0 := if_pos (by omega)
    have b0 := hb 0 (by omega)
    have c1 : cel l p e 1 = l.getD (p + 1) 0 := if_pos (by omega)
    have b1 := hb 1 (by omega)
    have c2 : cel l p e 2 = l.getD (p + 2) 0 := if_pos (by omega)
    have b2 := hb 2 (by omega)
    have c3 : cel l p e 3 = l.getD (p + 3) 0 := if_pos (by omega)
    have b3 := hb 3 (by omega)
    have c4 : cel l p e 4 = l.getD (p + 4) 0 := if_pos (by omega)
    have b4 := hb 4 (by omega)
    have c5 : cel l p e 5 = l.getD (p + 5) 0 := if_pos (by omega)
    have b5 := hb 5 (by omega)
    have z0 : l.getD (p) 0 ≤ 122 := b0.2
    have z1 : l.getD (p + 1) 0 ≤ 122 := b1.2
    have z2 : l.getD (p + 1 + 1) 0 ≤ 122 := b2.2
    have z3 : l.getD (p + 1 + 1 + 1) 0 ≤ 122 := b3.2
    have z4 : l.getD (p + 1 + 1 + 1 + 1) 0 ≤ 122 := b4.2
    have z5 : l.getD (p + 1 + 1 + 1 + 1 + 1) 0 ≤ 122 := b5.2
    have hW : wvM l 6 p 0 = (((((l.getD (p + 0) 0) * 256 + l.getD (p + 1) 0) * 256 + l.getD (p + 2) 0) * 256 + l.getD (p + 3) 0) * 256 + l.getD (p + 4) 0) * 256 + l.getD (p + 5) 0 := by
      rw [wv_st (by omega)]
      rw [wv_st (by omega)]
      rw [wv_st (by omega)]
      rw [wv_st (by omega)]
      rw [wv_st (by omega)]
      rw [wv_st (by omega)]
      show (((((0 * 256 + l.getD (p + 0) 0) * 256 + l.getD (p + 1) 0) * 256 + l.getD (p + 2) 0) * 256 + l.getD (p + 3) 0) * 256 + l.getD (p + 4) 0) * 256 + l.getD (p + 5) 0 = _
      rw [Nat.zero_mul, Nat.zero_add]
    rw [hW, c0, c1, c2, c3, c4, c5]
    clear z0 z1 z2 z3 z4 z5
    clear hW hc hb c0 c1 c2 c3 c4 c5
    generalize l.getD (p + 0) 0 = x0 at *
    generalize l.getD (p + 1) 0 = x1 at *
    generalize l.getD (p + 2) 0 = x2 at *
    generalize l.getD (p + 3) 0 = x3 at *
    generalize l.getD (p + 4) 0 = x4 at *
    generalize l.getD (p + 5) 0 = x5 at *
    generalize chW (j * 6 + 0) = d0 at *
    generalize chW (j * 6 + 1) = d1 at *
    generalize chW (j * 6 + 2) = d2 at *
    generalize chW (j * 6 + 3) = d3 at *
    generalize chW (j * 6 + 4) = d4 at *
    generalize chW (j * 6 + 5) = d5 at *
    generalize kwN.getD j 0 = K at *
    rcases T with T | T | T | T | T <;> omega
theorem word_long {l : List Nat} {p e : Nat} (h6 : 6 < e - p) (hb : ∀ t, p + t < e → 65 ≤ l.getD (p + t) 0 ∧ l.getD (p + t) 0 ≤ 122) : sgN (wvM l (e - p) p 0) = 41 := by
  have hW : 281474976710656 ≤ wvM l (e - p) p 0 := by
    obtain ⟨r, hr⟩ : ∃ r, e - p = r + 7 := ⟨e - p - 7, by omega⟩
    rw [hr]
    have b0 := hb 0 (by omega)
    have z0 : l.getD (p) 0 ≤ 122 := b0.2
    have b1 := hb 1 (by omega)
    have z1 : l.getD (p + 1) 0 ≤ 122 := b1.2
    have b2 := hb 2 (by omega)
    have z2 : l.getD (p + 1 + 1) 0 ≤ 122 := b2.2
    have b3 := hb 3 (by omega)
    have z3 : l.getD (p + 1 + 1 + 1) 0 ≤ 122 := b3.2
    have b4 := hb 4 (by omega)
    have z4 : l.getD (p + 1 + 1 + 1 + 1) 0 ≤ 122 := b4.2
    have b5 := hb 5 (by omega)
    have z5 : l.getD (p + 1 + 1 + 1 + 1 + 1) 0 ≤ 122 := b5.2
    have b6 := hb 6 (by omega)
    have z6 : l.getD (p + 1 + 1 + 1 + 1 + 1 + 1) 0 ≤ 122 := b6.2
    have e1 : p + 1 + 1 = p + 2 := rfl
    rw [wv_st (by omega), wv_st (by omega), wv_st (by omega), wv_st (by omega), wv_st (by omega), wv_st (by omega), wv_st (by omega)]
    refine wv_big _ _ _ _ ?_
    show 281474976710656 ≤ ((((((0 * 256 + l.getD (p + 0) 0) * 256 + l.getD (p + 1) 0) * 256 + l.getD (p + 2) 0) * 256 + l.getD (p + 3) 0) * 256 + l.getD (p + 4) 0) * 256 + l.getD (p + 5) 0) * 256 + l.getD (p + 6) 0
    omega
  rcases sgN_rg (wvM l (e - p) p 0) with q | q
  · have e := (sgN_iff q).mp rfl
    have := kw_lt _ q
    omega
  · exact q
theorem sp_Ta_readWord {l : List Nat} {p : Nat} (hG : GC G) (hR0 : RC M) (hT0 : TapeC l M) (h5 : mI M 220 5 = nI p) (hp : p < l.length) (hl : isL (l.getD p 0) = true) : E 6 0 0 Y_Ta_readWord 0 [some (.ref 220), none, none] [] G M (QI G fun r M' => r = nI (sgN (wvM l (rl isL l p - p) p 0)) ∧ mI M' 220 5 = nI (rl isL l p) ∧ mI M' 220 6 = mI M 220 6 ∧ Fo 220 J56 An M M') := by
  have hE1 : p + 1 ≤ rl isL l p := by rw [rl_step hp hl]; exact rl_ge hp
  have hEl : rl isL l p ≤ l.length := rl_le (Nat.le_of_lt hp)
  have hall : ∀ t, p + t < rl isL l p → 65 ≤ l.getD (p + t) 0 ∧ l.getD (p + t) 0 ≤ 122 := fun t ht => by
    have := isL_iff.mp (ru_all isL l _ p (p + t) (by omega) ht)
    omega
  have l3 := hT0.1
  have K2 : ∀ M1, Fo 220 J56 An M M1 → mI M1 220 5 = nI (rl isL l p) → mI M1 220 6 = mI M 220 6 → ∀ k j, j + k = 26 → (∀ i, i < j → wvM l (rl isL l p - p) p 0 ≠ kwN.getD i 0) → E 6 0 0 Y_Ta_readWord 48 [some (.ref 220), some (.int (nI p)), some (.int (nI j))] [] G M1 (QI G fun r M' => r = nI (sgN (wvM l (rl isL l p - p) p 0)) ∧ mI M' 220 5 = nI (rl isL l p) ∧ mI M' 220 6 = mI M 220 6 ∧ Fo 220 J56 An M M') := by
    intro M1 hX g5 g6 k
    have hR := hR0.fo hX
    have hT := hT0.fo hX (by unfold J56; omega) (fun q => q)
    induction k with
    | zero =>
      intro j hj h
      have e26 : j = 26 := by omega
      subst e26
      have ok : nI 41 = nI (sgN (wvM l (rl isL l p - p) p 0)) := by
        rcases sgN_rg (wvM l (rl isL l p - p) p 0) with q | q
        · exact absurd ((sgN_iff q).mp rfl) (h _ q)
        · rw [q]
      refine E_iload_n d_Ta_readWord_48 rfl ?_
      refine E_bipush (v := nI 25) d_Ta_readWord_49 (by decide) ?_
      first | (with_reducible refine E_isN2 ?_; refine E_icmp_gt 82 d_Ta_readWord_51 rfl (nb_lt (by omega) (by omega) fun h51 => ?_) (nb_nlt (by omega) (by omega) fun h51 => ?_)) | refine E_icmp_gt 82 d_Ta_readWord_51 rfl (fun h51 => ?_) (fun h51 => ?_)
      rotate_left
      · exfalso; omega
      refine E_bipush (v := nI 41) d_Ta_readWord_82 (by decide) ?_
      refine E_retI d_Ta_readWord_84 rfl ?_
      exact ⟨ok, g5, g6, hX⟩
    | succ k ih =>
      intro j hj h
      by_cases h6 : rl isL l p - p ≤ 6
      · have he := word_eq (j := j) (by omega) (show p < rl isL l p by omega) h6 hall
        have hw := sp_Ta_isWord (M := M1) (p := p) (e := rl isL l p) (j := j) hG hR hT g5 hEl (by omega) (by omega)
        have k1 : celA l p (rl isL l p) j 6 = true → nI j = nI (sgN (wvM l (rl isL l p - p) p 0)) := fun q => by
          have := he.mp ((celA_iff 6).mp q)
          rw [(sgN_iff (show j < 26 by omega)).mpr this]
        have k0 : ¬ celA l p (rl isL l p) j 6 = true → ∀ i, i < j + 1 → wvM l (rl isL l p - p) p 0 ≠ kwN.getD i 0 := fun q i hi => by
          rcases Nat.lt_or_ge i j with z | z
          · exact h i z
          · rw [show i = j by omega]; exact fun r => q ((celA_iff 6).mpr (he.mpr r))
        refine E_iload_n d_Ta_readWord_48 rfl ?_
        refine E_bipush (v := nI 25) d_Ta_readWord_49 (by decide) ?_
        first | (with_reducible refine E_isN2 ?_; refine E_icmp_gt 82 d_Ta_readWord_51 rfl (nb_lt (by omega) (by omega) fun h51 => ?_) (nb_nlt (by omega) (by omega) fun h51 => ?_)) | refine E_icmp_gt 82 d_Ta_readWord_51 rfl (fun h51 => ?_) (fun h51 => ?_)
        · exfalso; omega
        first | refine E_aload_n d_Ta_readWord_54 rfl ?_ | refine E_aload_nN d_Ta_readWord_54 rfl ?_
        refine E_getI d_Ta_readWord_55 gf_Ta_32 (by exact hG.s (by decide) rfl) (by exact g5) ?_
        refine E_iload_n d_Ta_readWord_58 rfl ?_
        first | (with_reducible refine E_isN2 ?_; refine E_isubN d_Ta_readWord_59 (by omega) ?_) | refine E_isub d_Ta_readWord_59 ?_
        refine E_bipush (v := nI 6) d_Ta_readWord_60 (by decide) ?_
        first | (with_reducible refine E_isN2 ?_; refine E_icmp_gt 82 d_Ta_readWord_62 rfl (nb_lt (by omega) (by omega) fun h62 => ?_) (nb_nlt (by omega) (by omega) fun h62 => ?_)) | refine E_icmp_gt 82 d_Ta_readWord_62 rfl (fun h62 => ?_) (fun h62 => ?_)
        · exfalso; omega
        first | refine E_aload_n d_Ta_readWord_65 rfl ?_ | refine E_aload_nN d_Ta_readWord_65 rfl ?_
        refine E_iload_n d_Ta_readWord_66 rfl ?_
        refine E_iload_n d_Ta_readWord_67 rfl ?_
        refine E_V2 (hw) d_Ta_readWord_68 ml_Ta_72 cb_Ta_isWord cv_Ta_isWord (by exact hG.s (by decide) rfl) ⟨by decide, rfl⟩ ⟨by decide, by decide⟩ rfl (Nat.le_of_ble_eq_true rfl) (Nat.le_of_ble_eq_true rfl) (kI fun r1 M1 hc => ?_)
        obtain ⟨rfl, rfl⟩ := hc
        first | (with_reducible refine E_isP ?_; refine E_if_eq 76 d_Ta_readWord_71 rfl (pb_0 fun h71 => ?_) (pb_1 fun h71 => ?_)) | (with_reducible refine E_isN1 ?_; refine E_if_eq 76 d_Ta_readWord_71 rfl (nz_eq (by omega) fun h71 => ?_) (nz_ne fun h71 => ?_)) | refine E_if_eq 76 d_Ta_readWord_71 rfl (fun h71 => ?_) (fun h71 => ?_)
        · first | (with_reducible refine E_isL2 ?_; refine E_iincN2 (m := 1) d_Ta_readWord_76 rfl rfl ?_) | refine E_iinc_2 d_Ta_readWord_76 rfl rfl ?_
          refine E_goto 48 d_Ta_readWord_79 rfl ?_
          exact ih (j + 1) (by omega) (k0 h71)
        · refine E_iload_n d_Ta_readWord_74 rfl ?_
          refine E_retI d_Ta_readWord_75 rfl ?_
          exact ⟨k1 h71, g5, g6, hX⟩
      · have ok : nI 41 = nI (sgN (wvM l (rl isL l p - p) p 0)) := by rw [word_long (by omega) hall]
        refine E_iload_n d_Ta_readWord_48 rfl ?_
        refine E_bipush (v := nI 25) d_Ta_readWord_49 (by decide) ?_
        first | (with_reducible refine E_isN2 ?_; refine E_icmp_gt 82 d_Ta_readWord_51 rfl (nb_lt (by omega) (by omega) fun h51 => ?_) (nb_nlt (by omega) (by omega) fun h51 => ?_)) | refine E_icmp_gt 82 d_Ta_readWord_51 rfl (fun h51 => ?_) (fun h51 => ?_)
        · exfalso; omega
        first | refine E_aload_n d_Ta_readWord_54 rfl ?_ | refine E_aload_nN d_Ta_readWord_54 rfl ?_
        refine E_getI d_Ta_readWord_55 gf_Ta_32 (by exact hG.s (by decide) rfl) (by exact g5) ?_
        refine E_iload_n d_Ta_readWord_58 rfl ?_
        first | (with_reducible refine E_isN2 ?_; refine E_isubN d_Ta_readWord_59 (by omega) ?_) | refine E_isub d_Ta_readWord_59 ?_
        refine E_bipush (v := nI 6) d_Ta_readWord_60 (by decide) ?_
        first | (with_reducible refine E_isN2 ?_; refine E_icmp_gt 82 d_Ta_readWord_62 rfl (nb_lt (by omega) (by omega) fun h62 => ?_) (nb_nlt (by omega) (by omega) fun h62 => ?_)) | refine E_icmp_gt 82 d_Ta_readWord_62 rfl (fun h62 => ?_) (fun h62 => ?_)
        rotate_left
        · exfalso; omega
        refine E_bipush (v := nI 41) d_Ta_readWord_82 (by decide) ?_
        refine E_retI d_Ta_readWord_84 rfl ?_
        exact ⟨ok, g5, g6, hX⟩
  have L : ∀ j i M1, l.length - i = j → i ≤ l.length → rl isL l i = rl isL l p → Fo 220 J56 An M M1 → mI M1 220 5 = nI i → mI M1 220 6 = mI M 220 6 → E 6 0 0 Y_Ta_readWord 5 [some (.ref 220), some (.int (nI p)), none] [] G M1 (QI G fun r M' => r = nI (sgN (wvM l (rl isL l p - p) p 0)) ∧ mI M' 220 5 = nI (rl isL l p) ∧ mI M' 220 6 = mI M 220 6 ∧ Fo 220 J56 An M M') := by
    intro j
    induction j with
    | zero =>
      intro i M1 hj hi hE hX g5 g6
      have hR := hR0.fo hX
      have hT := hT0.fo hX (by unfold J56; omega) (fun q => q)
      have h1 := hT.2.1
      have e0 : rl isL l i = i := rl_stop (fun q => by omega)
      have ok : mI M1 220 5 = nI (rl isL l p) := by rw [g5, ← hE, e0]
      first | refine E_aload_n d_Ta_readWord_5 rfl ?_ | refine E_aload_nN d_Ta_readWord_5 rfl ?_
      refine E_getI d_Ta_readWord_6 gf_Ta_32 (by exact hG.s (by decide) rfl) (by first | exact g5 | exact h1) ?_
      first | refine E_aload_n d_Ta_readWord_9 rfl ?_ | refine E_aload_nN d_Ta_readWord_9 rfl ?_
      refine E_getI d_Ta_readWord_10 gf_Ta_24 (by exact hG.s (by decide) rfl) (by first | exact g5 | exact h1) ?_
      first | (with_reducible refine E_isN2 ?_; refine E_icmp_ge 46 d_Ta_readWord_13 rfl (nb_le (by omega) (by omega) fun h13 => ?_) (nb_nle (by omega) (by omega) fun h13 => ?_)) | refine E_icmp_ge 46 d_Ta_readWord_13 rfl (fun h13 => ?_) (fun h13 => ?_)
      rotate_left
      · exfalso; omega
      refine E_iconst (v := nI 0) d_Ta_readWord_46 rfl ?_
      refine E_istore_2 d_Ta_readWord_47 rfl ?_
      exact K2 M1 hX ok g6 26 0 (by decide) (fun i hi => absurd hi (Nat.not_lt_zero i))
    | succ j ih =>
      intro i M1 hj hi hE hX g5 g6
      have hR := hR0.fo hX
      have hT := hT0.fo hX (by unfold J56; omega) (fun q => q)
      have h1 := hT.2.1
      have hil : i < l.length := by omega
      have hb := hT.b hil
      have hbv := hT.2.2.1 i hil
      by_cases hbl : isL (l.getD i 0) = true
      · have e1 : rl isL l i = rl isL l (i + 1) := rl_step hil hbl
        have KK := ih (i + 1) (wI M1 220 5 (nI (i + 1))) (by omega) hil (e1.symm.trans hE) (hX.wI (by unfold J56; omega)) (by rw [mI_wa, if_pos rfl]) (by rw [mI_wa, if_neg (by decide)]; exact g6)
        clear K2
        generalize hbb : l.getD i 0 = b at *
        first | refine E_aload_n d_Ta_readWord_5 rfl ?_ | refine E_aload_nN d_Ta_readWord_5 rfl ?_
        refine E_getI d_Ta_readWord_6 gf_Ta_32 (by exact hG.s (by decide) rfl) (by first | exact g5 | exact h1) ?_
        first | refine E_aload_n d_Ta_readWord_9 rfl ?_ | refine E_aload_nN d_Ta_readWord_9 rfl ?_
        refine E_getI d_Ta_readWord_10 gf_Ta_24 (by exact hG.s (by decide) rfl) (by first | exact g5 | exact h1) ?_
        first | (with_reducible refine E_isN2 ?_; refine E_icmp_ge 46 d_Ta_readWord_13 rfl (nb_le (by omega) (by omega) fun h13 => ?_) (nb_nle (by omega) (by omega) fun h13 => ?_)) | refine E_icmp_ge 46 d_Ta_readWord_13 rfl (fun h13 => ?_) (fun h13 => ?_)
        · exfalso; omega
        first | refine E_aload_n d_Ta_readWord_16 rfl ?_ | refine E_aload_nN d_Ta_readWord_16 rfl ?_
        refine E_getR d_Ta_readWord_17 gf_Ta_9 (by exact hG.s (by decide) rfl) (by exact hR.o rfl) ?_
        first | refine E_aload_n d_Ta_readWord_20 rfl ?_ | refine E_aload_nN d_Ta_readWord_20 rfl ?_
        refine E_getI d_Ta_readWord_21 gf_Ta_32 (by exact hG.s (by decide) rfl) (by first | exact g5 | exact h1) ?_
        refine E_SN2 (sp_TP_at (hG.s (k := 221) (by decide) rfl) (by decide) (by omega) hbv) d_Ta_readWord_24 nl_Ta_41 cb_TP_at cs_TP_at ⟨by decide, by decide⟩ rfl (Nat.le_of_ble_eq_true rfl) (Nat.le_of_ble_eq_true rfl) (kI fun r1 M1 hc => ?_)
        obtain ⟨rfl, rfl⟩ := hc
        refine E_S1 (sp_Ta_isLetter hb) d_Ta_readWord_27 ml_Ta_55 cb_Ta_isLetter cs_Ta_isLetter ⟨by decide, by decide⟩ rfl (Nat.le_of_ble_eq_true rfl) (Nat.le_of_ble_eq_true rfl) (kI fun r1 M1 hc => ?_)
        obtain ⟨rfl, rfl⟩ := hc
        first | (with_reducible refine E_isP ?_; refine E_if_eq 46 d_Ta_readWord_30 rfl (pb_0 fun h30 => ?_) (pb_1 fun h30 => ?_)) | (with_reducible refine E_isN1 ?_; refine E_if_eq 46 d_Ta_readWord_30 rfl (nz_eq (by omega) fun h30 => ?_) (nz_ne fun h30 => ?_)) | refine E_if_eq 46 d_Ta_readWord_30 rfl (fun h30 => ?_) (fun h30 => ?_)
        · exfalso; exact h30 hbl
        first | refine E_aload_n d_Ta_readWord_33 rfl ?_ | refine E_aload_nN d_Ta_readWord_33 rfl ?_
        refine E_dup d_Ta_readWord_34 rfl ?_
        refine E_getI d_Ta_readWord_35 gf_Ta_32 (by exact hG.s (by decide) rfl) (by first | exact g5 | exact h1) ?_
        refine E_iconst (v := nI 1) d_Ta_readWord_38 rfl ?_
        first | (with_reducible refine E_isN2 ?_; refine E_iaddN d_Ta_readWord_39 ?_) | refine E_iadd d_Ta_readWord_39 ?_
        refine E_putI d_Ta_readWord_40 gf_Ta_32 (by exact hG.s (by decide) rfl) rfl rfl ?_
        refine E_goto 5 d_Ta_readWord_43 rfl ?_
        exact KK
      · have e0 : rl isL l i = i := rl_stop (fun q => hbl q.2)
        have ok : mI M1 220 5 = nI (rl isL l p) := by rw [g5, ← hE, e0]
        have KK := K2 M1 hX ok g6 26 0 (by decide) (fun i hi => absurd hi (Nat.not_lt_zero i))
        clear K2
        generalize hbb : l.getD i 0 = b at *
        first | refine E_aload_n d_Ta_readWord_5 rfl ?_ | refine E_aload_nN d_Ta_readWord_5 rfl ?_
        refine E_getI d_Ta_readWord_6 gf_Ta_32 (by exact hG.s (by decide) rfl) (by first | exact g5 | exact h1) ?_
        first | refine E_aload_n d_Ta_readWord_9 rfl ?_ | refine E_aload_nN d_Ta_readWord_9 rfl ?_
        refine E_getI d_Ta_readWord_10 gf_Ta_24 (by exact hG.s (by decide) rfl) (by first | exact g5 | exact h1) ?_
        first | (with_reducible refine E_isN2 ?_; refine E_icmp_ge 46 d_Ta_readWord_13 rfl (nb_le (by omega) (by omega) fun h13 => ?_) (nb_nle (by omega) (by omega) fun h13 => ?_)) | refine E_icmp_ge 46 d_Ta_readWord_13 rfl (fun h13 => ?_) (fun h13 => ?_)
        · exfalso; omega
        first | refine E_aload_n d_Ta_readWord_16 rfl ?_ | refine E_aload_nN d_Ta_readWord_16 rfl ?_
        refine E_getR d_Ta_readWord_17 gf_Ta_9 (by exact hG.s (by decide) rfl) (by exact hR.o rfl) ?_
        first | refine E_aload_n d_Ta_readWord_20 rfl ?_ | refine E_aload_nN d_Ta_readWord_20 rfl ?_
        refine E_getI d_Ta_readWord_21 gf_Ta_32 (by exact hG.s (by decide) rfl) (by first | exact g5 | exact h1) ?_
        refine E_SN2 (sp_TP_at (hG.s (k := 221) (by decide) rfl) (by decide) (by omega) hbv) d_Ta_readWord_24 nl_Ta_41 cb_TP_at cs_TP_at ⟨by decide, by decide⟩ rfl (Nat.le_of_ble_eq_true rfl) (Nat.le_of_ble_eq_true rfl) (kI fun r1 M1 hc => ?_)
        obtain ⟨rfl, rfl⟩ := hc
        refine E_S1 (sp_Ta_isLetter hb) d_Ta_readWord_27 ml_Ta_55 cb_Ta_isLetter cs_Ta_isLetter ⟨by decide, by decide⟩ rfl (Nat.le_of_ble_eq_true rfl) (Nat.le_of_ble_eq_true rfl) (kI fun r1 M1 hc => ?_)
        obtain ⟨rfl, rfl⟩ := hc
        first | (with_reducible refine E_isP ?_; refine E_if_eq 46 d_Ta_readWord_30 rfl (pb_0 fun h30 => ?_) (pb_1 fun h30 => ?_)) | (with_reducible refine E_isN1 ?_; refine E_if_eq 46 d_Ta_readWord_30 rfl (nz_eq (by omega) fun h30 => ?_) (nz_ne fun h30 => ?_)) | refine E_if_eq 46 d_Ta_readWord_30 rfl (fun h30 => ?_) (fun h30 => ?_)
        rotate_left
        · exfalso; exact hbl h30
        refine E_iconst (v := nI 0) d_Ta_readWord_46 rfl ?_
        refine E_istore_2 d_Ta_readWord_47 rfl ?_
        exact KK
  first | refine E_aload_n d_Ta_readWord_0 rfl ?_ | refine E_aload_nN d_Ta_readWord_0 rfl ?_
  refine E_getI d_Ta_readWord_1 gf_Ta_32 (by exact hG.s (by decide) rfl) (by exact h5) ?_
  refine E_istore_1 d_Ta_readWord_4 rfl ?_
  exact L _ p M rfl (Nat.le_of_lt hp) rfl Fo.rf h5 rfl
end LXd
