theorem bset_lt (P : Nat → Bool) (n : Nat) : bset P n < 2 ^ n := by
  induction n with
  | zero => simp [bset]
  | succ n ih =>
    rw [bset, Nat.pow_succ]
    split <;> omega
theorem bset_bit (P : Nat → Bool) (n k : Nat) : (bset P n).testBit k = (decide (k < n) && P k) := by
  induction n with
  | zero => simp [bset]
  | succ n ih =>
    rw [bset]
    have hlt := bset_lt P n
    by_cases hP : P n = true
    · rw [if_pos hP, Nat.add_comm]
      rcases Nat.lt_trichotomy k n with h | h | h
      · rw [Nat.testBit_two_pow_add_gt h, ih]
        simp [h, Nat.lt_succ_of_lt h]
      · subst h
        rw [Nat.testBit_two_pow_add_eq, ih]
        simp [hP]
      · rw [Nat.testBit_lt_two_pow (Nat.lt_of_lt_of_le (show 2 ^ n + bset P n < 2 ^ (n + 1) by rw [Nat.pow_succ]; omega) (Nat.pow_le_pow_right (by decide) h))]
        simp [show ¬ k < n + 1 by omega]
    · rw [if_neg hP, Nat.add_zero, ih]
      rcases Nat.lt_trichotomy k n with h | h | h
      · simp [h, Nat.lt_succ_of_lt h]
      · subst h
        simp at hP
        simp [hP]
      · simp [show ¬ k < n + 1 by omega, show ¬ k < n by omega]
theorem bits_ext {n x y : Nat} (hx : x < 2 ^ n) (hy : y < 2 ^ n) (h : ∀ k, k < n → x.testBit k = y.testBit k) : x = y := by
  apply Nat.eq_of_testBit_eq
  intro k
  by_cases hk : k < n
  · exact h k hk
  · rw [Nat.testBit_lt_two_pow (Nat.lt_of_lt_of_le hx (Nat.pow_le_pow_right (by decide) (by omega))), Nat.testBit_lt_two_pow (Nat.lt_of_lt_of_le hy (Nat.pow_le_pow_right (by decide) (by omega)))]
theorem bset_or1 (P : Nat → Bool) (n : Nat) (h : P n = true) : bset P n ||| 2 ^ n = bset P (n + 1) := by
  apply Nat.eq_of_testBit_eq
  intro k
  rw [Nat.testBit_or, bset_bit, bset_bit, Nat.testBit_two_pow]
  rcases Nat.lt_trichotomy k n with q | q | q
  · simp [q, Nat.lt_succ_of_lt q, show ¬ n = k by omega]
  · subst q
    simp [h]
  · simp [show ¬ k < n + 1 by omega, show ¬ k < n by omega, show ¬ n = k by omega]
theorem bset_or0 (P : Nat → Bool) (n : Nat) (h : ¬ P n = true) : bset P n = bset P (n + 1) := by
  rw [bset, if_neg h, Nat.add_zero]
theorem bset_congr {P P' : Nat → Bool} {n : Nat} (h : ∀ k, k < n → P k = P' k) : bset P n = bset P' n := by
  induction n with
  | zero => rfl
  | succ n ih => rw [bset, bset, ih (fun k hk => h k (Nat.lt_succ_of_lt hk)), h n (Nat.lt_succ_self n)]
theorem bset_of {s n : Nat} (h : s < 2 ^ n) : bset (fun k => s.testBit k) n = s := bits_ext (bset_lt _ _) h fun k hk => by rw [bset_bit]; simp [hk]
theorem bset_lt256 (P : Nat → Bool) {n : Nat} (h : n ≤ 8) : bset P n < 256 := Nat.lt_of_lt_of_le (bset_lt P n) (show 2 ^ n ≤ 2 ^ 8 from Nat.pow_le_pow_right (by decide) h)
theorem bset_lt512 (P : Nat → Bool) {n : Nat} (h : n ≤ 9) : bset P n < 512 := Nat.lt_of_lt_of_le (bset_lt P n) (show 2 ^ n ≤ 2 ^ 9 from Nat.pow_le_pow_right (by decide) h)
theorem pc9_tab : ∀ s, s < 512 → pc9 s ≤ 9 ∧ (s ≠ 0 → pc9 (s &&& (s - 1)) + 1 = pc9 s ∧ (s &&& (s - 1)) < s) := by decide +kernel
theorem pc9_le9 {s : Nat} (h : s < 512) : pc9 s ≤ 9 := (pc9_tab s h).1
theorem pcn_lt (k : Nat) : ∀ n s, s < 2 ^ n → pcn k s ≤ n := by
  induction k with
  | zero => intro n s h; exact Nat.zero_le _
  | succ k ih =>
    intro n s h
    cases n with
    | zero =>
      have : s = 0 := by simpa using h
      subst this
      have := ih 0 0 (by simp)
      rw [pcn, Nat.zero_div]
      omega
    | succ n =>
      have := ih n (s / 2) (by rw [Nat.pow_succ] at h; omega)
      simp only [pcn]
      omega
theorem pc9_le {n s : Nat} (h : s < 2 ^ n) : pc9 s ≤ n := pcn_lt 10 n s h
theorem pc9_0 : pc9 0 = 0 := rfl
theorem pc9_bset (P : Nat → Bool) : ∀ n, n ≤ 9 → pc9 (bset P (n + 1)) = pc9 (bset P n) + (if P n = true then 1 else 0) := by
  have key : ∀ n, n ≤ 9 → ∀ s, s < 2 ^ n → pc9 (s + 2 ^ n) = pc9 s + 1 := by decide +kernel
  intro n hn
  rw [bset]
  by_cases h : P n = true
  · rw [if_pos h, if_pos h, key n hn _ (bset_lt P n)]
  · rw [if_neg h, if_neg h]; rfl
