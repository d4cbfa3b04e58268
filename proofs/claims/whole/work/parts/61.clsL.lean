section Rings
variable {g : Nat → Nat} {m : Nat}
theorem itn_mul {f n : Nat} (h : itn g n f = f) : ∀ k, itn g (n * k) f = f := by
  intro k
  induction k with
  | zero => rfl
  | succ k ih => rw [Nat.mul_succ, itn_add, h, ih]
theorem itn_comm (a b f : Nat) : itn g a (itn g b f) = itn g b (itn g a f) := by rw [← itn_add, ← itn_add, Nat.add_comm]
theorem pig (hg : ∀ f, g f ≤ m) {f : Nat} (hf : f ≤ m) : ∃ i j, i < j ∧ j ≤ m + 1 ∧ itn g i f = itn g j f := pigeon (m + 1) (fun i => itn g i f) (fun i _ => Nat.lt_succ_of_le (itn_le hg hf i))
theorem ret_short (hg : ∀ f, g f ≤ m) {f n : Nat} (hf : f ≤ m) (hn : 1 ≤ n) (h : itn g n f = f) : ∃ r, 1 ≤ r ∧ r ≤ m + 1 ∧ itn g r f = f := by
  obtain ⟨i, j, h1, h2, h3⟩ := pig hg hf
  have hN := itn_mul h j
  have hj : j ≤ n * j := Nat.le_mul_of_pos_left j hn
  refine ⟨j - i, by omega, by omega, ?_⟩
  have e1 : itn g (n * j - i) (itn g i f) = f := by rw [← itn_add, show n * j - i + i = n * j by omega]; exact hN
  rw [h3, ← itn_add, show n * j - i + j = j - i + n * j by omega, itn_add, hN] at e1
  exact e1
theorem ringA_zero {f : Nat} : ∀ k n, (∀ r, n ≤ r → r < n + k → itn g r f ≠ f) → ringA g f k n = 0 := by
  intro k
  induction k with
  | zero => intro n _; rfl
  | succ k ih =>
    intro n h
    rw [ringA, if_neg (h n (Nat.le_refl _) (by omega))]
    exact ih (n + 1) (fun r h1 h2 => h r (by omega) (by omega))
theorem ringA_trunc {f : Nat} : ∀ k' k n, k' ≤ k → ((∃ r, n ≤ r ∧ r < n + k ∧ itn g r f = f) → ∃ r, n ≤ r ∧ r < n + k' ∧ itn g r f = f) → ringA g f k n = ringA g f k' n := by
  intro k'
  induction k' with
  | zero =>
    intro k n _ h
    refine ringA_zero k n (fun r h1 h2 h3 => ?_)
    obtain ⟨r', q1, q2, _⟩ := h ⟨r, h1, h2, h3⟩
    omega
  | succ k' ih =>
    intro k n hk h
    obtain ⟨k0, rfl⟩ : ∃ k0, k = k0 + 1 := ⟨k - 1, by omega⟩
    rw [ringA, ringA]
    by_cases q : itn g n f = f
    · rw [if_pos q, if_pos q]
    · rw [if_neg q, if_neg q]
      refine ih k0 (n + 1) (by omega) (fun ⟨r, h1, h2, h3⟩ => ?_)
      obtain ⟨r', q1, q2, q3⟩ := h ⟨r, by omega, by omega, h3⟩
      have : r' ≠ n := fun e => q (by rw [← e]; exact q3)
      exact ⟨r', by omega, by omega, q3⟩
theorem ringSz_m (hm : m ≤ 8) (hg : ∀ f, g f ≤ m) {f : Nat} (hf : f ≤ m) : ringSz g f = ringA g f (m + 1) 1 :=
  ringA_trunc (m + 1) 9 1 (by omega) (fun ⟨r, h1, h2, h3⟩ => by
    obtain ⟨r', q1, q2, q3⟩ := ret_short hg hf h1 h3
    exact ⟨r', q1, by omega, q3⟩)
theorem ringA_at {f : Nat} : ∀ k n, ringA g f k n ≠ 0 → n ≤ ringA g f k n ∧ ringA g f k n < n + k ∧ itn g (ringA g f k n) f = f := by
  intro k
  induction k with
  | zero => intro n h; exact absurd rfl h
  | succ k ih =>
    intro n h
    rw [ringA] at h ⊢
    by_cases q : itn g n f = f
    · rw [if_pos q]
      exact ⟨Nat.le_refl _, by omega, q⟩
    · rw [if_neg q] at h ⊢
      have := ih (n + 1) h
      exact ⟨by omega, by omega, this.2.2⟩
theorem ring_ne (hm : m ≤ 8) (hg : ∀ f, g f ≤ m) {f n : Nat} (hf : f ≤ m) (hn : 1 ≤ n) (h : itn g n f = f) : ringSz g f ≠ 0 := by
  obtain ⟨r, h1, h2, h3⟩ := ret_short hg hf hn h
  exact ringA_ne g f 9 1 (Nat.le_refl _) ⟨r, h1, by omega, h3⟩
theorem ring_exm (hm : m ≤ 8) (hg : ∀ f, g f ≤ m) {f : Nat} (hf : f ≤ m) : ∃ n, n ≤ m ∧ ringSz g (itn g n f) ≠ 0 := by
  obtain ⟨i, j, h1, h2, h3⟩ := pig hg hf
  refine ⟨i, by omega, ring_ne hm hg (itn_le hg hf i) (show 1 ≤ j - i by omega) ?_⟩
  rw [← itn_add, show j - i + i = j by omega]
  exact h3.symm
theorem ringA_congr {x y : Nat} (h : ∀ n, itn g n x = x ↔ itn g n y = y) : ∀ k n, ringA g x k n = ringA g y k n := by
  intro k
  induction k with
  | zero => intro n; rfl
  | succ k ih =>
    intro n
    rw [ringA, ringA, ih]
    by_cases q : itn g n x = x
    · rw [if_pos q, if_pos ((h n).mp q)]
    · rw [if_neg q, if_neg (fun r => q ((h n).mpr r))]
theorem back_ring {x r : Nat} (hr : itn g r x = x) (h1 : 1 ≤ r) (k : Nat) : ∃ k', itn g k' (itn g k x) = x := by
  refine ⟨r * (k + 1) - k, ?_⟩
  have hk : k ≤ r * (k + 1) := Nat.le_trans (Nat.le_succ k) (Nat.le_mul_of_pos_left (k + 1) h1)
  rw [← itn_add, show r * (k + 1) - k + k = r * (k + 1) by omega]
  exact itn_mul hr _
theorem ringSz_same {x r : Nat} (hr : itn g r x = x) (h1 : 1 ≤ r) (k : Nat) : ringSz g (itn g k x) = ringSz g x := by
  refine (ringA_congr (fun n => ⟨fun q => ?_, fun q => ?_⟩) 9 1)
  · obtain ⟨k', hk'⟩ := back_ring hr h1 k
    have := congrArg (itn g k') q
    rw [itn_comm, hk'] at this
    exact this
  · rw [itn_comm, q]
def isLow (g : Nat → Nat) (x v : Nat) : Prop := (∃ n, v = itn g n x) ∧ ∀ n, v ≤ itn g n x
theorem isLow.u {x v w : Nat} (h : isLow g x v) (h' : isLow g x w) : v = w := by
  obtain ⟨⟨n, e⟩, a⟩ := h
  obtain ⟨⟨n', e'⟩, a'⟩ := h'
  have q1 := a n'
  have q2 := a' n
  omega
theorem isLow.mv {x v r : Nat} (hr : itn g r x = x) (h1 : 1 ≤ r) (k : Nat) (h : isLow g (itn g k x) v) : isLow g x v := by
  obtain ⟨⟨n, e⟩, a⟩ := h
  refine ⟨⟨n + k, by rw [itn_add]; exact e⟩, fun n' => ?_⟩
  obtain ⟨k', hk'⟩ := back_ring hr h1 k
  have := a (n' + k')
  rw [itn_add, hk'] at this
  exact this
theorem lowA_le {f : Nat} : ∀ k n w, lowA g f k n w ≤ w ∧ ∀ r, n ≤ r → r < n + k → lowA g f k n w ≤ itn g r f := by
  intro k
  induction k with
  | zero => intro n w; exact ⟨Nat.le_refl _, fun r h1 h2 => by omega⟩
  | succ k ih =>
    intro n w
    rw [lowA]
    obtain ⟨q1, q2⟩ := ih (n + 1) (if itn g n f < w then itn g n f else w)
    refine ⟨Nat.le_trans q1 (by split <;> omega), fun r h1 h2 => ?_⟩
    by_cases e : r = n
    · rw [e]
      exact Nat.le_trans q1 (by split <;> omega)
    · exact q2 r (by omega) (by omega)
theorem lowA_mem {f : Nat} : ∀ k n w, lowA g f k n w = w ∨ ∃ r, lowA g f k n w = itn g r f := by
  intro k
  induction k with
  | zero => intro n w; exact Or.inl rfl
  | succ k ih =>
    intro n w
    rw [lowA]
    rcases ih (n + 1) (if itn g n f < w then itn g n f else w) with q | q
    · rw [q]
      split
      · exact Or.inr ⟨n, rfl⟩
      · exact Or.inl rfl
    · exact Or.inr q
theorem lowA_is {x r k : Nat} (hr : itn g r x = x) (h1 : 1 ≤ r) (hk : r ≤ k + 1) : isLow g x (lowA g x k 1 x) := by
  obtain ⟨q1, q2⟩ := lowA_le (g := g) (f := x) k 1 x
  refine ⟨?_, fun n => ?_⟩
  · rcases lowA_mem (g := g) (f := x) k 1 x with q | q
    · exact ⟨0, q⟩
    · exact q
  · have e : itn g n x = itn g (n % r) x := by
      conv => lhs; rw [← Nat.mod_add_div n r, itn_add, itn_mul hr]
    have hlt := Nat.mod_lt n h1
    rw [e]
    by_cases z : n % r = 0
    · rw [z]; exact q1
    · exact q2 _ (by omega) (by omega)
theorem tillA_at {f : Nat} : ∀ k n, (∃ r, n ≤ r ∧ r < n + k ∧ ringSz g (itn g r f) ≠ 0) → n ≤ tillA g f k n ∧ ringSz g (itn g (tillA g f k n) f) ≠ 0 ∧ ∀ r, n ≤ r → ringSz g (itn g r f) ≠ 0 → tillA g f k n ≤ r := by
  intro k
  induction k with
  | zero => rintro n ⟨r, h1, h2, -⟩; omega
  | succ k ih =>
    rintro n ⟨r, h1, h2, h3⟩
    rw [tillA]
    by_cases q : ringSz g (itn g n f) = 0
    · rw [if_pos q]
      have hne : r ≠ n := fun e => h3 (by rw [e]; exact q)
      obtain ⟨q1, q2, q3⟩ := ih (n + 1) ⟨r, by omega, by omega, h3⟩
      refine ⟨by omega, q2, fun r' a b => ?_⟩
      have : r' ≠ n := fun e => b (by rw [e]; exact q)
      exact q3 r' (by omega) b
    · rw [if_neg q]
      exact ⟨Nat.le_refl _, q, fun r' a _ => a⟩
theorem tillN_at (hm : m ≤ 8) (hg : ∀ f, g f ≤ m) {f : Nat} (hf : f ≤ m) : tillN g f ≤ m ∧ ringSz g (itn g (tillN g f) f) ≠ 0 ∧ ∀ r, ringSz g (itn g r f) ≠ 0 → tillN g f ≤ r := by
  obtain ⟨n, h1, h2⟩ := ring_exm hm hg hf
  obtain ⟨q1, q2, q3⟩ := tillA_at (g := g) (f := f) 10 0 ⟨n, by omega, by omega, h2⟩
  exact ⟨Nat.le_trans (q3 n (Nat.zero_le _) h2) h1, q2, fun r hr => q3 r (Nat.zero_le _) hr⟩
theorem end_ring (hm : m ≤ 8) (hg : ∀ f, g f ≤ m) {f : Nat} (hf : f ≤ m) : ∃ r, 1 ≤ r ∧ r ≤ m + 1 ∧ itn g r (itn g (tillN g f) f) = itn g (tillN g f) f ∧ itn g (m + 1) f = itn g (m + 1 - tillN g f) (itn g (tillN g f) f) := by
  obtain ⟨h1, h2, h3⟩ := tillN_at hm hg hf
  have h4 := ringA_at 9 1 h2
  obtain ⟨r, q1, q2, q3⟩ := ret_short hg (itn_le hg hf _) h4.1 h4.2.2
  exact ⟨r, q1, q2, q3, by rw [← itn_add, show m + 1 - tillN g f + tillN g f = m + 1 by omega]⟩
theorem end_size (hm : m ≤ 8) (hg : ∀ f, g f ≤ m) {f : Nat} (hf : f ≤ m) : ringSz g (itn g (m + 1) f) = ringSz g (itn g (tillN g f) f) := by
  obtain ⟨r, q1, q2, q3, q4⟩ := end_ring hm hg hf
  rw [q4]
  exact ringSz_same q3 q1 _
theorem end_low (hm : m ≤ 8) (hg : ∀ f, g f ≤ m) {f : Nat} (hf : f ≤ m) : lowA g (itn g (m + 1) f) (m + 1) 1 (itn g (m + 1) f) = lowN g (itn g (tillN g f) f) := by
  obtain ⟨r, q1, q2, q3, q4⟩ := end_ring hm hg hf
  have hx : isLow g (itn g (tillN g f) f) (lowN g (itn g (tillN g f) f)) := lowA_is q3 q1 (by omega)
  have hy3 : itn g r (itn g (m + 1) f) = itn g (m + 1) f := by rw [q4, itn_comm, q3]
  have hy : isLow g (itn g (m + 1) f) (lowA g (itn g (m + 1) f) (m + 1) 1 (itn g (m + 1) f)) := lowA_is hy3 q1 (by omega)
  rw [q4] at hy ⊢
  exact (isLow.mv q3 q1 _ hy).u hx
theorem ring_low (hm : m ≤ 8) (hg : ∀ f, g f ≤ m) {f : Nat} (hf : f ≤ m) (h : ringSz g f ≠ 0) : lowA g (itn g (m + 1) f) (m + 1) 1 (itn g (m + 1) f) = lowN g f := by
  have h2 := (tillN_at hm hg hf).2.2 0 h
  rw [end_low hm hg hf, show tillN g f = 0 by omega]
  rfl
def ldIn (g : Nat → Nat) (b : Nat) : Nat → Nat
  | 0 => b
  | f + 1 => if (ldIn g b f).testBit (g f) = true then ldIn g b f ||| 2 ^ f else ldIn g b f
def ldOut (g : Nat → Nat) (m : Nat) (b : Nat) : Nat → Nat
  | 0 => b
  | t + 1 => ldIn g (ldOut g m b t) (m + 1)
theorem tb_or2 (b f j : Nat) : (b ||| 2 ^ f).testBit j = (b.testBit j || decide (f = j)) := by rw [Nat.testBit_or, Nat.testBit_two_pow]
theorem ldIn_mono {b j : Nat} (h : b.testBit j = true) : ∀ k, (ldIn g b k).testBit j = true := by
  intro k
  induction k with
  | zero => exact h
  | succ k ih =>
    rw [ldIn]
    split
    · rw [tb_or2, ih]; rfl
    · exact ih
theorem ldIn_new {b f : Nat} (h : b.testBit (g f) = true) : ∀ k, f < k → (ldIn g b k).testBit f = true := by
  intro k
  induction k with
  | zero => intro hk; omega
  | succ k ih =>
    intro hk
    rw [ldIn]
    by_cases e : f = k
    · subst e
      rw [if_pos (ldIn_mono h f), tb_or2]
      simp
    · have := ih (by omega)
      split
      · rw [tb_or2, this]; rfl
      · exact this
theorem ldIn_sound {b x : Nat} (h : ∀ j, b.testBit j = true → j ≤ m ∧ ∃ n, itn g n j = x) : ∀ k, k ≤ m + 1 → ∀ j, (ldIn g b k).testBit j = true → j ≤ m ∧ ∃ n, itn g n j = x := by
  intro k
  induction k with
  | zero => intro _ j hj; exact h j hj
  | succ k ih =>
    intro hk j hj
    rw [ldIn] at hj
    by_cases q : (ldIn g b k).testBit (g k) = true
    · rw [if_pos q, tb_or2] at hj
      by_cases e : k = j
      · subst e
        obtain ⟨-, n, hn⟩ := ih (by omega) _ q
        exact ⟨by omega, n + 1, by rw [itn_add]; exact hn⟩
      · rw [decide_eq_false e, Bool.or_false] at hj
        exact ih (by omega) j hj
    · rw [if_neg q] at hj
      exact ih (by omega) j hj
theorem ldOut_sound {x : Nat} (hx : x ≤ m) : ∀ t j, (ldOut g m (2 ^ x) t).testBit j = true → j ≤ m ∧ ∃ n, itn g n j = x := by
  intro t
  induction t with
  | zero =>
    intro j hj
    have hj : (2 ^ x).testBit j = true := hj
    rw [Nat.testBit_two_pow, decide_eq_true_eq] at hj
    exact ⟨by omega, 0, hj.symm⟩
  | succ t ih => intro j hj; exact ldIn_sound ih (m + 1) (Nat.le_refl _) j hj
theorem ldOut_full {x : Nat} (hg : ∀ f, g f ≤ m) : ∀ t n j, n ≤ t → j ≤ m → itn g n j = x → (ldOut g m (2 ^ x) t).testBit j = true := by
  intro t
  induction t with
  | zero =>
    intro n j hn hj h
    have hn0 : n = 0 := by omega
    subst hn0
    have h : j = x := h
    show (2 ^ x).testBit j = true
    rw [Nat.testBit_two_pow, decide_eq_true_eq, h]
  | succ t ih =>
    intro n j hn hj h
    cases n with
    | zero => exact ldIn_mono (ih 0 j (Nat.zero_le _) hj h) _
    | succ n => exact ldIn_new (ih n (g j) (by omega) (hg j) (by rw [← h, itn_add]; rfl)) _ (by omega)
theorem reach_short (hg : ∀ f, g f ≤ m) {f x : Nat} (hf : f ≤ m) : ∀ n, itn g n f = x → ∃ n', n' ≤ m ∧ itn g n' f = x := by
  intro n
  induction n using Nat.strongRecOn with
  | ind n ih =>
    intro h
    by_cases q : n ≤ m
    · exact ⟨n, q, h⟩
    · obtain ⟨i, j, h1, h2, h3⟩ := pig hg hf
      refine ih (n - (j - i)) (by omega) ?_
      rw [← h, show n - (j - i) = n - j + i by omega, itn_add, h3, ← itn_add, show n - j + j = n by omega]
theorem leadB_ex {x f : Nat} : ∀ k, leadB g x f k = true ↔ ∃ n, n < k ∧ itn g n f = x := by
  intro k
  induction k with
  | zero => exact ⟨fun h => Bool.noConfusion h, fun ⟨n, h, _⟩ => by omega⟩
  | succ k ih =>
    rw [leadB, Bool.or_eq_true, ih, decide_eq_true_eq]
    constructor
    · rintro (⟨n, h1, h2⟩ | h)
      · exact ⟨n, by omega, h2⟩
      · exact ⟨k, by omega, h⟩
    · rintro ⟨n, h1, h2⟩
      by_cases e : n = k
      · subst e; exact Or.inr h2
      · exact Or.inl ⟨n, by omega, h2⟩
theorem ldOut_eq (hm : m ≤ 8) (hg : ∀ f, g f ≤ m) {x : Nat} (hx : x ≤ m) : ldOut g m (2 ^ x) (m + 1) = bset (fun f => leadB g x f 10) (m + 1) := by
  apply Nat.eq_of_testBit_eq
  intro j
  rw [bset_bit]
  by_cases hj : j < m + 1
  · rw [decide_eq_true hj, Bool.true_and]
    cases q : leadB g x j 10 with
    | true =>
      obtain ⟨n, -, h2⟩ := (leadB_ex 10).mp q
      obtain ⟨n', h3, h4⟩ := reach_short hg (show j ≤ m by omega) n h2
      exact ldOut_full hg (m + 1) n' j (by omega) (by omega) h4
    | false =>
      rw [Bool.eq_false_iff]
      intro h
      obtain ⟨-, n, hn⟩ := ldOut_sound hx _ _ h
      obtain ⟨n', h3, h4⟩ := reach_short hg (show j ≤ m by omega) n hn
      have := (leadB_ex (g := g) (x := x) (f := j) 10).mpr ⟨n', by omega, h4⟩
      rw [q] at this
      exact Bool.noConfusion this
  · rw [decide_eq_false hj, Bool.false_and, Bool.eq_false_iff]
    intro h
    have := (ldOut_sound hx _ _ h).1
    omega
end Rings
