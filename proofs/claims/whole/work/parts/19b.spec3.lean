theorem pigeon : ∀ (m : Nat) (h : Nat → Nat), (∀ i, i ≤ m → h i < m) → ∃ i j, i < j ∧ j ≤ m ∧ h i = h j := by
  intro m
  induction m with
  | zero => intro h hh; exact absurd (hh 0 (Nat.le_refl 0)) (Nat.not_lt_zero _)
  | succ m ih =>
    intro h hh
    by_cases hx : ∃ i, i < m + 1 ∧ h i = h (m + 1)
    · obtain ⟨i, h1, h2⟩ := hx
      exact ⟨i, m + 1, h1, Nat.le_refl _, h2⟩
    · have hne : ∀ i, i < m + 1 → h i ≠ h (m + 1) := fun i h1 h2 => hx ⟨i, h1, h2⟩
      have hv := hh (m + 1) (Nat.le_refl _)
      obtain ⟨i, j, h1, h2, h3⟩ := ih (fun i => if h (m + 1) < h i then h i - 1 else h i) (fun i hi => by
        have a1 := hh i (by omega)
        have a2 := hne i (by omega)
        show (if h (m + 1) < h i then h i - 1 else h i) < m
        split <;> omega)
      refine ⟨i, j, h1, by omega, ?_⟩
      have a1 := hne i (by omega)
      have a2 := hne j (by omega)
      split at h3 <;> split at h3 <;> omega
theorem itn_add (g : Nat → Nat) (a b f : Nat) : itn g (a + b) f = itn g a (itn g b f) := by
  induction a with
  | zero => rw [Nat.zero_add]; rfl
  | succ a ih => rw [Nat.succ_add]; exact congrArg g ih
theorem ringA_ne (g : Nat → Nat) (f : Nat) : ∀ k n, 1 ≤ n → (∃ r, n ≤ r ∧ r < n + k ∧ itn g r f = f) → ringA g f k n ≠ 0 := by
  intro k
  induction k with
  | zero => rintro n - ⟨r, h1, h2, -⟩; omega
  | succ k ih =>
    rintro n hn ⟨r, h1, h2, h3⟩
    rw [ringA]
    split
    · omega
    · next hne =>
      refine ih (n + 1) (by omega) ⟨r, ?_, by omega, h3⟩
      rcases Nat.lt_or_ge n r with q | q
      · omega
      · exact absurd (by rw [show n = r by omega]; exact h3) hne
theorem ring_ex {g : Nat → Nat} {m : Nat} (hm : m ≤ 8) (hg : ∀ f, g f ≤ m) {f : Nat} (hf : f ≤ m) : ∃ n, n ≤ 9 ∧ ringSz g (itn g n f) ≠ 0 := by
  obtain ⟨i, j, h1, h2, h3⟩ := pigeon 9 (fun i => itn g i f) (fun i _ => by have := itn_le hg hf i; show itn g i f < 9; omega)
  refine ⟨i, by omega, ringA_ne g _ 9 1 (by omega) ⟨j - i, by omega, by omega, ?_⟩⟩
  rw [← itn_add, show j - i + i = j by omega]
  exact h3.symm
def andn (y x : Nat) : Nat := y ^^^ (y &&& x)
theorem nI_andn (y x : Nat) : nI y &&& (nI x ^^^ (-1)) = nI (andn y x) := by
  unfold andn
  rw [← nI_xor, ← nI_and]
  apply Int32.toBitVec_inj.mp
  rw [Int32.toBitVec_and, Int32.toBitVec_xor, Int32.toBitVec_xor, Int32.toBitVec_and]
  generalize (nI y).toBitVec = a
  generalize (nI x).toBitVec = b
  apply BitVec.eq_of_getElem_eq
  intro i hi
  have e0 : ∀ i (hi : i < 32), ((-1 : Int32).toBitVec)[i] = true := by decide
  have e := e0 i hi
  simp only [BitVec.getElem_and, BitVec.getElem_xor, e]
  cases a[i] <;> cases b[i] <;> rfl
theorem andn_bit (y x k : Nat) : (andn y x).testBit k = (y.testBit k && !x.testBit k) := by
  unfold andn
  rw [Nat.testBit_xor, Nat.testBit_and]
  cases y.testBit k <;> cases x.testBit k <;> rfl
theorem lt_of_bits {x n : Nat} (h : ∀ k, n ≤ k → x.testBit k = false) : x < 2 ^ n := Nat.lt_pow_two_of_testBit x h
theorem bit_out {y n k : Nat} (hy : y < 2 ^ n) (hk : n ≤ k) : y.testBit k = false := Nat.testBit_lt_two_pow (Nat.lt_of_lt_of_le hy (Nat.pow_le_pow_right (by decide) hk))
theorem andn_lt {y n : Nat} (x : Nat) (hy : y < 2 ^ n) : andn y x < 2 ^ n := lt_of_bits fun k hk => by rw [andn_bit, bit_out hy hk]; rfl
theorem and_lt {y n : Nat} (x : Nat) (hy : y < 2 ^ n) : y &&& x < 2 ^ n := lt_of_bits fun k hk => by rw [Nat.testBit_and, bit_out hy hk]; rfl
theorem or_lt {x y n : Nat} (hx : x < 2 ^ n) (hy : y < 2 ^ n) : x ||| y < 2 ^ n := lt_of_bits fun k hk => by rw [Nat.testBit_or, bit_out hx hk, bit_out hy hk]; rfl
theorem xor_lt {x y n : Nat} (hx : x < 2 ^ n) (hy : y < 2 ^ n) : x ^^^ y < 2 ^ n := lt_of_bits fun k hk => by rw [Nat.testBit_xor, bit_out hx hk, bit_out hy hk]; rfl
def pM : Nat → Int32
  | 0 => -1
  | n + 1 => nI n
theorem pM_dec (k : Nat) : nI k + Int32.ofInt (-1) = pM k := by
  cases k with
  | zero => decide
  | succ k => exact pk_m1 k
def truB (a b x y s : Nat) : Bool := decide (pc9 (x &&& s) = a) && decide (pc9 (andn y s) = b)
def winA (y f : Nat) : Nat → Nat → Nat
  | 0, w => w
  | k + 1, w => winA y f k (if pc9 (y ||| k) = f ∧ (w = 0 ∨ pc9 k ≤ pc9 (w - 1)) then k + 1 else w)
def winN (c : Cr) (f : Nat) : Nat := winA (yesTo c c.now (ruler c) f) f (2 ^ c.now.people) 0
def ans_win (c : Cr) (x z : Int32) : Int32 := if inN x (c.now.people + 1) then (if winN c (tN x) = 0 then -1 else if z = 0 then nI (winN c (tN x) - 1) else nI (pc9 (winN c (tN x) - 1))) else -1
def minA (x y : Nat) : Nat → Nat
  | 0 => 1000000
  | k + 1 => if pc9 ((x &&& k) ||| andn y k) < minA x y k then pc9 ((x &&& k) ||| andn y k) else minA x y k
def maxA (x y : Nat) : Nat → Nat
  | 0 => 0
  | k + 1 => if maxA x y k < pc9 ((x &&& k) ||| andn y k) then pc9 ((x &&& k) ||| andn y k) else maxA x y k
def yesN (c : Cr) (f : Nat) : Nat := yesTo c c.now (ruler c) f
theorem yesN_lt (c : Cr) (f : Nat) : yesN c f < 2 ^ c.now.people := bset_lt _ _
def ans_two (c : Cr) (x y z : Int32) : Int32 := if inN x (c.now.people + 1) ∧ inN y (c.now.people + 1) ∧ inN z 3 then
  (if z = 0 then nI (minA (yesN c (tN x)) (yesN c (tN y)) (2 ^ c.now.people)) else if z = 1 then nI (maxA (yesN c (tN x)) (yesN c (tN y)) (2 ^ c.now.people)) else nI (cnt (truB (tN x) (tN y) (yesN c (tN x)) (yesN c (tN y))) (2 ^ c.now.people))) else -1
def findA (P : Nat → Bool) : Nat → Nat → Int32
  | 0, _ => -1
  | k + 1, n => if P n = true then nI n else findA P k (n + 1)
def ans_split (c : Cr) (x y : Int32) : Int32 := if inN x (c.now.people + 1) ∧ inN y (c.now.people + 1) then findA (truB (tN x) (tN y) (yesN c (tN x)) (yesN c (tN y))) (2 ^ c.now.people) 0 else -1
def ans_mind (c : Cr) (x y : Int32) : Int32 := if inN x (c.now.people + 1) ∧ inN y (c.now.people + 1) then nI (yesN c (tN x) ^^^ yesN c (tN y)) else -1
def allA (c : Cr) : Nat → Nat
  | 0 => 2 ^ c.now.people - 1
  | n + 1 => allA c n &&& yesN c n
def anyA (c : Cr) : Nat → Nat
  | 0 => 0
  | n + 1 => anyA c n ||| yesN c n
theorem allA_lt (c : Cr) (n : Nat) : allA c n < 2 ^ c.now.people := by
  induction n with
  | zero => have := Nat.one_le_two_pow (n := c.now.people); rw [allA]; omega
  | succ n ih => exact and_lt _ ih
theorem anyA_lt (c : Cr) (n : Nat) : anyA c n < 2 ^ c.now.people := by
  induction n with
  | zero => exact Nat.two_pow_pos _
  | succ n ih => exact or_lt ih (yesN_lt c n)
def ans_unasked (c : Cr) (z : Int32) : Int32 := if z = 0 then nI (pc9 (allA c (c.now.people + 1))) else nI (pc9 (anyA c (c.now.people + 1)))
def ans_honest (c : Cr) : Int32 := nI (andn (2 ^ c.now.people - 1) (andn (anyA c (c.now.people + 1)) (allA c (c.now.people + 1))))
def alikeN (c : Cr) (p q : Nat) : Nat := cnt (fun f => isYes c c.now (ruler c) p f == isYes c c.now (ruler c) q f) (c.now.people + 1)
def ans_alike (c : Cr) (x y : Int32) : Int32 := if inN x c.now.people ∧ inN y c.now.people then nI (alikeN c (tN x) (tN y)) else -1
def pairB (c : Cr) (p : Nat) : Nat → Nat × Nat → Nat × Nat
  | 0, S => S
  | k + 1, S => pairB c p k (if S.2 < alikeN c p (c.now.people - (k + 1)) + 1 then (8 * p + (c.now.people - (k + 1)) + 1, alikeN c p (c.now.people - (k + 1)) + 1) else S)
def pairA (c : Cr) : Nat → Nat × Nat → Nat × Nat
  | 0, S => S
  | k + 1, S => pairA c k (pairB c (c.now.people - (k + 1)) k S)
def ans_pair (c : Cr) (z : Int32) : Int32 := if (pairA c c.now.people (0, 0)).1 = 0 then -1 else if z = 0 then nI (((pairA c c.now.people (0, 0)).1 - 1) / 8) else nI (((pairA c c.now.people (0, 0)).1 - 1) % 8)
theorem args2 (n m : Nat) {P : Int32 → Int32 → Prop} (h1 : ∀ k j, k < n → inN (nI k) n → tN (nI k) = k → j < m → inN (nI j) m → tN (nI j) = j → P (nI k) (nI j)) (h2 : ∀ x y, ¬ inN x n → P x y) (h3 : ∀ x y, inN x n → ¬ inN y m → P x y) : ∀ x y, P x y := by
  intro x y
  by_cases hx : inN x n
  · by_cases hy : inN y m
    · revert hx x
      revert hy y
      intro y
      revert y
      refine args1 m (fun k a b c _ x => ?_) (fun y q h => absurd h q)
      revert x
      refine args1 n (fun k a b c _ => ?_) (fun y q h => absurd h q)
      exact h1 _ _ ‹_› b c ‹_› ‹_› ‹_›
    · exact h3 x y hx hy
  · exact h2 x y hx
