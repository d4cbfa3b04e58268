theorem tN_nI {k : Nat} (h : k < 2147483648) : tN (nI k) = k := nI_clamp h
theorem args1 (n : Nat) {P : Int32 → Prop} (h1 : ∀ k, k < n → inN (nI k) n → tN (nI k) = k → P (nI k)) (h2 : ∀ x, ¬ inN x n → P x) : ∀ x, P x := by
  intro x
  by_cases hx : inN x n
  · obtain ⟨e, hlt⟩ := in_nI hx
    have hx2 := hx
    rw [e] at hx2
    have h3 := h1 _ hlt hx2 (by rw [← e])
    rwa [← e] at h3
  · exact h2 x hx
def enZ (n : Nat) : Int32 := if n = 0 then -1 else nI n
theorem enZ_m1 {n : Nat} (h : n < 2147483648) : enZ n = -1 ↔ n = 0 := by
  unfold enZ
  by_cases h0 : n = 0
  · simp [h0]
  · rw [if_neg h0]
    constructor
    · intro e
      have e2 := congrArg Int32.toInt e
      rw [nI_toInt h] at e2
      have : (-1 : Int32).toInt = -1 := by decide
      omega
    · intro e
      exact absurd e h0
def ap (v w : Nat) : Nat := if v < w then w - v else v - w
def ringA (g : Nat → Nat) (f : Nat) : Nat → Nat → Nat
  | 0, _ => 0
  | k + 1, n => if itn g n f = f then n else ringA g f k (n + 1)
def ringSz (g : Nat → Nat) (f : Nat) : Nat := ringA g f 9 1
def tillA (g : Nat → Nat) (f : Nat) : Nat → Nat → Nat
  | 0, n => n
  | k + 1, n => if ringSz g (itn g n f) = 0 then tillA g f k (n + 1) else n
def tillN (g : Nat → Nat) (f : Nat) : Nat := tillA g f 10 0
def lowA (g : Nat → Nat) (f : Nat) : Nat → Nat → Nat → Nat
  | 0, _, w => w
  | k + 1, n, w => lowA g f k (n + 1) (if itn g n f < w then itn g n f else w)
def lowN (g : Nat → Nat) (f : Nat) : Nat := lowA g f 9 1 f
def leadB (g : Nat → Nat) (x f : Nat) : Nat → Bool
  | 0 => false
  | n + 1 => leadB g x f n || decide (itn g n f = x)
def cnt (P : Nat → Bool) : Nat → Nat
  | 0 => 0
  | n + 1 => cnt P n + (if P n = true then 1 else 0)
theorem cnt_le (P : Nat → Bool) (n : Nat) : cnt P n ≤ n := by
  induction n with
  | zero => exact Nat.le_refl _
  | succ n ih =>
    rw [cnt]
    split <;> omega
def nearA (g : Nat → Nat) : Nat → Nat
  | 0 => 0
  | n + 1 => if ap (n + 1) (g (n + 1)) < ap (nearA g n) (g (nearA g n)) then n + 1 else nearA g n
theorem nearA_le (g : Nat → Nat) (n : Nat) : nearA g n ≤ n := by
  induction n with
  | zero => exact Nat.le_refl _
  | succ n ih =>
    rw [nearA]
    split <;> omega
def moreT (g : Nat → Nat) (k set f : Nat) : Nat → Nat → Nat
  | 0, acc => acc
  | n + 1, acc => if set.testBit f = true ∧ ap f n ≤ k then moreT g k set f n acc ||| 2 ^ g n else moreT g k set f n acc
def moreF (g : Nat → Nat) (k set m : Nat) : Nat → Nat
  | 0 => set
  | n + 1 => moreT g k set n m (moreF g k set m n)
def pathA (g : Nat → Nat) (b k m : Nat) : Nat → Nat → Nat → Int32
  | 0, _, _ => -1
  | j + 1, n, set => if set.testBit b = true then nI n else pathA g b k m j (n + 1) (moreF g k set m m)
def ans_comes (c : Cr) (x : Int32) : Int32 := if inN x (c.now.people + 1) then nI (cm c (tN x)) else -1
def ans_trues (c : Cr) : Int32 := nI (bset (fun f => decide (cm c f = f)) (c.now.people + 1))
def ans_firm (c : Cr) : Int32 := nI (bset (fun f => firmB c f) (c.now.people + 1))
def endF (c : Cr) (f : Nat) : Nat := itn (cm c) (tillN (cm c) f) f
def ans_ends (c : Cr) (x z : Int32) : Int32 := if inN x (c.now.people + 1) then (if z = 0 then nI (lowN (cm c) (endF c (tN x))) else nI (ringSz (cm c) (endF c (tN x)))) else -1
def ans_till (c : Cr) (x : Int32) : Int32 := if inN x (c.now.people + 1) then nI (tillN (cm c) (tN x)) else -1
def ans_leads (c : Cr) (x : Int32) : Int32 := if inN x (c.now.people + 1) then nI (bset (fun f => leadB (cm c) (tN x) f 10) (c.now.people + 1)) else -1
def ans_rings (c : Cr) : Int32 := nI (cnt (fun f => decide (ringSz (cm c) f ≠ 0) && decide (lowN (cm c) f = f)) (c.now.people + 1))
def ans_nearest (c : Cr) : Int32 := nI (nearA (cm c) c.now.people)
def ans_path (c : Cr) (x y z : Int32) : Int32 := if inN x (c.now.people + 1) ∧ inN y (c.now.people + 1) ∧ inN z 9 then pathA (cm c) (tN y) (tN z) (c.now.people + 1) 10 0 (2 ^ tN x) else -1
theorem itn_le {g : Nat → Nat} {m : Nat} (hg : ∀ f, g f ≤ m) {f : Nat} (hf : f ≤ m) (n : Nat) : itn g n f ≤ m := by
  induction n with
  | zero => exact hf
  | succ n ih => exact hg _
theorem ringA_le (g : Nat → Nat) (f : Nat) : ∀ k n, ringA g f k n < n + k + 1 := by
  intro k
  induction k with
  | zero => intro n; rw [ringA]; omega
  | succ k ih =>
    intro n
    rw [ringA]
    split
    · omega
    · have := ih (n + 1); omega
theorem ringSz_le (g : Nat → Nat) (f : Nat) : ringSz g f ≤ 10 := by have := ringA_le g f 9 1; unfold ringSz; omega
