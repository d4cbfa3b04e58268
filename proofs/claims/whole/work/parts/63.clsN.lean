def wnA (y : Nat) : Nat → Nat → Nat → Nat → Nat
  | 0, _, _, s => s
  | k + 1, p, l, s => if l = 0 then s else if y.testBit p = true then wnA y k (p + 1) l s else wnA y k (p + 1) (l - 1) (s ||| 2 ^ p)
theorem wlow_tab : ∀ P, P < 9 → ∀ y, y < 2 ^ P → ∀ s, s < 2 ^ P → s &&& y = 0 → pc9 (wnA y P 0 (pc9 s) 0) = pc9 s ∧ wnA y P 0 (pc9 s) 0 ≤ s := by decide +kernel
theorem wval_tab : ∀ P, P < 9 → ∀ y, y < 2 ^ P → ∀ f, f ≤ P → pc9 y ≤ f → pc9 (y ||| wnA y P 0 (f - pc9 y) 0) = f ∧ wnA y P 0 (f - pc9 y) 0 < 2 ^ P := by decide +kernel
