abbrev inN (x : Int32) (n : Nat) : Prop := 0 ≤ x.toInt ∧ x.toInt < (n : Int)
abbrev tN (x : Int32) : Nat := x.toNatClampNeg
theorem inN_nI {p n : Nat} (h : p < 2147483648) : inN (nI p) n ↔ p < n := by
  unfold inN
  rw [nI_toInt h]
  omega
theorem in_nI {x : Int32} {n : Nat} (h : inN x n) : x = nI (tN x) ∧ tN x < n := by
  have h1 : ¬ x < 0 := by
    rw [Int32.lt_iff_toInt_lt]
    exact Int.not_lt.mpr h.1
  obtain ⟨j, hj, rfl⟩ := nI_of h1
  have h2 := h.2
  rw [nI_toInt hj] at h2
  have e : tN (nI j) = j := nI_clamp hj
  rw [e]
  exact ⟨rfl, by omega⟩
theorem le_toInt {x y : Int32} : x ≤ y ↔ x.toInt ≤ y.toInt := Int32.le_iff_toInt_le
theorem lt_toInt {x y : Int32} : x < y ↔ x.toInt < y.toInt := Int32.lt_iff_toInt_lt
theorem toInt_bd (x : Int32) : -2147483648 ≤ x.toInt ∧ x.toInt < 2147483648 := ⟨by have := Int32.le_toInt x; simpa using this, by have := Int32.toInt_lt x; simpa using this⟩
theorem isIn_0 {x : Int32} {n : Nat} (hn : n < 2147483648) : (nI 0 ≤ x ∧ x ≤ nI n) ↔ inN x (n + 1) := by
  rw [le_toInt, le_toInt, nI_toInt hn, nI_toInt (by decide)]
  unfold inN
  omega
theorem nI_sub_toInt {a b : Nat} (ha : a < 1073741824) (hb : b < 1073741824) : (nI a - nI b).toInt = (a : Int) - b := pk_sub_toInt ha hb
theorem isIn_p {x : Int32} {n : Nat} (hn : n < 1073741824) : (nI 0 ≤ x ∧ x ≤ nI n - nI 1) ↔ inN x n := by
  rw [le_toInt, le_toInt, nI_sub_toInt hn (by decide), nI_toInt (by decide)]
  unfold inN
  omega
theorem isIn_lh {x : Int32} {l n : Nat} (hl : l < 2147483648) (hn : n < 2147483648) : (nI l ≤ x ∧ x ≤ nI n) ↔ ((l : Int) ≤ x.toInt ∧ x.toInt ≤ n) := by
  rw [le_toInt, le_toInt, nI_toInt hn, nI_toInt hl]
theorem bset_lt31 (P : Nat → Bool) {n : Nat} (h : n ≤ 9) : bset P n < 2147483648 := Nat.lt_of_lt_of_le (bset_lt512 P h) (by decide)
def itn (g : Nat → Nat) : Nat → Nat → Nat
  | 0, f => f
  | n + 1, f => g (itn g n f)
def cm (c : Cr) (f : Nat) : Nat := pc9 (yesTo c c.now (ruler c) f)
theorem cm_le (c : Cr) (f : Nat) : cm c f ≤ c.now.people := pc9_le (bset_lt _ _)
def firmB (c : Cr) (f : Nat) : Bool := decide (cm c f = f) && ((decide (f = 0) || decide (cm c (f - 1) = f)) && (decide (f = c.now.people) || decide (cm c (f + 1) = f)))
def RepCode (code : Cd) (g : Nat → Int32) (pos : Nat) : Prop := ∀ i, i < code.length → g (pos + 2 * i) = nI (code.getD i (0, 0)).1 ∧ g (pos + 2 * i + 1) = nI (code.getD i (0, 0)).2
def RepLaw (q : Option (Cd × Cd)) (g : Nat → Int32) (t x : Nat) : Prop := ∃ r i0, q = some r ∧ g (x + 1) = nI i0 ∧ g (x + 2) = nI (i0 + r.1.length) ∧ i0 + r.1.length ≤ 304 ∧ RepCode r.1 g (681 * t + 73 + 2 * i0)
def RepTx (x : Tx) (g : Nat → Int32) (t : Nat) : Prop :=
  g (681 * t) = nI x.clauses.length ∧ ∀ k, k < x.clauses.length → g (681 * t + 1 + 3 * k) = nI (x.clauses.getD k (0, 0, 0)).1 ∧
    ((x.clauses.getD k (0, 0, 0)).1 = 0 → RepLaw x.says g t (681 * t + 1 + 3 * k)) ∧ ((x.clauses.getD k (0, 0, 0)).1 = 1 → RepLaw x.sways g t (681 * t + 1 + 3 * k)) ∧
    (2 ≤ (x.clauses.getD k (0, 0, 0)).1 → g (681 * t + 1 + 3 * k + 1) = nI (x.clauses.getD k (0, 0, 0)).2.1 ∧ ((x.clauses.getD k (0, 0, 0)).1 ≤ 3 → g (681 * t + 1 + 3 * k + 2) = nI (x.clauses.getD k (0, 0, 0)).2.2))
def RepT (l : List Tx) (g : Nat → Int32) : Prop := ∀ t, t < l.length → RepTx (l.getD t ([], none, none)) g t
def HM (c : Cr) (M : Mem) : Prop := MR M ∧ RepA c (mI M 1) ∧ RepT c.texts (mI M 3) ∧ Wf c
theorem HM.R {c : Cr} {M : Mem} (h : HM c M) : MR M := h.1
theorem HM.A {c : Cr} {M : Mem} (h : HM c M) : RepA c (mI M 1) := h.2.1
theorem HM.T {c : Cr} {M : Mem} (h : HM c M) : RepT c.texts (mI M 3) := h.2.2.1
theorem HM.w {c : Cr} {M : Mem} (h : HM c M) : Wf c := h.2.2.2
def SY (a : Nat) : Prop := a = 6 ∨ a = 7 ∨ a = 8
def SQ (a : Nat) : Prop := 6 ≤ a
theorem SY.q {a : Nat} (h : SY a) : SQ a := by unfold SQ; rcases h with rfl | rfl | rfl <;> decide
theorem HM.sx {c : Cr} {M M' : Mem} (h : HM c M) (g : Sx SQ M M') : HM c M' := by
  have e1 := (g.2 1 (by unfold SQ; decide)).1
  have e3 := (g.2 3 (by unfold SQ; decide)).1
  exact ⟨h.R.sx g, by rw [e1]; exact h.A, by rw [e3]; exact h.T, h.w⟩
theorem HM.sy {c : Cr} {M M' : Mem} (h : HM c M) (g : Sx SY M M') : HM c M' := h.sx (g.wk fun _ => SY.q)
