def isB (b : Nat) : Bool := decide (b = 32 ∨ b = 10)
def isD (b : Nat) : Bool := decide (48 ≤ b ∧ b ≤ 57)
def isL (b : Nat) : Bool := decide ((97 ≤ b ∧ b ≤ 122) ∨ (65 ≤ b ∧ b ≤ 90))
theorem isB_iff {b : Nat} : isB b = true ↔ (b = 32 ∨ b = 10) := decide_eq_true_iff
theorem isD_iff {b : Nat} : isD b = true ↔ (48 ≤ b ∧ b ≤ 57) := decide_eq_true_iff
theorem isL_iff {b : Nat} : isL b = true ↔ ((97 ≤ b ∧ b ≤ 122) ∨ (65 ≤ b ∧ b ≤ 90)) := decide_eq_true_iff
def ru (P : Nat → Bool) (l : List Nat) : Nat → Nat → Nat
  | 0, i => i
  | n + 1, i => if i < l.length ∧ P (l.getD i 0) = true then ru P l n (i + 1) else i
def rl (P : Nat → Bool) (l : List Nat) (i : Nat) : Nat := ru P l (l.length - i) i
theorem rl_step {P : Nat → Bool} {l : List Nat} {i : Nat} (h1 : i < l.length) (h2 : P (l.getD i 0) = true) : rl P l i = rl P l (i + 1) := by
  unfold rl
  obtain ⟨n, hn⟩ : ∃ n, l.length - i = n + 1 := ⟨l.length - i - 1, by omega⟩
  rw [hn, ru, if_pos ⟨h1, h2⟩, show l.length - (i + 1) = n by omega]
theorem rl_stop {P : Nat → Bool} {l : List Nat} {i : Nat} (h : ¬ (i < l.length ∧ P (l.getD i 0) = true)) : rl P l i = i := by
  unfold rl
  cases l.length - i with
  | zero => rfl
  | succ n => rw [ru, if_neg h]
theorem ru_prop (P : Nat → Bool) (l : List Nat) : ∀ n i, i ≤ l.length → l.length - i = n → i ≤ ru P l n i ∧ ru P l n i ≤ l.length ∧ ¬ (ru P l n i < l.length ∧ P (l.getD (ru P l n i) 0) = true) := by
  intro n
  induction n with
  | zero => intro i h1 h2; exact ⟨Nat.le_refl _, h1, fun q => by have := q.1; rw [ru] at this; omega⟩
  | succ n ih =>
    intro i h1 h2
    rw [ru]
    by_cases q : i < l.length ∧ P (l.getD i 0) = true
    · rw [if_pos q]
      obtain ⟨a, b, c⟩ := ih (i + 1) q.1 (by omega)
      exact ⟨by omega, b, c⟩
    · rw [if_neg q]
      exact ⟨Nat.le_refl _, h1, q⟩
theorem rl_ge {P : Nat → Bool} {l : List Nat} {i : Nat} (h : i ≤ l.length) : i ≤ rl P l i := (ru_prop P l _ i h rfl).1
theorem rl_le {P : Nat → Bool} {l : List Nat} {i : Nat} (h : i ≤ l.length) : rl P l i ≤ l.length := (ru_prop P l _ i h rfl).2.1
theorem rl_end {P : Nat → Bool} {l : List Nat} {i : Nat} (h : i ≤ l.length) : ¬ (rl P l i < l.length ∧ P (l.getD (rl P l i) 0) = true) := (ru_prop P l _ i h rfl).2.2
def nvC (l : List Nat) : Nat → Nat → Nat → Nat
  | 0, _, v => v
  | n + 1, i, v => nvC l n (i + 1) (if v * 10 + l.getD i 0 - 48 < 10000 then v * 10 + l.getD i 0 - 48 else 10000)
def wvM (l : List Nat) : Nat → Nat → Nat → Nat
  | 0, _, v => v
  | n + 1, i, v => wvM l n (i + 1) (if 281474976710656 ≤ v then 1152921504606846976 else v * 256 + l.getD i 0)
def kwN : List Nat := [1935767923, 495924115827, 123581014175598, 1936683636, 1751474546, 1718775661, 1952803948, 30064, 1685026670, 6578553, 1818583406, 1935763812, 26982, 1952998766, 1701606245, 6647396, 28530, 6385252, 7237492, 491496238692, 7825519, 7305070, 123580963646565, 448377483876, 112602893349477, 7955827]
def sgN (n : Nat) : Nat := if kwN.idxOf n < 26 then kwN.idxOf n else 41
theorem sgN_iff {n j : Nat} (h : j < 26) : sgN n = j ↔ n = kwN.getD j 0 := by
  have tb : ∀ j, j < 26 → kwN.idxOf (kwN.getD j 0) = j := by decide +kernel
  constructor
  · intro e
    unfold sgN at e
    by_cases q : kwN.idxOf n < 26
    · rw [if_pos q] at e
      have q2 : kwN.idxOf n < kwN.length := q
      have g := List.getElem_idxOf q2
      have g2 : kwN.getD (kwN.idxOf n) 0 = n := by
        rw [List.getD_eq_getElem?_getD, List.getElem?_eq_getElem q2, Option.getD_some]; exact g
      rw [e] at g2
      exact g2.symm
    · rw [if_neg q] at e; omega
  · intro e
    rw [e]
    unfold sgN
    rw [tb j h, if_pos h]
theorem sgN_rg (n : Nat) : sgN n < 26 ∨ sgN n = 41 := by
  unfold sgN
  by_cases q : kwN.idxOf n < 26
  · rw [if_pos q]; exact Or.inl q
  · rw [if_neg q]; exact Or.inr rfl
def mkS (b : Nat) : Nat := if b = 60 then 28 else if b = 62 then 29 else if b = 61 then 30 else if b = 35 then 31 else if b = 43 then 32 else if b = 45 then 33 else if b = 42 then 34 else if b = 47 then 35 else if b = 40 then 36 else if b = 41 then 37 else if b = 59 then 38 else 41
theorem mkS_rg (b : Nat) : (28 ≤ mkS b ∧ mkS b ≤ 38) ∨ mkS b = 41 := by
  unfold mkS
  repeat' split
  all_goals omega
def tkE (l : List Nat) (i : Nat) : Nat × Nat × Nat :=
  if i < l.length then
    if isL (l.getD i 0) = true then (sgN (wvM l (rl isL l i - i) i 0), 0, rl isL l i)
    else if isD (l.getD i 0) = true then (39, nvC l (rl isD l i - i) i 0, rl isD l i)
    else if (mkS (l.getD i 0) = 28 ∨ mkS (l.getD i 0) = 29) ∧ i + 1 < l.length ∧ l.getD (i + 1) 0 = 61 then (mkS (l.getD i 0) - 2, 0, i + 2)
    else (mkS (l.getD i 0), 0, i + 1)
  else (40, 0, i)
theorem tkE_end {l : List Nat} {i : Nat} (h : i < l.length) : i < (tkE l i).2.2 ∧ (tkE l i).2.2 ≤ l.length ∧ (tkE l i).1 ≠ 40 := by
  unfold tkE
  rw [if_pos h]
  by_cases h1 : isL (l.getD i 0) = true
  · rw [if_pos h1]
    have := rl_step h h1
    refine ⟨?_, rl_le (Nat.le_of_lt h), fun q => ?_⟩
    · show i < rl isL l i
      rw [this]; exact rl_ge h
    · have := sgN_rg (wvM l (rl isL l i - i) i 0)
      have q : sgN (wvM l (rl isL l i - i) i 0) = 40 := q
      omega
  · rw [if_neg h1]
    by_cases h2 : isD (l.getD i 0) = true
    · rw [if_pos h2]
      have := rl_step h h2
      refine ⟨?_, rl_le (Nat.le_of_lt h), fun q => by cases q⟩
      show i < rl isD l i
      rw [this]; exact rl_ge h
    · rw [if_neg h2]
      have hm := mkS_rg (l.getD i 0)
      by_cases h3 : (mkS (l.getD i 0) = 28 ∨ mkS (l.getD i 0) = 29) ∧ i + 1 < l.length ∧ l.getD (i + 1) 0 = 61
      · rw [if_pos h3]
        refine ⟨by show i < i + 2; omega, by show i + 2 ≤ _; omega, ?_⟩
        show mkS (l.getD i 0) - 2 ≠ 40
        omega
      · rw [if_neg h3]
        refine ⟨by show i < i + 1; omega, by show i + 1 ≤ _; omega, ?_⟩
        show mkS (l.getD i 0) ≠ 40
        omega
def PP (l : List Nat) : Nat → Nat
  | 0 => rl isB l 0
  | k + 1 => rl isB l (tkE l (PP l k)).2.2
def SS (l : List Nat) (k : Nat) : Nat := (tkE l (PP l k)).1
def VV (l : List Nat) (k : Nat) : Nat := (tkE l (PP l k)).2.1
def EE (l : List Nat) (k : Nat) : Nat := (tkE l (PP l k)).2.2
theorem tkE_le {l : List Nat} {i : Nat} (h : i ≤ l.length) : (tkE l i).2.2 ≤ l.length := by
  by_cases q : i < l.length
  · exact (tkE_end q).2.1
  · unfold tkE; rw [if_neg q]; exact h
theorem PP_le (l : List Nat) (k : Nat) : PP l k ≤ l.length := by
  cases k with
  | zero => exact rl_le (Nat.zero_le _)
  | succ k =>
    have : PP l k ≤ l.length := by
      induction k with
      | zero => exact rl_le (Nat.zero_le _)
      | succ k ih => exact rl_le (tkE_le ih)
    exact rl_le (tkE_le this)
theorem EE_le (l : List Nat) (k : Nat) : EE l k ≤ l.length := tkE_le (PP_le l k)
theorem PP_succ (l : List Nat) (k : Nat) : PP l (k + 1) = rl isB l (EE l k) := rfl
theorem SS_40 (l : List Nat) (k : Nat) : SS l k = 40 ↔ PP l k = l.length := by
  have hp := PP_le l k
  unfold SS
  by_cases q : PP l k < l.length
  · have := (tkE_end q).2.2
    exact ⟨fun h => absurd h this, fun h => by omega⟩
  · have e : tkE l (PP l k) = (40, 0, PP l k) := by unfold tkE; rw [if_neg q]
    rw [e]
    exact ⟨fun _ => by omega, fun _ => rfl⟩
theorem VV_40 {l : List Nat} {k : Nat} (h : PP l k = l.length) : VV l k = 0 := by
  unfold VV tkE; rw [if_neg (by omega)]
def vk (l : List Nat) (k : Nat) : Prop := ∀ j, j < k → PP l j < l.length
theorem vk.lt {l : List Nat} {k : Nat} (h : vk l k) : k ≤ PP l k := by
  induction k with
  | zero => exact Nat.zero_le _
  | succ k ih =>
    have h1 := ih (fun j hj => h j (by omega))
    have h2 := h k (by omega)
    have h3 := (tkE_end h2).1
    have h4 : EE l k ≤ PP l (k + 1) := rl_ge (EE_le l k)
    have h5 : PP l k < EE l k := h3
    omega
theorem vk.le {l : List Nat} {k : Nat} (h : vk l k) : k ≤ l.length := Nat.le_trans h.lt (PP_le l k)
theorem vk.s {l : List Nat} {k : Nat} (h : vk l k) (hs : SS l k ≠ 40) : vk l (k + 1) := fun j hj => by
  by_cases q : j = k
  · subst q
    have := PP_le l j
    have h2 : ¬ PP l j = l.length := fun e => hs ((SS_40 l j).mpr e)
    omega
  · exact h j (by omega)
theorem vk0 (l : List Nat) : vk l 0 := fun _ h => absurd h (Nat.not_lt_zero _)
theorem vk.lt300 {l : List Nat} {k : Nat} (h : vk l k) (hs : SS l k ≠ 40) : k < l.length := by
  have := (h.s hs).le
  omega
theorem SS_rg (l : List Nat) (k : Nat) : SS l k ≤ 41 := by
  unfold SS tkE
  by_cases q : PP l k < l.length
  · rw [if_pos q]
    by_cases h1 : isL (l.getD (PP l k) 0) = true
    · rw [if_pos h1]
      have := sgN_rg (wvM l (rl isL l (PP l k) - PP l k) (PP l k) 0)
      show sgN _ ≤ 41
      omega
    · rw [if_neg h1]
      by_cases h2 : isD (l.getD (PP l k) 0) = true
      · rw [if_pos h2]; show 39 ≤ 41; omega
      · rw [if_neg h2]
        have := mkS_rg (l.getD (PP l k) 0)
        split
        · show mkS _ - 2 ≤ 41; omega
        · show mkS _ ≤ 41; omega
  · rw [if_neg q]; show 40 ≤ 41; omega
theorem nvC_le (l : List Nat) : ∀ n i v, v ≤ 10000 → nvC l n i v ≤ 10000 := by
  intro n
  induction n with
  | zero => intro i v h; exact h
  | succ n ih =>
    intro i v h
    rw [nvC]
    refine ih _ _ ?_
    split <;> omega
theorem VV_le (l : List Nat) (k : Nat) : VV l k ≤ 10000 := by
  unfold VV tkE
  by_cases q : PP l k < l.length
  · rw [if_pos q]
    by_cases h1 : isL (l.getD (PP l k) 0) = true
    · rw [if_pos h1]; show 0 ≤ 10000; omega
    · rw [if_neg h1]
      by_cases h2 : isD (l.getD (PP l k) 0) = true
      · rw [if_pos h2]; exact nvC_le _ _ _ _ (by decide)
      · rw [if_neg h2]
        split
        · show 0 ≤ 10000; omega
        · show 0 ≤ 10000; omega
  · rw [if_neg q]; show 0 ≤ 10000; omega
