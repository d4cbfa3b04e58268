section RDh
variable (S V : Nat → Nat)
abbrev RR : Type := Nat × Nat × Nat × Nat × Option (Cd × Cd)
def RR.f (r : RR) : Nat := r.1
def RR.k (r : RR) : Nat := r.2.1
def RR.a (r : RR) : Nat := r.2.2.1
def RR.b (r : RR) : Nat := r.2.2.2.1
def RR.q (r : RR) : Option (Cd × Cd) := r.2.2.2.2
def numF (lo hi k : Nat) : Nat := if S k ≠ 39 then 1 else if V k < lo ∨ hi < V k then 2 else 0
def oneN (lo hi k : Nat) : RR := if numF S V lo hi k ≠ 0 then (numF S V lo hi k, k, 0, 0, none) else (0, k + 1, V k, 0, none)
def twoN (h1 w h2 k : Nat) : RR :=
  if numF S V 0 h1 k ≠ 0 then (numF S V 0 h1 k, k, 0, 0, none) else if S (k + 1) ≠ w then (1, k + 1, 0, 0, none)
  else if numF S V 0 h2 (k + 2) ≠ 0 then (numF S V 0 h2 (k + 2), k + 2, 0, 0, none) else (0, k + 3, V k, V (k + 2), none)
def lawN (s k b : Nat) : RR := ((sumR S (RDF S V s 8).1 k b).f, (sumR S (RDF S V s 8).1 k b).k, 0, 0, some ((sumR S (RDF S V s 8).1 k b).cm, (sumR S (RDF S V s 8).1 k b).cc))
def restR (s k b : Nat) : RR :=
  if s ≤ 1 then lawN S V s k b else if s = 2 then twoN S V 9 3 3 k else if s = 4 then twoN S V 7 5 7 k else if s = 6 then oneN S V 0 8 k else if s = 9 then oneN S V 1 60 k else oneN S V 0 7 k
def kdS (s : Nat) : Nat := if s ≤ 2 then s else if s = 4 then 3 else s - 2
abbrev CT : Type := List (Nat × Nat × Nat) × Option (Cd × Cd) × Option (Cd × Cd)
def CT.cl (t : CT) : List (Nat × Nat × Nat) := t.1
def CT.sy (t : CT) : Option (Cd × Cd) := t.2.1
def CT.sw (t : CT) : Option (Cd × Cd) := t.2.2
abbrev CR : Type := Nat × Nat × CT × Nat
def CR.f (r : CR) : Nat := r.1
def CR.k (r : CR) : Nat := r.2.1
def CR.t (r : CR) : CT := r.2.2.1
def CR.b (r : CR) : Nat := r.2.2.2
def qlen (q : Option (Cd × Cd)) : Nat := match q with
  | none => 0
  | some q => q.2.length
def isBg (s : Nat) : Prop := s ≤ 9 ∧ s ≠ 3 ∧ s ≠ 5
def cluN (s : Nat) (r : RR) (t : CT) (b : Nat) : CR :=
  if r.f ≠ 0 then (r.f, r.k, t, b) else if S r.k ≠ 38 then (1, r.k, t, b)
  else (0, r.k + 1, (t.cl ++ [(kdS s, r.a, r.b)], if s = 0 then r.q else t.sy, if s = 1 then r.q else t.sw), b + qlen r.q)
def clR (k : Nat) (t : CT) (b : Nat) : CR :=
  if ¬ (S k ≤ 9 ∧ S k ≠ 3 ∧ S k ≠ 5) then (1, k, t, b) else if (S k = 0 ∧ t.sy.isSome = true) ∨ (S k = 1 ∧ t.sw.isSome = true) then (4, k, t, b)
  else if 24 ≤ t.cl.length then (6, k, t, b) else cluN S (S k) (restR S V (S k) (k + 1) b) t b
def allR : Nat → CR → CR
  | 0, c => c
  | n + 1, c => if c.f = 0 ∧ S c.k ≠ 40 then allR n (clR S V c.k c.t c.b) else c
variable {S V}
theorem numF_le (lo hi k : Nat) : numF S V lo hi k ≤ 2 := by
  unfold numF
  split
  · omega
  · split <;> omega
theorem numF_0 {lo hi k : Nat} (h : numF S V lo hi k = 0) : S k = 39 ∧ lo ≤ V k ∧ V k ≤ hi := by
  unfold numF at h
  by_cases c1 : S k ≠ 39
  · rw [if_pos c1] at h; omega
  · rw [if_neg c1] at h
    by_cases c2 : V k < lo ∨ hi < V k
    · rw [if_pos c2] at h; omega
    · exact ⟨by omega, by omega, by omega⟩
def Gn (k : Nat) (r : RR) : Prop := r.f ≤ 5 ∧ k ≤ r.k ∧ (∀ j, k ≤ j → j < r.k → S j ≠ 40) ∧ (r.f = 0 → k < r.k ∧ r.a ≤ 9999 ∧ r.b ≤ 9999 ∧ ∀ q, r.q = some q → q.1.length ≤ r.k - k ∧ q.2.length ≤ r.k - k)
theorem Gn.fl {k k' f : Nat} (hf : f ≤ 5) (h0 : f ≠ 0) (hk : k ≤ k') (hj : ∀ j, k ≤ j → j < k' → S j ≠ 40) : Gn (S := S) k (f, k', 0, 0, none) := ⟨hf, hk, hj, fun h => absurd h h0⟩
theorem Gn.one {lo hi k : Nat} (hh : hi ≤ 60) : Gn (S := S) k (oneN S V lo hi k) := by
  unfold oneN
  have h2 := numF_le (S := S) (V := V) lo hi k
  by_cases c : numF S V lo hi k ≠ 0
  · rw [if_pos c]; exact Gn.fl (by omega) c (Nat.le_refl _) (fun j a b => by omega)
  · rw [if_neg c]
    have e := numF_0 (Decidable.not_not.mp c)
    refine ⟨Nat.zero_le _, Nat.le_succ k, fun j a b => ?_, fun _ => ⟨Nat.lt_succ_self k, by show V k ≤ 9999; omega, Nat.zero_le _, fun q h => by cases h⟩⟩
    have ej : j = k := by have : j < k + 1 := b; omega
    rw [ej]; omega
theorem Gn.two {h1 w h2 k : Nat} (hh1 : h1 ≤ 60) (hh2 : h2 ≤ 60) (hw : w ≠ 40) : Gn (S := S) k (twoN S V h1 w h2 k) := by
  unfold twoN
  have l1 := numF_le (S := S) (V := V) 0 h1 k
  have l2 := numF_le (S := S) (V := V) 0 h2 (k + 2)
  by_cases c : numF S V 0 h1 k ≠ 0
  · rw [if_pos c]; exact Gn.fl (by omega) c (Nat.le_refl _) (fun j a b => by omega)
  · rw [if_neg c]
    have e := numF_0 (Decidable.not_not.mp c)
    by_cases c2 : S (k + 1) ≠ w
    · rw [if_pos c2]
      refine Gn.fl (by decide) (by decide) (Nat.le_succ k) (fun j a b => ?_)
      have ej : j = k := by omega
      rw [ej]; omega
    · rw [if_neg c2]
      have c2 := Decidable.not_not.mp c2
      by_cases c3 : numF S V 0 h2 (k + 2) ≠ 0
      · rw [if_pos c3]
        refine Gn.fl (by omega) c3 (by omega) (fun j a b => ?_)
        rcases (show j = k ∨ j = k + 1 by omega) with rfl | rfl
        · omega
        · omega
      · rw [if_neg c3]
        have e3 := numF_0 (Decidable.not_not.mp c3)
        refine ⟨Nat.zero_le _, by show k ≤ k + 3; omega, fun j a b => ?_, fun _ => ⟨by show k < k + 3; omega, by show V k ≤ 9999; omega, by show V (k + 2) ≤ 9999; omega, fun q h => by cases h⟩⟩
        have b : j < k + 3 := b
        rcases (show j = k ∨ j = k + 1 ∨ j = k + 2 by omega) with rfl | rfl | rfl
        · omega
        · omega
        · omega
theorem Gn.law (s k b : Nat) : Gn (S := S) k (lawN S V s k b) := by
  have h := (gdF_RDF (S := S) (V := V) (sw := s) 8).1.sum k b
  refine ⟨h.1, h.2.1, h.2.2.1, fun e => ?_⟩
  obtain ⟨a1, a2, a3⟩ := h.2.2.2 e
  exact ⟨a1, Nat.zero_le _, Nat.zero_le _, fun q hq => by rw [← Option.some.inj hq]; exact ⟨a2, a3⟩⟩
theorem Gn.rest (s k b : Nat) : Gn (S := S) k (restR S V s k b) := by
  unfold restR
  split
  · exact Gn.law s k b
  · split
    · exact Gn.two (by decide) (by decide) (by decide)
    · split
      · exact Gn.two (by decide) (by decide) (by decide)
      · split
        · exact Gn.one (by decide)
        · split
          · exact Gn.one (by decide)
          · exact Gn.one (by decide)
end RDh
