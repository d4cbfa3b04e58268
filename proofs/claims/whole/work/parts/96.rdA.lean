abbrev Res : Type := Nat × Nat × Cd × Cd
def Res.f (r : Res) : Nat := r.1
def Res.k (r : Res) : Nat := r.2.1
def Res.cm (r : Res) : Cd := r.2.2.1
def Res.cc (r : Res) : Cd := r.2.2.2
def rF (f k : Nat) : Res := (f, k, [], [])
def isNm (s : Nat) : Prop := (19 ≤ s ∧ s ≤ 25) ∨ s = 3
def isOp (s : Nat) : Prop := s = 36 ∨ s = 33 ∨ s = 10 ∨ s = 11 ∨ s = 12
def isCm (s : Nat) : Prop := 26 ≤ s ∧ s ≤ 31
def nmI (s : Nat) : Nat := if s = 3 then 3 else if s ≤ 21 then s - 19 else s - 18
def cmO (s : Nat) : Nat := if s = 28 then 10 else if s = 26 then 11 else if s = 29 then 12 else if s = 27 then 13 else if s = 30 then 14 else 15
def unO (s : Nat) : Nat := if s = 33 then 5 else if s = 10 then 2 else 4
def unC (s : Nat) : Nat := if s = 33 then 42 else s
section RD
variable (S V : Nat → Nat) (sw : Nat)
def plainR (k : Nat) : Res :=
  if S k ≠ 39 ∧ ¬ ((19 ≤ S k ∧ S k ≤ 25) ∨ S k = 3) then rF 1 k
  else if 9999 < V k then rF 2 k
  else if S k = 25 ∧ sw ≠ 1 then rF 5 k
  else (0, k + 1, [if S k = 39 then (0, V k) else (1, nmI (S k))], [(S k, V k)])
def addR (r q : Res) (o s : Nat) : Res := if q.f = 0 then (0, q.k, r.cm ++ q.cm ++ [(o, 0)], r.cc ++ q.cc ++ [(s, 0)]) else q
def chn (J : Nat → Bool) (om : Nat → Nat) (f : Nat → Nat → Res) (b : Nat) : Nat → Res → Res
  | 0, r => r
  | n + 1, r => if r.f = 0 ∧ J (S r.k) = true then chn J om f b n (addR r (f (r.k + 1) (b + r.cc.length)) (om (S r.k)) (S r.k)) else r
def jMul (s : Nat) : Bool := decide (s = 34 ∨ s = 35)
def jAdd (s : Nat) : Bool := decide (s = 32 ∨ s = 33)
def jAnd (s : Nat) : Bool := decide (s = 17)
def jOr (s : Nat) : Bool := decide (s = 16)
def oBi (s : Nat) : Nat := s - 26
def oAnd (_ : Nat) : Nat := 21
def oOr (_ : Nat) : Nat := 22
def prodR (f : Nat → Nat → Res) (k b : Nat) : Res := chn S jMul oBi f b 300 (f k b)
def sumR (f : Nat → Nat → Res) (k b : Nat) : Res := chn S jAdd oBi (prodR S f) b 300 (prodR S f k b)
def bothR (f : Nat → Nat → Res) (k b : Nat) : Res := chn S jAnd oAnd f b 300 (f k b)
def eitherR (f : Nat → Nat → Res) (k b : Nat) : Res := chn S jOr oOr (bothR S f) b 300 (bothR S f k b)
def cmpR (sm : Nat → Nat → Res) (k b : Nat) : Res :=
  if (sm k b).f ≠ 0 then sm k b else if ¬ (26 ≤ S (sm k b).k ∧ S (sm k b).k ≤ 31) then rF 1 (sm k b).k
  else addR (sm k b) (sm ((sm k b).k + 1) (b + (sm k b).cc.length)) (cmO (S (sm k b).k)) (S (sm k b).k)
def ifE (e r1 r2 : Res) (b : Nat) : Res := (0, r2.k + 1, e.cm ++ r1.cm ++ r2.cm ++ [(3, 0)], e.cc ++ [(44, b + e.cc.length + 1 + r1.cc.length + 1)] ++ r1.cc ++ [(43, b + e.cc.length + 1 + r1.cc.length + 1 + r2.cc.length)] ++ r2.cc)
def if3 (sm : Nat → Nat → Res) (e r1 : Res) (b : Nat) : Res :=
  if (sm (r1.k + 1) (b + e.cc.length + 1 + r1.cc.length + 1)).f ≠ 0 then sm (r1.k + 1) (b + e.cc.length + 1 + r1.cc.length + 1)
  else if S (sm (r1.k + 1) (b + e.cc.length + 1 + r1.cc.length + 1)).k ≠ 15 then rF 1 (sm (r1.k + 1) (b + e.cc.length + 1 + r1.cc.length + 1)).k
  else ifE e r1 (sm (r1.k + 1) (b + e.cc.length + 1 + r1.cc.length + 1)) b
def if2 (sm : Nat → Nat → Res) (e : Res) (b : Nat) : Res :=
  if (sm (e.k + 1) (b + e.cc.length + 1)).f ≠ 0 then sm (e.k + 1) (b + e.cc.length + 1)
  else if S (sm (e.k + 1) (b + e.cc.length + 1)).k ≠ 14 then rF 1 (sm (e.k + 1) (b + e.cc.length + 1)).k
  else if3 S sm e (sm (e.k + 1) (b + e.cc.length + 1)) b
def ifR (ei sm : Nat → Nat → Res) (k b : Nat) : Res :=
  if (ei k b).f ≠ 0 then ei k b else if S (ei k b).k ≠ 13 then rF 1 (ei k b).k else if2 S sm (ei k b) b
def parR (r : Res) : Res := if r.f ≠ 0 then r else if S r.k ≠ 37 then rF 1 r.k else (0, r.k + 1, r.cm, r.cc)
def unR (r : Res) (o s : Nat) : Res := if r.f ≠ 0 then r else (0, r.k, r.cm ++ [(o, 0)], r.cc ++ [(s, 0)])
def oneS (p : (Nat → Nat → Res) × (Nat → Nat → Res)) (k b : Nat) : Res :=
  if ¬ (S k = 36 ∨ S k = 33 ∨ S k = 10 ∨ S k = 11 ∨ S k = 12) then plainR S V sw k
  else if S k = 36 then parR S (sumR S p.1 (k + 1) b)
  else if S k = 12 then ifR S (eitherR S p.2) (sumR S p.1) (k + 1) b
  else unR (p.1 (k + 1) b) (unO (S k)) (unC (S k))
def one0 (k _ : Nat) : Res := if ¬ (S k = 36 ∨ S k = 33 ∨ S k = 10 ∨ S k = 11 ∨ S k = 12) then plainR S V sw k else rF 3 k
def ask0 (k b : Nat) : Res := if S k = 18 then rF 3 k else cmpR S (sumR S (one0 S V sw)) k b
def askS (p : (Nat → Nat → Res) × (Nat → Nat → Res)) (k b : Nat) : Res := if S k = 18 then unR (p.2 (k + 1) b) 20 18 else cmpR S (sumR S (oneS S V sw p)) k b
def RDF : Nat → (Nat → Nat → Res) × (Nat → Nat → Res)
  | 0 => (one0 S V sw, ask0 S V sw)
  | L + 1 => (oneS S V sw (RDF L), askS S V sw (RDF L))
def Gd (k : Nat) (r : Res) : Prop := r.f ≤ 5 ∧ k ≤ r.k ∧ (∀ j, k ≤ j → j < r.k → S j ≠ 40) ∧ (r.f = 0 → k < r.k ∧ r.cm.length ≤ r.k - k ∧ r.cc.length ≤ r.k - k)
def GdF (f : Nat → Nat → Res) : Prop := ∀ k b, Gd S k (f k b)
variable {S V sw}
theorem Gd.rF {f k k' : Nat} (hf : f ≤ 5) (h0 : f ≠ 0) (hk : k ≤ k') (hj : ∀ j, k ≤ j → j < k' → S j ≠ 40) : Gd S k (rF f k') := ⟨hf, hk, hj, fun h => absurd h h0⟩
theorem Gd.plain (k : Nat) : Gd S k (plainR S V sw k) := by
  unfold plainR
  have nj : ∀ j, k ≤ j → j < k → S j ≠ 40 := fun j a b => by omega
  by_cases h1 : S k ≠ 39 ∧ ¬ ((19 ≤ S k ∧ S k ≤ 25) ∨ S k = 3)
  · rw [if_pos h1]; exact Gd.rF (by decide) (by decide) (Nat.le_refl _) nj
  · rw [if_neg h1]
    by_cases h2 : 9999 < V k
    · rw [if_pos h2]; exact Gd.rF (by decide) (by decide) (Nat.le_refl _) nj
    · rw [if_neg h2]
      by_cases h3 : S k = 25 ∧ sw ≠ 1
      · rw [if_pos h3]; exact Gd.rF (by decide) (by decide) (Nat.le_refl _) nj
      · rw [if_neg h3]
        refine ⟨Nat.zero_le _, Nat.le_succ k, fun j a b => ?_, fun _ => ⟨Nat.lt_succ_self k, ?_, ?_⟩⟩
        · have e : j = k := by have : j < k + 1 := b; omega
          rw [e]; omega
        · show 1 ≤ k + 1 - k; omega
        · show 1 ≤ k + 1 - k; omega
theorem Gd.add {k : Nat} {r q : Res} {o s : Nat} (hr : Gd S k r) (h0 : r.f = 0) (hs : S r.k ≠ 40) (hq : Gd S (r.k + 1) q) : Gd S k (addR r q o s) := by
  unfold addR
  have hj : ∀ j, k ≤ j → j < q.k → S j ≠ 40 := fun j a b => by
    rcases Nat.lt_or_ge j r.k with z | z
    · exact hr.2.2.1 j a z
    · by_cases e : j = r.k
      · rw [e]; exact hs
      · exact hq.2.2.1 j (by omega) b
  have hrk := hr.2.1
  have hqk := hq.2.1
  by_cases hf : q.f = 0
  · rw [if_pos hf]
    obtain ⟨a1, a2, a3⟩ := hr.2.2.2 h0
    obtain ⟨b1, b2, b3⟩ := hq.2.2.2 hf
    refine ⟨Nat.zero_le _, by show k ≤ q.k; omega, hj, fun _ => ⟨by show k < q.k; omega, ?_, ?_⟩⟩
    · show (r.cm ++ q.cm ++ [(o, 0)]).length ≤ q.k - k
      rw [List.length_append, List.length_append]
      show _ + _ + 1 ≤ _
      omega
    · show (r.cc ++ q.cc ++ [(s, 0)]).length ≤ q.k - k
      rw [List.length_append, List.length_append]
      show _ + _ + 1 ≤ _
      omega
  · rw [if_neg hf]
    exact ⟨hq.1, by omega, hj, fun h => absurd h hf⟩
theorem gd_chn {J : Nat → Bool} {om : Nat → Nat} {f : Nat → Nat → Res} {b : Nat} (hJ : J 40 = false) (hf : GdF S f) : ∀ n k r, Gd S k r → Gd S k (chn S J om f b n r) := by
  intro n
  induction n with
  | zero => intro k r h; exact h
  | succ n ih =>
    intro k r h
    rw [chn]
    by_cases q : r.f = 0 ∧ J (S r.k) = true
    · rw [if_pos q]
      exact ih k _ (h.add q.1 (fun e => by rw [e, hJ] at q; cases q.2) (hf _ _))
    · rw [if_neg q]; exact h
theorem GdF.prod {f : Nat → Nat → Res} (hf : GdF S f) : GdF S (prodR S f) := fun k b => gd_chn rfl hf _ _ _ (hf k b)
theorem GdF.sum {f : Nat → Nat → Res} (hf : GdF S f) : GdF S (sumR S f) := fun k b => gd_chn rfl hf.prod _ _ _ (hf.prod k b)
theorem GdF.both {f : Nat → Nat → Res} (hf : GdF S f) : GdF S (bothR S f) := fun k b => gd_chn rfl hf _ _ _ (hf k b)
theorem GdF.either {f : Nat → Nat → Res} (hf : GdF S f) : GdF S (eitherR S f) := fun k b => gd_chn rfl hf.both _ _ _ (hf.both k b)
theorem GdF.cmp {f : Nat → Nat → Res} (hf : GdF S f) : GdF S (cmpR S f) := fun k b => by
  unfold cmpR
  have h := hf k b
  by_cases h1 : (f k b).f ≠ 0
  · rw [if_pos h1]; exact h
  · rw [if_neg h1]
    by_cases h2 : ¬ (26 ≤ S (f k b).k ∧ S (f k b).k ≤ 31)
    · rw [if_pos h2]; exact Gd.rF (by decide) (by decide) h.2.1 h.2.2.1
    · rw [if_neg h2]
      exact h.add (Decidable.not_not.mp h1) (by omega) (hf _ _)
theorem Gd.st {k s : Nat} {r : Res} (h : Gd S k r) (hs : S r.k = s) (h40 : s ≠ 40) : ∀ j, k ≤ j → j < r.k + 1 → S j ≠ 40 := fun j a b => by
  by_cases e : j = r.k
  · rw [e, hs]; exact h40
  · exact h.2.2.1 j a (by omega)
theorem Gd.par {k : Nat} {r : Res} (hk : S k = 36) (h : Gd S (k + 1) r) : Gd S k (parR S r) := by
  unfold parR
  have h1 := h.2.1
  have hj : ∀ (P : Nat), (∀ j, k + 1 ≤ j → j < P → S j ≠ 40) → ∀ j, k ≤ j → j < P → S j ≠ 40 := fun P q j a b => by
    by_cases e : j = k
    · rw [e, hk]; decide
    · exact q j (by omega) b
  by_cases hf : r.f ≠ 0
  · rw [if_pos hf]; exact ⟨h.1, by omega, hj _ h.2.2.1, fun e => absurd e hf⟩
  · rw [if_neg hf]
    by_cases h2 : S r.k ≠ 37
    · rw [if_pos h2]; exact Gd.rF (by decide) (by decide) (by omega) (hj _ h.2.2.1)
    · rw [if_neg h2]
      have h2 := Decidable.not_not.mp h2
      obtain ⟨a1, a2, a3⟩ := h.2.2.2 (Decidable.not_not.mp hf)
      exact ⟨Nat.zero_le _, by show k ≤ r.k + 1; omega, hj _ (h.st h2 (by decide)), fun _ => ⟨by show k < r.k + 1; omega, by show r.cm.length ≤ r.k + 1 - k; omega, by show r.cc.length ≤ r.k + 1 - k; omega⟩⟩
theorem Gd.un {k o s : Nat} {r : Res} (hk : S k ≠ 40) (h : Gd S (k + 1) r) : Gd S k (unR r o s) := by
  unfold unR
  have h1 := h.2.1
  have hj : ∀ j, k ≤ j → j < r.k → S j ≠ 40 := fun j a b => by
    by_cases e : j = k
    · rw [e]; exact hk
    · exact h.2.2.1 j (by omega) b
  by_cases hf : r.f ≠ 0
  · rw [if_pos hf]; exact ⟨h.1, by omega, hj, fun e => absurd e hf⟩
  · rw [if_neg hf]
    obtain ⟨a1, a2, a3⟩ := h.2.2.2 (Decidable.not_not.mp hf)
    refine ⟨Nat.zero_le _, by show k ≤ r.k; omega, hj, fun _ => ⟨by show k < r.k; omega, ?_, ?_⟩⟩
    · show (r.cm ++ [(o, 0)]).length ≤ r.k - k
      rw [List.length_append]
      show _ + 1 ≤ _
      omega
    · show (r.cc ++ [(s, 0)]).length ≤ r.k - k
      rw [List.length_append]
      show _ + 1 ≤ _
      omega
theorem Gd.if0 {ei sm : Nat → Nat → Res} {k b : Nat} (hk : S k = 12) (he : GdF S ei) (hs : GdF S sm) : Gd S k (ifR S ei sm (k + 1) b) := by
  unfold ifR
  have h := he (k + 1) b
  generalize ei (k + 1) b = e at h
  have k1 := h.2.1
  have hj : ∀ (P : Nat), (∀ j, k + 1 ≤ j → j < P → S j ≠ 40) → ∀ j, k ≤ j → j < P → S j ≠ 40 := fun P q j a b => by
    by_cases e : j = k
    · rw [e, hk]; decide
    · exact q j (by omega) b
  by_cases hf : e.f ≠ 0
  · rw [if_pos hf]; exact ⟨h.1, by omega, hj _ h.2.2.1, fun e => absurd e hf⟩
  · rw [if_neg hf]
    by_cases h2 : S e.k ≠ 13
    · rw [if_pos h2]; exact Gd.rF (by decide) (by decide) (by omega) (hj _ h.2.2.1)
    · rw [if_neg h2]
      have h2 := Decidable.not_not.mp h2
      obtain ⟨a1, a2, a3⟩ := h.2.2.2 (Decidable.not_not.mp hf)
      have j1 := hj _ (h.st h2 (by decide))
      unfold if2
      have g := hs (e.k + 1) (b + e.cc.length + 1)
      generalize sm (e.k + 1) (b + e.cc.length + 1) = r1 at g
      have k2 := g.2.1
      have hj2 : ∀ (P : Nat), (∀ j, e.k + 1 ≤ j → j < P → S j ≠ 40) → ∀ j, k ≤ j → j < P → S j ≠ 40 := fun P q j a b => by
        rcases Nat.lt_or_ge j (e.k + 1) with z | z
        · exact j1 j a z
        · exact q j z b
      by_cases gf : r1.f ≠ 0
      · rw [if_pos gf]; exact ⟨g.1, by omega, hj2 _ g.2.2.1, fun e => absurd e gf⟩
      · rw [if_neg gf]
        by_cases g2 : S r1.k ≠ 14
        · rw [if_pos g2]; exact Gd.rF (by decide) (by decide) (by omega) (hj2 _ g.2.2.1)
        · rw [if_neg g2]
          have g2 := Decidable.not_not.mp g2
          obtain ⟨b1, b2, b3⟩ := g.2.2.2 (Decidable.not_not.mp gf)
          have j2 := hj2 _ (g.st g2 (by decide))
          unfold if3
          have v := hs (r1.k + 1) (b + e.cc.length + 1 + r1.cc.length + 1)
          generalize sm (r1.k + 1) (b + e.cc.length + 1 + r1.cc.length + 1) = r2 at v
          have k3 := v.2.1
          have hj3 : ∀ (P : Nat), (∀ j, r1.k + 1 ≤ j → j < P → S j ≠ 40) → ∀ j, k ≤ j → j < P → S j ≠ 40 := fun P q j a b => by
            rcases Nat.lt_or_ge j (r1.k + 1) with z | z
            · exact j2 j a z
            · exact q j z b
          by_cases vf : r2.f ≠ 0
          · rw [if_pos vf]; exact ⟨v.1, by omega, hj3 _ v.2.2.1, fun e => absurd e vf⟩
          · rw [if_neg vf]
            by_cases v2 : S r2.k ≠ 15
            · rw [if_pos v2]; exact Gd.rF (by decide) (by decide) (by omega) (hj3 _ v.2.2.1)
            · rw [if_neg v2]
              have v2 := Decidable.not_not.mp v2
              obtain ⟨c1, c2, c3⟩ := v.2.2.2 (Decidable.not_not.mp vf)
              refine ⟨Nat.zero_le _, by show k ≤ r2.k + 1; omega, hj3 _ (v.st v2 (by decide)), fun _ => ⟨by show k < r2.k + 1; omega, ?_, ?_⟩⟩
              · show (e.cm ++ r1.cm ++ r2.cm ++ [(3, 0)]).length ≤ r2.k + 1 - k
                simp only [List.length_append, List.length_cons, List.length_nil]
                omega
              · show (e.cc ++ [(44, b + e.cc.length + 1 + r1.cc.length + 1)] ++ r1.cc ++ [(43, b + e.cc.length + 1 + r1.cc.length + 1 + r2.cc.length)] ++ r2.cc).length ≤ r2.k + 1 - k
                simp only [List.length_append, List.length_cons, List.length_nil]
                omega
theorem gdF_one0 : GdF S (one0 S V sw) := fun k b => by
  unfold one0
  split
  · exact Gd.plain k
  · exact Gd.rF (by decide) (by decide) (Nat.le_refl _) (fun j a b => by omega)
theorem gdF_oneS {p : (Nat → Nat → Res) × (Nat → Nat → Res)} (h1 : GdF S p.1) (h2 : GdF S p.2) : GdF S (oneS S V sw p) := fun k b => by
  unfold oneS
  by_cases c1 : ¬ (S k = 36 ∨ S k = 33 ∨ S k = 10 ∨ S k = 11 ∨ S k = 12)
  · rw [if_pos c1]; exact Gd.plain k
  · rw [if_neg c1]
    by_cases c2 : S k = 36
    · rw [if_pos c2]; exact Gd.par c2 (h1.sum _ _)
    · rw [if_neg c2]
      by_cases c3 : S k = 12
      · rw [if_pos c3]; exact Gd.if0 c3 h2.either h1.sum
      · rw [if_neg c3]; exact Gd.un (by omega) (h1 _ _)
theorem gdF_ask0 : GdF S (ask0 S V sw) := fun k b => by
  unfold ask0
  split
  · exact Gd.rF (by decide) (by decide) (Nat.le_refl _) (fun j a b => by omega)
  · exact gdF_one0.sum.cmp k b
theorem gdF_askS {p : (Nat → Nat → Res) × (Nat → Nat → Res)} (h1 : GdF S p.1) (h2 : GdF S p.2) : GdF S (askS S V sw p) := fun k b => by
  unfold askS
  by_cases c : S k = 18
  · rw [if_pos c]; exact Gd.un (by omega) (h2 _ _)
  · rw [if_neg c]; exact (gdF_oneS h1 h2).sum.cmp k b
theorem gdF_RDF (L : Nat) : GdF S (RDF S V sw L).1 ∧ GdF S (RDF S V sw L).2 := by
  induction L with
  | zero => exact ⟨gdF_one0, gdF_ask0⟩
  | succ L ih => exact ⟨gdF_oneS ih.1 ih.2, gdF_askS ih.1 ih.2⟩
end RD
