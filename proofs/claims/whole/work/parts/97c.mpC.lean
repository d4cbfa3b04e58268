section MPr
variable {S V : Nat → Nat} {sw : Nat} {p p' : List Nat} {c c' : Cd} {T : Nat × Nat × Cd} {n m k L : Nat}
theorem mpI_pl (hV : ∀ k, S k ≠ 39 → V k = 0) (h1 : ¬ (S k = 36 ∨ S k = 33 ∨ S k = 10 ∨ S k = 11 ∨ S k = 12)) (h2 : S k = 18 → ¬ (mpO p = 41 ∧ mpH p ≤ 3)) :
    ((plainR S V sw k).f = 0 → (plainR S V sw k).k = k + 1 ∧ mpI S V sw k p c = (0, k + 1, (mpS 7 p (c ++ (plainR S V sw k).cm)).1, true, (mpS 7 p (c ++ (plainR S V sw k).cm)).2)) ∧ ((plainR S V sw k).f ≠ 0 → (plainR S V sw k).k = k ∧ mpI S V sw k p c = ((plainR S V sw k).f + 1, k, p, false, c)) := by
  unfold plainR mpI
  by_cases c1 : S k ≠ 39 ∧ ¬ ((19 ≤ S k ∧ S k ≤ 25) ∨ S k = 3)
  · rw [if_pos c1]
    refine ⟨fun q => absurd q (by show ¬ 1 = 0; decide), fun _ => ⟨rfl, ?_⟩⟩
    rw [if_neg (fun q => c1.1 q.1), if_neg (fun q => c1.2 (by omega)), if_neg (by omega), if_neg (by omega), if_neg (by omega), if_neg (by omega), if_neg (by omega), if_neg (by omega), if_neg (fun q => h2 q.1 q.2)]
    rfl
  · rw [if_neg c1]
    by_cases c2 : 9999 < V k
    · have e : S k = 39 := Decidable.byContradiction fun z => by have := hV k z; omega
      rw [if_pos c2]
      refine ⟨fun q => absurd q (by show ¬ 2 = 0; decide), fun _ => ⟨rfl, ?_⟩⟩
      rw [if_pos ⟨e, c2⟩]
      rfl
    · rw [if_neg c2]
      by_cases c3 : S k = 25 ∧ sw ≠ 1
      · rw [if_pos c3]
        refine ⟨fun q => absurd q (by show ¬ 5 = 0; decide), fun _ => ⟨rfl, ?_⟩⟩
        rw [if_neg (fun q => c2 q.2), if_pos c3]
        rfl
      · rw [if_neg c3]
        refine ⟨fun _ => ⟨rfl, ?_⟩, fun q => absurd rfl q⟩
        rw [if_neg (fun q => c2 q.2), if_neg c3, if_pos (by omega)]
        rfl
theorem mpI_op (h : S k = 36 ∨ S k = 33 ∨ S k = 10 ∨ S k = 11 ∨ S k = 12) : mpI S V sw k p c = mpW k p c (if S k = 36 then 40 else if S k = 33 then 5 else if S k = 10 then 2 else if S k = 11 then 4 else 41) := by
  unfold mpI
  rw [if_neg (by omega), if_neg (by omega), if_neg (by omega)]
  rcases h with e | e | e | e | e
  · rw [if_pos e, if_pos e]
  · rw [if_neg (by omega), if_pos e, if_neg (by omega), if_pos e]
  · rw [if_neg (by omega), if_neg (by omega), if_pos e, if_neg (by omega), if_neg (by omega), if_pos e]
  · rw [if_neg (by omega), if_neg (by omega), if_neg (by omega), if_pos e, if_neg (by omega), if_neg (by omega), if_neg (by omega), if_pos e]
  · rw [if_neg (by omega), if_neg (by omega), if_neg (by omega), if_neg (by omega), if_pos e, if_neg (by omega), if_neg (by omega), if_neg (by omega), if_neg (by omega)]
theorem mpI_nt (h : S k = 18) (hA : mpO p = 41 ∧ mpH p ≤ 3) : mpI S V sw k p c = mpW k p c 20 := by
  unfold mpI
  rw [if_neg (by omega), if_neg (by omega), if_neg (by omega), if_neg (by omega), if_neg (by omega), if_neg (by omega), if_neg (by omega), if_neg (by omega), if_pos ⟨h, hA⟩]
theorem mon_pl {f : Nat → Nat → Res} {b : Nat} (hV : ∀ k, S k ≠ 39 → V k = 0) (h1 : ¬ (S k = 36 ∨ S k = 33 ∨ S k = 10 ∨ S k = 11 ∨ S k = 12)) (h2 : S k = 18 → ¬ (mpO p = 41 ∧ mpH p ≤ 3)) (hp : p.length ≤ 150) (he : f k b = plainR S V sw k)
    (K : (f k b).f = 0 → Mpx S V sw T ((f k b).k, (mpS 7 p (c ++ (f k b).cm)).1, true, (mpS 7 p (c ++ (f k b).cm)).2)) (F : (f k b).f ≠ 0 → T.1 = (f k b).f ∧ T.2.1 = (f k b).k) : Mpx S V sw T (k, p, false, c) := by
  rw [he] at K F
  obtain ⟨g1, g2⟩ := mpI_pl (sw := sw) (p := p) (c := c) hV h1 h2
  by_cases q : (plainR S V sw k).f = 0
  · obtain ⟨a1, a2⟩ := g1 q
    have K := K q
    rw [a1] at K
    exact Mpx.go hp ((mpM_i k p c).trans a2) K
  · obtain ⟨a1, a2⟩ := g2 q
    have F := F q
    rw [a1] at F
    exact Mpx.fl hp ((mpM_i k p c).trans a2) q F
theorem mon_one0 (hV : ∀ k, S k ≠ 39 → V k = 0) : MON S V sw (one0 S V sw) 0 := by
  intro k b p c T hz h18 hN hL K F
  by_cases c1 : ¬ (S k = 36 ∨ S k = 33 ∨ S k = 10 ∨ S k = 11 ∨ S k = 12)
  · exact mon_pl (f := one0 S V sw) (b := b) hV c1 h18 (by omega) (if_pos c1) K F
  · have e : one0 S V sw k b = rF 3 k := if_neg c1
    rw [e] at F
    refine Mpx.fl (f := 3) (g' := (k, p, false, c)) (by show p.length ≤ 150; omega) ?_ (by decide) (F (by show ¬ 3 = 0; decide))
    rw [mpM_i, mpI_op (Decidable.not_not.mp c1)]
    unfold mpW
    rw [if_pos (by omega)]
theorem mok_ask0 (hV : ∀ k, S k ≠ 39 → V k = 0) (hN : ∀ k, Nz S k → k ≤ 300) : MOK S V sw (ask0 S V sw) (fun _ p => Mca 0 p) MT2 3 3 Mj2 := by
  have hc := ((mon_one0 (S := S) (V := V) (sw := sw) hV).sum gdF_one0 hN).cmp gdF_one0.sum
  intro k b p c T hz hC K F
  by_cases q : S k = 18
  · have e : ask0 S V sw k b = rF 3 k := if_pos q
    rw [e] at F
    refine Mpx.fl (f := 3) (g' := (k, p, false, c)) (by have := hC.2.2.2; show p.length ≤ 150; omega) ?_ (by decide) (F (by show ¬ 3 = 0; decide))
    rw [mpM_i, mpI_nt q ⟨hC.1, hC.2.1⟩]
    unfold mpW
    rw [if_pos (by have := hC.2.2.1; omega)]
  · have e : ask0 S V sw k b = cmpR S (sumR S (one0 S V sw)) k b := if_neg q
    rw [e] at K F
    exact hc k b p c T hz ⟨q, hC⟩ (fun q0 p' c' hl => K q0 p' c' (hl.wk (by decide) (Nat.le_refl _))) F
theorem mok_askS {P : (Nat → Nat → Res) × (Nat → Nat → Res)} (hV : ∀ k, S k ≠ 39 → V k = 0) (hN : ∀ k, Nz S k → k ≤ 300) (h1 : MON S V sw (oneS S V sw P) (L + 1)) (h2 : MOK S V sw P.2 (fun _ p => Mca L p) MT2 3 (3 + L) Mj2) (g1 : GdF S P.1) (g2 : GdF S P.2) : MOK S V sw (askS S V sw P) (fun _ p => Mca (L + 1) p) MT2 3 (3 + (L + 1)) Mj2 := by
  have hg := gdF_oneS (V := V) (sw := sw) g1 g2
  have hc := (h1.sum hg hN).cmp hg.sum
  intro k b p c T hz hC K F
  have hC4 := hC.2.2.2
  have hC3 := hC.2.2.1
  by_cases q : S k = 18
  · have e : askS S V sw P k b = unR (P.2 (k + 1) b) 20 18 := if_pos q
    rw [e] at K F
    have hw : mpM S V sw (k, p, false, c) = (0, k + 1, 20 :: p, false, c) := by
      rw [mpM_i, mpI_nt q ⟨hC.1, hC.2.1⟩]
      unfold mpW
      rw [if_neg (by omega)]
    refine Mpx.go (by show p.length ≤ 150; omega) hw ?_
    refine h2 (k + 1) b _ _ T (hz.s (by omega)) ⟨(mpO_c (by decide)).trans hC.1, by show mpR 20 ≤ 3; decide, by rw [mpN_o (Or.inr (Or.inr rfl))]; omega, by show p.length + 1 + 1 ≤ _; omega⟩ ?_ ?_
    · intro q0 p' c' hl he hj
      have eu := unR_ok (o := 20) (s := 18) q0
      rw [eu] at K
      refine K rfl p' c' ?_ he hj
      show Mlg 3 (3 + (L + 1)) p (c ++ ((P.2 (k + 1) b).cm ++ [(20, 0)])) p' c'
      rw [← List.append_assoc]
      exact hl.push (by decide) (by decide)
    · intro q0
      have eu : unR (P.2 (k + 1) b) 20 18 = P.2 (k + 1) b := if_pos q0
      rw [eu] at F
      exact F q0
  · have e : askS S V sw P k b = cmpR S (sumR S (oneS S V sw P)) k b := if_neg q
    rw [e] at K F
    exact hc k b p c T hz ⟨q, hC⟩ (fun q0 p' c' hl => K q0 p' c' (hl.wk (by decide) (by omega))) F
end MPr
