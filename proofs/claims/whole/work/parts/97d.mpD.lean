section MPs
variable {S V : Nat → Nat} {sw : Nat} {p p' : List Nat} {c c' : Cd} {T : Nat × Nat × Cd} {n m k L : Nat}
theorem mpW_go {o : Nat} (h : mpN p ≠ 8) : mpW k p c o = (0, k + 1, o :: p, false, c) := if_neg h
/-- behind a sum or an ask inside what is open: what comes of the token -/
theorem mp_part {o x m' m2 k2 : Nat} {c2 : Cd} (hl : Mlg m' m2 (o :: p) c2 p' c') (hm : 1 ≤ m') (ho : 40 ≤ o) (hB : mpB p' (S k2) = 0) (hT : mpT o p' (S k2) = x) :
    (x = 0 → mpM S V sw (k2, p', true, c') = (1 + 1, k2, p', true, c')) ∧
    (1 < x → mpM S V sw (k2, p', true, c') = (0, k2 + 1, (x - 1) :: p, false, c2)) ∧
    (x = 1 → mpM S V sw (k2, p', true, c') = (0, k2 + 1, (mpS 7 p (c2 ++ (if o = 43 then [(3, 0)] else []))).1, true, (mpS 7 p (c2 ++ (if o = 43 then [(3, 0)] else []))).2)) := by
  have hO : mpO p' = o := (hl.opO hm).trans (mpO_o ho)
  have h0 : mpR o = 0 := if_pos ho
  have hs : mpS 1 p' c' = (o :: p, c2) := by rw [hl.stl hm, mpS_ctx (show mpR o < 1 by omega)]
  refine ⟨fun e => mpD_f hB (by rw [hO, hT, e]) (by omega), fun e => ?_, fun e => ?_⟩
  · rw [mpM_d]; unfold mpD
    rw [if_neg (fun z => z hB), hO, hT, if_neg (by omega), if_pos e, hs]
    rfl
  · rw [mpM_d]; unfold mpD
    rw [if_neg (fun z => z hB), hO, hT, if_neg (by omega), if_neg (by omega), hs]
    rfl
theorem mpB_sh {o s : Nat} (hO : mpO p = o) (ho : o ≠ 41) (hs : ¬ (32 ≤ s ∧ s ≤ 35)) : mpB p s = 0 := by unfold mpB; rw [if_neg hs, if_pos (by omega)]
theorem mpB_as {s : Nat} (hO : mpO p = 41) (hC : mpC p = true) (hs : ¬ (32 ≤ s ∧ s ≤ 35)) (h1 : s ≠ 17) (h2 : s ≠ 16) : mpB p s = 0 := by
  unfold mpB; rw [if_neg hs, if_neg (fun z => z hO), if_neg (by rw [hC]; decide), if_neg h1, if_neg h2]
theorem Mcc.op {o k' : Nat} (ho : 40 ≤ o) (h41 : o ≠ 41) (hN : mpN p + (L + 1) = 8) (hL : p.length ≤ 6 * (8 - (L + 1)) + 2) : Mcc S L 0 5 k' (o :: p) :=
  ⟨fun _ q => h41 ((mpO_o ho).symm.trans q.1), by rw [mpN_o (Or.inl ho)]; omega, by show p.length + 1 ≤ _; omega, by show mpR o < 5; unfold mpR; rw [if_pos ho]; decide⟩
theorem mon_par {sm : Nat → Nat → Res} (h : MOK S V sw sm (Mcc S L 0 5) MT1 5 2 Mj2) {b : Nat} (hz : Nz S k) (hk : S k = 36) (hN : mpN p + (L + 1) = 8) (hL : p.length ≤ 6 * (8 - (L + 1)) + 2)
    (K : (parR S (sm (k + 1) b)).f = 0 → Mpx S V sw T ((parR S (sm (k + 1) b)).k, (mpS 7 p (c ++ (parR S (sm (k + 1) b)).cm)).1, true, (mpS 7 p (c ++ (parR S (sm (k + 1) b)).cm)).2)) (F : (parR S (sm (k + 1) b)).f ≠ 0 → T.1 = (parR S (sm (k + 1) b)).f ∧ T.2.1 = (parR S (sm (k + 1) b)).k) : Mpx S V sw T (k, p, false, c) := by
  have hw : mpM S V sw (k, p, false, c) = (0, k + 1, 40 :: p, false, c) := by
    rw [mpM_i, mpI_op (Or.inl hk), if_pos hk, mpW_go (by omega)]
  refine Mpx.go (by show p.length ≤ 150; omega) hw ?_
  refine h (k + 1) b _ _ T (hz.s (by omega)) (Mcc.op (by decide) (by decide) hN hL) ?_ ?_
  · intro q0 p' c' hl _ hj
    generalize sm (k + 1) b = r at *
    have hln := hl.len
    have hln : p'.length ≤ p.length + 1 + 2 := hln
    have hO : mpO p' = 40 := (hl.opO (by decide)).trans (mpO_o (by decide))
    have hB : mpB p' (S r.k) = 0 := mpB_sh hO (by decide) hj.no
    unfold parR at K F
    rw [if_neg (fun z => z q0)] at K F
    by_cases h2 : S r.k ≠ 37
    · rw [if_pos h2] at F
      exact Mpx.fl (f := 1) (by show p'.length ≤ 150; omega) ((mp_part hl (by decide) (by decide) hB (x := 0) (by unfold mpT; rw [if_pos rfl, if_neg h2])).1 rfl) (by decide) (F (by show ¬ 1 = 0; decide))
    · rw [if_neg h2] at K
      have h2 := Decidable.not_not.mp h2
      refine Mpx.go (by show p'.length ≤ 150; omega) ((mp_part hl (by decide) (by decide) hB (x := 1) (by unfold mpT; rw [if_pos rfl, if_pos h2])).2.2 rfl) ?_
      rw [if_neg (by decide), List.append_nil]
      exact K rfl
  · intro q0
    have e : parR S (sm (k + 1) b) = sm (k + 1) b := if_pos q0
    rw [e] at F
    exact F q0
theorem mon_if {ei sm : Nat → Nat → Res} (hE : MOK S V sw ei (fun _ p => mpO p = 41 ∧ mpH p < 1 ∧ mpN p + L = 8 ∧ p.length + 3 ≤ 6 * (8 - L)) MT2 1 (3 + L + 1 + 1) Mj4) (h : MOK S V sw sm (Mcc S L 0 5) MT1 5 2 Mj2) (gE : GdF S ei) (gS : GdF S sm) {b : Nat} (hz : Nz S k) (hk : S k = 12) (hN : mpN p + (L + 1) = 8) (hL : p.length ≤ 6 * (8 - (L + 1)) + 2)
    (K : (ifR S ei sm (k + 1) b).f = 0 → Mpx S V sw T ((ifR S ei sm (k + 1) b).k, (mpS 7 p (c ++ (ifR S ei sm (k + 1) b).cm)).1, true, (mpS 7 p (c ++ (ifR S ei sm (k + 1) b).cm)).2)) (F : (ifR S ei sm (k + 1) b).f ≠ 0 → T.1 = (ifR S ei sm (k + 1) b).f ∧ T.2.1 = (ifR S ei sm (k + 1) b).k) : Mpx S V sw T (k, p, false, c) := by
  have hw : mpM S V sw (k, p, false, c) = (0, k + 1, 41 :: p, false, c) := by
    rw [mpM_i, mpI_op (by omega), if_neg (by omega), if_neg (by omega), if_neg (by omega), if_neg (by omega), mpW_go (by omega)]
  refine Mpx.go (by show p.length ≤ 150; omega) hw ?_
  have hz1 := hz.s (show S k ≠ 40 by omega)
  have ge := gE (k + 1) b
  refine hE (k + 1) b _ _ T hz1 ⟨mpO_o (by decide), by show mpR 41 < 1; decide, by rw [mpN_o (Or.inl (by decide))]; omega, by show p.length + 1 + 3 ≤ _; omega⟩ ?_ ?_
  · intro q0 p' c' hl he hj
    unfold ifR at K F
    generalize ei (k + 1) b = e at *
    have hln : p'.length ≤ p.length + 1 + (3 + L + 1 + 1) := hl.len
    have hO : mpO p' = 41 := (hl.opO (by decide)).trans (mpO_o (by decide))
    have hB : mpB p' (S e.k) = 0 := mpB_as hO he hj.1.1.no (fun z => by have := hj.1.2; rw [z] at this; exact absurd this (by decide)) (fun z => by have := hj.2; rw [z] at this; exact absurd this (by decide))
    rw [if_neg (fun z => z q0)] at K F
    by_cases h2 : S e.k ≠ 13
    · rw [if_pos h2] at F
      exact Mpx.fl (f := 1) (by show p'.length ≤ 150; omega) ((mp_part hl (by decide) (by decide) hB (x := 0) (by unfold mpT; rw [if_neg (by decide), if_pos rfl, if_neg (fun z => h2 z.1)])).1 rfl) (by decide) (F (by show ¬ 1 = 0; decide))
    · rw [if_neg h2] at K F
      have h2 := Decidable.not_not.mp h2
      refine Mpx.go (by show p'.length ≤ 150; omega) ((mp_part hl (by decide) (by decide) hB (x := 43) (by unfold mpT; rw [if_neg (by decide), if_pos rfl, if_pos ⟨h2, he⟩])).2.1 (by decide)) ?_
      have hz2 := (hz1.gd ge).s (show S e.k ≠ 40 by omega)
      unfold if2 at K F
      have gs := gS (e.k + 1) (b + e.cc.length + 1)
      refine h (e.k + 1) (b + e.cc.length + 1) _ _ T hz2 (Mcc.op (by decide) (by decide) hN hL) ?_ ?_
      · intro q1 p2 c2 hl2 _ hj2
        generalize sm (e.k + 1) (b + e.cc.length + 1) = r1 at *
        have hln2 : p2.length ≤ p.length + 1 + 2 := hl2.len
        have hO2 : mpO p2 = 42 := (hl2.opO (by decide)).trans (mpO_o (by decide))
        have hB2 : mpB p2 (S r1.k) = 0 := mpB_sh hO2 (by decide) hj2.no
        rw [if_neg (fun z => z q1)] at K F
        by_cases h3 : S r1.k ≠ 14
        · rw [if_pos h3] at F
          exact Mpx.fl (f := 1) (by show p2.length ≤ 150; omega) ((mp_part hl2 (by decide) (by decide) hB2 (x := 0) (by unfold mpT; rw [if_neg (by decide), if_neg (by decide), if_pos rfl, if_neg h3])).1 rfl) (by decide) (F (by show ¬ 1 = 0; decide))
        · rw [if_neg h3] at K F
          have h3 := Decidable.not_not.mp h3
          refine Mpx.go (by show p2.length ≤ 150; omega) ((mp_part hl2 (by decide) (by decide) hB2 (x := 44) (by unfold mpT; rw [if_neg (by decide), if_neg (by decide), if_pos rfl, if_pos h3])).2.1 (by decide)) ?_
          have hz3 := (hz2.gd gs).s (show S r1.k ≠ 40 by omega)
          unfold if3 at K F
          refine h (r1.k + 1) (b + e.cc.length + 1 + r1.cc.length + 1) _ _ T hz3 (Mcc.op (by decide) (by decide) hN hL) ?_ ?_
          · intro q2 p3 c3 hl3 _ hj3
            generalize sm (r1.k + 1) (b + e.cc.length + 1 + r1.cc.length + 1) = r2 at *
            have hln3 : p3.length ≤ p.length + 1 + 2 := hl3.len
            have hO3 : mpO p3 = 43 := (hl3.opO (by decide)).trans (mpO_o (by decide))
            have hB3 : mpB p3 (S r2.k) = 0 := mpB_sh hO3 (by decide) hj3.no
            rw [if_neg (fun z => z q2)] at K F
            by_cases h4 : S r2.k ≠ 15
            · rw [if_pos h4] at F
              exact Mpx.fl (f := 1) (by show p3.length ≤ 150; omega) ((mp_part hl3 (by decide) (by decide) hB3 (x := 0) (by unfold mpT; rw [if_neg (by decide), if_neg (by decide), if_neg (by decide), if_pos rfl, if_neg h4])).1 rfl) (by decide) (F (by show ¬ 1 = 0; decide))
            · rw [if_neg h4] at K
              have h4 := Decidable.not_not.mp h4
              refine Mpx.go (by show p3.length ≤ 150; omega) ((mp_part hl3 (by decide) (by decide) hB3 (x := 1) (by unfold mpT; rw [if_neg (by decide), if_neg (by decide), if_neg (by decide), if_pos rfl, if_pos h4])).2.2 rfl) ?_
              have ec : c ++ e.cm ++ r1.cm ++ r2.cm ++ [(3, 0)] = c ++ (e.cm ++ r1.cm ++ r2.cm ++ [(3, 0)]) := by simp only [List.append_assoc]
              rw [if_pos rfl, ec]
              exact K rfl
          · intro q2
            rw [if_pos q2] at F
            exact F q2
      · intro q1
        rw [if_pos q1] at F
        exact F q1
  · intro q0
    have e : ifR S ei sm (k + 1) b = ei (k + 1) b := if_pos q0
    rw [e] at F
    exact F q0
theorem mon_un {f : Nat → Nat → Res} (h : MON S V sw f L) {b : Nat} (hz : Nz S k) (hk : S k = 33 ∨ S k = 10 ∨ S k = 11) (hN : mpN p + (L + 1) = 8) (hL : p.length ≤ 6 * (8 - (L + 1)) + 2) {s : Nat}
    (K : (unR (f (k + 1) b) (unO (S k)) s).f = 0 → Mpx S V sw T ((unR (f (k + 1) b) (unO (S k)) s).k, (mpS 7 p (c ++ (unR (f (k + 1) b) (unO (S k)) s).cm)).1, true, (mpS 7 p (c ++ (unR (f (k + 1) b) (unO (S k)) s).cm)).2)) (F : (unR (f (k + 1) b) (unO (S k)) s).f ≠ 0 → T.1 = (unR (f (k + 1) b) (unO (S k)) s).f ∧ T.2.1 = (unR (f (k + 1) b) (unO (S k)) s).k) : Mpx S V sw T (k, p, false, c) := by
  have hw : mpM S V sw (k, p, false, c) = (0, k + 1, unO (S k) :: p, false, c) := by
    rw [mpM_i, mpI_op (by omega), if_neg (by omega), mpW_go (by omega)]
    unfold unO
    rcases hk with e | e | e <;> rw [e] <;> rfl
  have h7 : mpR (unO (S k)) = 7 := by
    rcases hk with e | e | e <;> rw [e] <;> rfl
  refine Mpx.go (by show p.length ≤ 150; omega) hw ?_
  refine h (k + 1) b _ _ T (hz.s (by omega)) (fun _ q => by have : mpR (unO (S k)) ≤ 3 := q.2; omega) (by rw [mpN_o (Or.inr (Or.inl h7))]; omega) (by show p.length + 1 ≤ _; omega) ?_ ?_
  · intro q0
    rw [unR_ok q0] at K
    rw [mpS_7 h7, List.append_assoc]
    exact K rfl
  · intro q0
    have e : unR (f (k + 1) b) (unO (S k)) s = f (k + 1) b := if_pos q0
    rw [e] at F
    exact F q0
theorem mon_oneS {P : (Nat → Nat → Res) × (Nat → Nat → Res)} (hV : ∀ k, S k ≠ 39 → V k = 0) (hNz : ∀ k, Nz S k → k ≤ 300) (h1 : MON S V sw P.1 L) (h2 : MOK S V sw P.2 (fun _ p => Mca L p) MT2 3 (3 + L) Mj2) (g1 : GdF S P.1) (g2 : GdF S P.2) : MON S V sw (oneS S V sw P) (L + 1) := by
  intro k b p c T hz h18 hN hL K F
  by_cases c1 : ¬ (S k = 36 ∨ S k = 33 ∨ S k = 10 ∨ S k = 11 ∨ S k = 12)
  · exact mon_pl (f := oneS S V sw P) (b := b) hV c1 h18 (by omega) (if_pos c1) K F
  · have e1 : oneS S V sw P k b = (if S k = 36 then parR S (sumR S P.1 (k + 1) b) else if S k = 12 then ifR S (eitherR S P.2) (sumR S P.1) (k + 1) b else unR (P.1 (k + 1) b) (unO (S k)) (unC (S k))) := if_neg c1
    rw [e1] at K F
    by_cases c2 : S k = 36
    · rw [if_pos c2] at K F
      exact mon_par (h1.sum g1 hNz) hz c2 hN hL K F
    · rw [if_neg c2] at K F
      by_cases c3 : S k = 12
      · rw [if_pos c3] at K F
        exact mon_if (h2.either g2 hNz) (h1.sum g1 hNz) g2.either g1.sum hz c3 hN hL K F
      · rw [if_neg c3] at K F
        exact mon_un h1 hz (by omega) hN hL K F
theorem mp_RDF (hV : ∀ k, S k ≠ 39 → V k = 0) (hN : ∀ k, Nz S k → k ≤ 300) (L : Nat) : MON S V sw (RDF S V sw L).1 L ∧ MOK S V sw (RDF S V sw L).2 (fun _ p => Mca L p) MT2 3 (3 + L) Mj2 := by
  induction L with
  | zero => exact ⟨mon_one0 hV, mok_ask0 hV hN⟩
  | succ L ih =>
    have g := gdF_RDF (S := S) (V := V) (sw := sw) L
    have h1 := mon_oneS hV hN ih.1 ih.2 g.1 g.2
    exact ⟨h1, mok_askS hV hN h1 ih.2 g.1 g.2⟩
theorem mp_sum (hV : ∀ k, S k ≠ 39 → V k = 0) (hN : ∀ k, Nz S k → k ≤ 300) (hz : Nz S k) (b : Nat) : Mpx S V sw ((sumR S (RDF S V sw 8).1 k b).f, (sumR S (RDF S V sw 8).1 k b).k, (sumR S (RDF S V sw 8).1 k b).cm) (k, [], false, []) := by
  have h := (mp_RDF (S := S) (V := V) (sw := sw) hV hN 8).1.sum (gdF_RDF 8).1 hN
  refine h k b [] [] _ hz ⟨fun _ q => absurd q.1 (by decide), rfl, Nat.zero_le _, by decide⟩ ?_ (fun _ => ⟨rfl, rfl⟩)
  intro q0 p' c' hl _ hj
  generalize sumR S (RDF S V sw 8).1 k b = r at *
  have hO : mpO p' = 0 := hl.opO (by decide)
  have hln : p'.length ≤ 0 + 2 := hl.len
  have hs : mpM S V sw (r.k, p', true, c') = (1, r.k, [], true, r.cm) := by
    rw [mpM_d]; unfold mpD
    rw [if_neg (fun z => z (mpB_sh hO (by decide) hj.no)), hO, if_pos (show mpT 0 p' (S r.k) = 0 from rfl), if_neg (show ¬ (0 ≠ 0) from fun z => z rfl), hl.stl (by decide)]
    rfl
  exact Mpx.en (by show p'.length ≤ 150; omega) hs (by rw [q0])
end MPs
