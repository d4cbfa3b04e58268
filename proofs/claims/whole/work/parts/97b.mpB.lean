section MPq
variable {S V : Nat → Nat} {sw : Nat} {p p' : List Nat} {c c' : Cd} {T : Nat × Nat × Cd} {n m k L : Nat}
def MON (S V : Nat → Nat) (sw : Nat) (f : Nat → Nat → Res) (L : Nat) : Prop :=
  ∀ k b p c T, Nz S k → (S k = 18 → ¬ (mpO p = 41 ∧ mpH p ≤ 3)) → mpN p + L = 8 → p.length ≤ 6 * (8 - L) + 2 → ((f k b).f = 0 → Mpx S V sw T ((f k b).k, (mpS 7 p (c ++ (f k b).cm)).1, true, (mpS 7 p (c ++ (f k b).cm)).2)) → ((f k b).f ≠ 0 → T.1 = (f k b).f ∧ T.2.1 = (f k b).k) → Mpx S V sw T (k, p, false, c)
def Mcc (S : Nat → Nat) (L e h k : Nat) (p : List Nat) : Prop := (S k = 18 → ¬ (mpO p = 41 ∧ mpH p ≤ 3)) ∧ mpN p + L = 8 ∧ p.length ≤ 6 * (8 - L) + e ∧ mpH p < h
def Mca (L : Nat) (p : List Nat) : Prop := mpO p = 41 ∧ mpH p ≤ 3 ∧ mpN p + L = 8 ∧ p.length + 1 ≤ 6 * (8 - L)
def MT1 (_ : List Nat) : Prop := True
def MT2 (p : List Nat) : Prop := mpC p = true
def Mj0 (_ : Nat) : Prop := True
def Mj1 (s : Nat) : Prop := Mj0 s ∧ jMul s = false
def Mj2 (s : Nat) : Prop := Mj1 s ∧ jAdd s = false
theorem Mj2.no {s : Nat} (h : Mj2 s) : ¬ (32 ≤ s ∧ s ≤ 35) := fun q => by
  have h1 := h.1.2
  have h2 := h.2
  unfold jMul at h1
  unfold jAdd at h2
  have a := of_decide_eq_false h1
  have b := of_decide_eq_false h2
  omega
theorem MON.ok {f : Nat → Nat → Res} (h : MON S V sw f L) : MOK S V sw f (Mcc S L 2 7) MT1 7 0 Mj0 := by
  intro k b p c T hz hC K F
  refine h k b p c T hz hC.1 hC.2.1 hC.2.2.1 (fun q => ?_) F
  rw [mpS_ctx hC.2.2.2]
  exact K q p _ Mlg.rf trivial trivial
theorem mpB_bi {s : Nat} (h : 32 ≤ s ∧ s ≤ 35) : mpB p s = s - 26 := if_pos h
theorem mpO_c {o : Nat} (h : o < 40) : mpO (o :: p) = mpO p := by unfold mpO; rw [mpL, if_neg (by omega)]
theorem mpO_o {o : Nat} (h : 40 ≤ o) : mpO (o :: p) = o := by unfold mpO; rw [mpL, if_pos h]; rfl
theorem Mcc.psh {e h o k k' : Nat} (hc : Mcc S L e h k p) (ho : o = 6 ∨ o = 7 ∨ o = 8 ∨ o = 9) : Mcc S L (e + 1) (mpR o + 1) k' (o :: p) := by
  obtain ⟨-, h2, h3, -⟩ := hc
  refine ⟨fun _ q => ?_, ?_, by show p.length + 1 ≤ _; omega, Nat.lt_succ_self _⟩
  · have q2 : mpR o ≤ 3 := q.2
    rcases ho with rfl | rfl | rfl | rfl <;> exact absurd q2 (by decide)
  · rcases ho with rfl | rfl | rfl | rfl <;> exact h2
theorem Mcc.wk {e h e' h' k : Nat} (hc : Mcc S L e h k p) (he : e ≤ e') (hh : h ≤ h') : Mcc S L e' h' k p := ⟨hc.1, hc.2.1, Nat.le_trans hc.2.2.1 (by omega), Nat.lt_of_lt_of_le hc.2.2.2 hh⟩
theorem MON.prod {f : Nat → Nat → Res} (h : MON S V sw f L) (hG : GdF S f) (hN : ∀ k, Nz S k → k ≤ 300) : MOK S V sw (prodR S f) (Mcc S L 1 6) MT1 6 1 Mj1 := by
  refine MOK.chn (n := 7) (m := 0) (JF := Mj0) (CF := Mcc S L 2 7) (r := 6) h.ok hG hN (by decide) (fun s hs => ?_) (fun k p hC => ⟨hC.2.2.2, ?_, fun s hs k' => ?_, fun s hs c p' c' _ _ => ?_⟩) (fun k p hC => hC.wk (by decide) (by decide))
  · rcases jMul_iff.mp hs with rfl | rfl <;> decide
  · have := hC.2.2.1; omega
  · rcases jMul_iff.mp hs with rfl | rfl <;> exact hC.psh (by decide)
  · rcases jMul_iff.mp hs with rfl | rfl <;> exact mpB_bi (by decide)
theorem MON.sum {f : Nat → Nat → Res} (h : MON S V sw f L) (hG : GdF S f) (hN : ∀ k, Nz S k → k ≤ 300) : MOK S V sw (sumR S f) (Mcc S L 0 5) MT1 5 2 Mj2 := by
  refine MOK.chn (n := 6) (m := 1) (JF := Mj1) (CF := Mcc S L 1 6) (r := 5) (h.prod hG hN) hG.prod hN (by decide) (fun s hs => ?_) (fun k p hC => ⟨hC.2.2.2, ?_, fun s hs k' => ?_, fun s hs c p' c' _ _ => ?_⟩) (fun k p hC => hC.wk (by decide) (by decide))
  · rcases jAdd_iff.mp hs with rfl | rfl <;> decide
  · have := hC.2.2.1; omega
  · rcases jAdd_iff.mp hs with rfl | rfl <;> exact hC.psh (by decide)
  · rcases jAdd_iff.mp hs with rfl | rfl <;> exact mpB_bi (by decide)
theorem mpC_0 (h : mpH p ≤ 3) : mpC p = false := by
  cases p with
  | nil => rfl
  | cons o p =>
    have h : mpR o ≤ 3 := h
    rw [mpC, if_neg (by omega)]
    exact decide_eq_false (by omega)
theorem mpC_1 {o : Nat} (h : mpR o = 4) : mpC (o :: p) = true := by rw [mpC, if_neg (by omega)]; exact decide_eq_true h
theorem cmO_rg {s : Nat} (h : 26 ≤ s ∧ s ≤ 31) : 10 ≤ cmO s ∧ cmO s ≤ 15 := by
  rcases (show s = 26 ∨ s = 27 ∨ s = 28 ∨ s = 29 ∨ s = 30 ∨ s = 31 by omega) with rfl | rfl | rfl | rfl | rfl | rfl <;> decide
theorem mpR_4 {o : Nat} (h : 10 ≤ o ∧ o ≤ 15) : mpR o = 4 := by
  unfold mpR
  rw [if_neg (by omega), if_neg (by omega), if_neg (by omega), if_neg (by omega), if_pos h.1]
theorem mpN_c {o : Nat} (h : o < 40) (h7 : mpR o ≠ 7) (h2 : o ≠ 20) : mpN (o :: p) = mpN p := by rw [mpN, if_neg (by omega), Nat.add_zero]
theorem mpN_o {o : Nat} (h : 40 ≤ o ∨ mpR o = 7 ∨ o = 20) : mpN (o :: p) = mpN p + 1 := by rw [mpN, if_pos h]
theorem mpM_d (k : Nat) (p : List Nat) (c : Cd) : mpM S V sw (k, p, true, c) = mpD S k p c := if_pos rfl
theorem mpM_i (k : Nat) (p : List Nat) (c : Cd) : mpM S V sw (k, p, false, c) = mpI S V sw k p c := if_neg Bool.false_ne_true
theorem mpD_f (hB : mpB p (S k) = 0) (hT : mpT (mpO p) p (S k) = 0) (hO : mpO p ≠ 0) : mpM S V sw (k, p, true, c) = (1 + 1, k, p, true, c) := by
  rw [mpM_d]; unfold mpD; rw [if_neg (fun q => q hB), if_pos hT, if_pos hO]
theorem MOK.cmp {sm : Nat → Nat → Res} (h : MOK S V sw sm (Mcc S L 0 5) MT1 5 2 Mj2) (hG : GdF S sm) : MOK S V sw (cmpR S sm) (fun k p => S k ≠ 18 ∧ Mca L p) MT2 4 3 Mj2 := by
  intro k b p c T hz hC K F
  obtain ⟨h18, hO, hH, hNp, hLn⟩ := hC
  unfold cmpR at K F
  refine h k b p c T hz ⟨fun q => absurd q h18, hNp, by omega, by omega⟩ ?_ ?_
  · intro q0 p' c' hl _ hj
    have hg := hG k b
    generalize sm k b = r at *
    have hO' := (hl.opO (by decide)).trans hO
    have hC' := (hl.isC (Nat.le_refl 5)).trans (mpC_0 hH)
    have hln := hl.len
    rw [if_neg (fun z => z q0)] at K F
    by_cases hc : 26 ≤ S r.k ∧ S r.k ≤ 31
    · rw [if_neg (fun z => z hc)] at K F
      have c4 := cmO_rg hc
      have r4 := mpR_4 c4
      have hB : mpB p' (S r.k) = cmO (S r.k) := by
        unfold mpB
        rw [if_neg hj.no, if_neg (fun z => z hO'), if_pos hC', if_pos hc]
      have hs : mpM S V sw (r.k, p', true, c') = (0, r.k + 1, cmO (S r.k) :: p, false, c ++ r.cm) := by
        rw [mpM_d]
        unfold mpD
        rw [hB, if_pos (by omega), show mpJ (cmO (S r.k)) = 5 from if_pos r4, hl.stl (Nat.le_refl 5), mpS_ctx (by omega)]
      refine Mpx.go (by show p'.length ≤ 150; omega) hs ?_
      have hz2 := (hz.gd hg).s (show S r.k ≠ 40 by omega)
      refine h (r.k + 1) (b + r.cc.length) _ _ T hz2 ⟨fun _ q => by have q2 : mpR (cmO (S r.k)) ≤ 3 := q.2; omega, by rw [mpN_c (by omega) (by omega) (by omega)]; exact hNp, by show p.length + 1 ≤ _; omega, by show mpR _ < 5; omega⟩ ?_ ?_
      · intro q1 p2 c2 hl2 _ hj2
        obtain ⟨a1, a2, a3⟩ := addR_cm (r := r) (o := cmO (S r.k)) (s := S r.k) q1
        generalize addR r (sm (r.k + 1) (b + r.cc.length)) (cmO (S r.k)) (S r.k) = r1 at *
        rw [← a2]
        refine K a1 p2 c2 ?_ ((hl2.isC (Nat.le_refl 5)).trans (mpC_1 r4)) (by rw [a2]; exact hj2)
        rw [a3, ← List.append_assoc, ← List.append_assoc]
        exact hl2.push (by omega) (by decide)
      · intro q1
        have e : addR r (sm (r.k + 1) (b + r.cc.length)) (cmO (S r.k)) (S r.k) = sm (r.k + 1) (b + r.cc.length) := by unfold addR; rw [if_neg q1]
        rw [e] at F
        exact F q1
    · rw [if_pos hc] at K F
      refine Mpx.fl (f := 1) (by show p'.length ≤ 150; omega) (mpD_f ?_ ?_ (by omega)) (by decide) (F (by show 1 ≠ 0; decide))
      · unfold mpB
        rw [if_neg hj.no, if_neg (fun z => z hO'), if_pos hC', if_neg hc]
      · rw [hO']
        unfold mpT
        rw [if_neg (by decide), if_pos rfl, hC', if_neg (fun z => Bool.noConfusion z.2)]
  · intro q0
    rw [if_pos q0] at F
    exact F q0
def Mj3 (s : Nat) : Prop := Mj2 s ∧ jAnd s = false
def Mj4 (s : Nat) : Prop := Mj3 s ∧ jOr s = false
def Mcb (L h : Nat) (p : List Nat) : Prop := mpO p = 41 ∧ mpH p < h ∧ mpN p + L = 8 ∧ p.length + h ≤ 6 * (8 - L)
theorem mpB_j {s : Nat} (hO : mpO p = 41) (hC : mpC p = true) (hs : s = 16 ∨ s = 17) : mpB p s = if s = 17 then 21 else 22 := by
  unfold mpB
  rw [if_neg (by omega), if_neg (fun z => z hO), if_neg (by rw [hC]; decide)]
  rcases hs with rfl | rfl <;> rfl
theorem MOK.both {f : Nat → Nat → Res} (h : MOK S V sw f (fun _ p => Mca L p) MT2 3 (3 + L) Mj2) (hG : GdF S f) (hN : ∀ k, Nz S k → k ≤ 300) : MOK S V sw (bothR S f) (fun _ p => mpO p = 41 ∧ mpH p < 2 ∧ mpN p + L = 8 ∧ p.length + 2 ≤ 6 * (8 - L)) MT2 2 (3 + L + 1) Mj3 := by
  refine MOK.chn (n := 3) (m := 3 + L) (JF := Mj2) (CF := fun _ p => Mca L p) (r := 2) h hG hN (by decide) (fun s hs => ?_) (fun k p hC => ?_) (fun k p hC => ⟨hC.1, by have := hC.2.1; omega, hC.2.2.1, by have := hC.2.2.2; omega⟩)
  · rw [jAnd_iff.mp hs]; decide
  · obtain ⟨a1, a2, a3, a4⟩ := hC
    refine ⟨a2, by omega, fun s hs k' => ⟨(mpO_c (o := 21) (by decide)).trans a1, by show mpR 21 ≤ 3; decide, by show mpN (21 :: p) + L = 8; rw [mpN_c (by decide) (by decide) (by decide)]; exact a3, by show p.length + 1 + 1 ≤ _; omega⟩, fun s hs c p' c' hl he => ?_⟩
    have e := jAnd_iff.mp hs
    rw [mpB_j ((hl.opO (by decide)).trans a1) he (Or.inr e), if_pos e]
    rfl
theorem MOK.either {f : Nat → Nat → Res} (h : MOK S V sw f (fun _ p => Mca L p) MT2 3 (3 + L) Mj2) (hG : GdF S f) (hN : ∀ k, Nz S k → k ≤ 300) : MOK S V sw (eitherR S f) (fun _ p => mpO p = 41 ∧ mpH p < 1 ∧ mpN p + L = 8 ∧ p.length + 3 ≤ 6 * (8 - L)) MT2 1 (3 + L + 1 + 1) Mj4 := by
  refine MOK.chn (n := 2) (m := 3 + L + 1) (JF := Mj3) (CF := fun _ p => mpO p = 41 ∧ mpH p < 2 ∧ mpN p + L = 8 ∧ p.length + 2 ≤ 6 * (8 - L)) (r := 1) (h.both hG hN) hG.both hN (by decide) (fun s hs => ?_) (fun k p hC => ?_) (fun k p hC => ⟨hC.1, by have := hC.2.1; omega, hC.2.2.1, by have := hC.2.2.2; omega⟩)
  · rw [jOr_iff.mp hs]; decide
  · obtain ⟨a1, a2, a3, a4⟩ := hC
    refine ⟨a2, by omega, fun s hs k' => ⟨(mpO_c (o := 22) (by decide)).trans a1, by show mpR 22 < 2; decide, by show mpN (22 :: p) + L = 8; rw [mpN_c (by decide) (by decide) (by decide)]; exact a3, by show p.length + 1 + 2 ≤ _; omega⟩, fun s hs c p' c' hl he => ?_⟩
    have e := jOr_iff.mp hs
    rw [mpB_j ((hl.opO (by decide)).trans a1) he (Or.inl e), if_neg (by omega)]
    rfl
end MPq
