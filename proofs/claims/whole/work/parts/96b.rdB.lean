section RDv
theorem rF_n {n k : Nat} : ¬ (rF (n + 1) k).f = 0 := Nat.succ_ne_zero n
variable {S V : Nat → Nat} {sw : Nat}
theorem VC.bi {o s b h h2 : Nat} {c1 d1 c2 d2 : Cd} (hb : biP o s) (g1 : VC c1 d1 b h) (g2 : VC c2 d2 (b + d1.length) h2) (hl : h2 + 1 ≤ h) : VC (c1 ++ c2 ++ [(o, 0)]) (d1 ++ d2 ++ [(s, 0)]) b h := fun P Q hc => hc.2.2.2.1 o s c1 d1 c2 d2 b h h2 hb (g1 P Q hc) (g2 P Q hc) hl
theorem VC.un {o s b h : Nat} {c d : Cd} (hb : unP o s) (g : VC c d b h) : VC (c ++ [(o, 0)]) (d ++ [(s, 0)]) b h := fun P Q hc => hc.2.2.1 o s c d b h hb (g P Q hc)
theorem BC.no {b h : Nat} {c d : Cd} (g : BC c d b h) : BC (c ++ [(20, 0)]) (d ++ [(18, 0)]) b h := fun P Q hc => hc.2.2.2.2.2.2.1 c d b h (g P Q hc)
theorem BC.cm {o s b h h2 : Nat} {c1 d1 c2 d2 : Cd} (hb : cmP o s) (g1 : VC c1 d1 b h) (g2 : VC c2 d2 (b + d1.length) h2) (hl : h2 + 1 ≤ h) : BC (c1 ++ c2 ++ [(o, 0)]) (d1 ++ d2 ++ [(s, 0)]) b h := fun P Q hc => hc.2.2.2.2.2.1 o s c1 d1 c2 d2 b h h2 hb (g1 P Q hc) (g2 P Q hc) hl
theorem BC.jo {o s b h h2 : Nat} {c1 d1 c2 d2 : Cd} (hb : joP o s) (g1 : BC c1 d1 b h) (g2 : BC c2 d2 (b + d1.length) h2) (hl : h2 + 1 ≤ h) : BC (c1 ++ c2 ++ [(o, 0)]) (d1 ++ d2 ++ [(s, 0)]) b h := fun P Q hc => hc.2.2.2.2.2.2.2 o s c1 d1 c2 d2 b h h2 hb (g1 P Q hc) (g2 P Q hc) hl
theorem VC.ife {c0 d0 c1 d1 c2 d2 : Cd} {b h : Nat} (g0 : BC c0 d0 b h) (g1 : VC c1 d1 (b + d0.length + 1) h) (g2 : VC c2 d2 (b + d0.length + 1 + d1.length + 1) h) : VC (c0 ++ c1 ++ c2 ++ [(3, 0)]) (d0 ++ [(44, b + d0.length + 1 + d1.length + 1)] ++ d1 ++ [(43, b + d0.length + 1 + d1.length + 1 + d2.length)] ++ d2) b h := fun P Q hc => hc.2.2.2.2.1 c0 d0 c1 d1 c2 d2 b h (g0 P Q hc) (g1 P Q hc) (g2 P Q hc)
def VO (f : Nat → Nat → Res) (h0 : Nat) : Prop := ∀ k b, (f k b).f = 0 → ∀ h, h0 ≤ h → VC (f k b).cm (f k b).cc b h
def BO (f : Nat → Nat → Res) (h0 : Nat) : Prop := ∀ k b, (f k b).f = 0 → ∀ h, h0 ≤ h → BC (f k b).cm (f k b).cc b h
theorem addR_f {r q : Res} {o s : Nat} (h : (addR r q o s).f = 0) : q.f = 0 := by
  unfold addR at h
  by_cases hf : q.f = 0
  · exact hf
  · rw [if_neg hf] at h; exact absurd h hf
theorem addR_ok {r q : Res} {o s : Nat} (h : q.f = 0) : addR r q o s = (0, q.k, r.cm ++ q.cm ++ [(o, 0)], r.cc ++ q.cc ++ [(s, 0)]) := if_pos h
theorem chn_f0 {J : Nat → Bool} {om : Nat → Nat} {f : Nat → Nat → Res} {b : Nat} : ∀ n r, (chn S J om f b n r).f = 0 → r.f = 0 := by
  intro n
  induction n with
  | zero => intro r h; exact h
  | succ n ih =>
    intro r h
    rw [chn] at h
    by_cases q : r.f = 0 ∧ J (S r.k) = true
    · exact q.1
    · rw [if_neg q] at h; exact h
theorem chn_ind {J : Nat → Bool} {om : Nat → Nat} {f : Nat → Nat → Res} {b : Nat} {P : Cd → Cd → Prop} (st : ∀ (r : Res), P r.cm r.cc → J (S r.k) = true → (f (r.k + 1) (b + r.cc.length)).f = 0 → P (r.cm ++ (f (r.k + 1) (b + r.cc.length)).cm ++ [(om (S r.k), 0)]) (r.cc ++ (f (r.k + 1) (b + r.cc.length)).cc ++ [(S r.k, 0)])) : ∀ n r, (chn S J om f b n r).f = 0 → P r.cm r.cc → P (chn S J om f b n r).cm (chn S J om f b n r).cc := by
  intro n
  induction n with
  | zero => intro r _ h; exact h
  | succ n ih =>
    intro r h hP
    rw [chn] at h ⊢
    by_cases q : r.f = 0 ∧ J (S r.k) = true
    · rw [if_pos q] at h ⊢
      have hf := addR_f (chn_f0 n _ h)
      refine ih _ h ?_
      rw [addR_ok hf]
      exact st r hP q.2 hf
    · rw [if_neg q] at h ⊢
      exact hP
theorem jMul_iff {s : Nat} : jMul s = true ↔ (s = 34 ∨ s = 35) := decide_eq_true_iff
theorem jAdd_iff {s : Nat} : jAdd s = true ↔ (s = 32 ∨ s = 33) := decide_eq_true_iff
theorem jAnd_iff {s : Nat} : jAnd s = true ↔ s = 17 := decide_eq_true_iff
theorem jOr_iff {s : Nat} : jOr s = true ↔ s = 16 := decide_eq_true_iff
theorem bi_mul {s : Nat} (h : jMul s = true) : biP (oBi s) s := by
  rcases jMul_iff.mp h with rfl | rfl <;> (unfold biP oBi; omega)
theorem bi_add {s : Nat} (h : jAdd s = true) : biP (oBi s) s := by
  rcases jAdd_iff.mp h with rfl | rfl <;> (unfold biP oBi; omega)
theorem cm_cmp {s : Nat} (h : 26 ≤ s ∧ s ≤ 31) : cmP (cmO s) s := by
  rcases (show s = 26 ∨ s = 27 ∨ s = 28 ∨ s = 29 ∨ s = 30 ∨ s = 31 by omega) with rfl | rfl | rfl | rfl | rfl | rfl <;> (unfold cmP cmO; simp)
theorem VO.prod {f : Nat → Nat → Res} {h0 : Nat} (hf : VO f h0) : VO (prodR S f) (h0 + 1) := fun k b h h1 hh =>
  chn_ind (P := fun c d => VC c d b h1) (fun r hP hJ h2 => VC.bi (bi_mul hJ) hP (hf _ _ h2 h0 (Nat.le_refl _)) hh) 300 (f k b) h (hf k b (chn_f0 300 _ h) h1 (by omega))
theorem VO.sum {f : Nat → Nat → Res} {h0 : Nat} (hf : VO f h0) : VO (sumR S f) (h0 + 2) := fun k b h h1 hh =>
  chn_ind (P := fun c d => VC c d b h1) (fun r hP hJ h2 => VC.bi (bi_add hJ) hP (hf.prod _ _ h2 (h0 + 1) (Nat.le_refl _)) hh) 300 (prodR S f k b) h (hf.prod k b (chn_f0 300 _ h) h1 (by omega))
theorem BO.both {f : Nat → Nat → Res} {h0 : Nat} (hf : BO f h0) : BO (bothR S f) (h0 + 1) := fun k b h h1 hh =>
  chn_ind (P := fun c d => BC c d b h1) (fun r hP hJ h2 => BC.jo (Or.inl ⟨rfl, jAnd_iff.mp hJ⟩) hP (hf _ _ h2 h0 (Nat.le_refl _)) hh) 300 (f k b) h (hf k b (chn_f0 300 _ h) h1 (by omega))
theorem BO.either {f : Nat → Nat → Res} {h0 : Nat} (hf : BO f h0) : BO (eitherR S f) (h0 + 2) := fun k b h h1 hh =>
  chn_ind (P := fun c d => BC c d b h1) (fun r hP hJ h2 => BC.jo (Or.inr ⟨rfl, jOr_iff.mp hJ⟩) hP (hf.both _ _ h2 (h0 + 1) (Nat.le_refl _)) hh) 300 (bothR S f k b) h (hf.both k b (chn_f0 300 _ h) h1 (by omega))
theorem VO.cmp {f : Nat → Nat → Res} {h0 : Nat} (hf : VO f h0) : BO (cmpR S f) (h0 + 1) := fun k b h h1 hh => by
  unfold cmpR at h ⊢
  by_cases c1 : (f k b).f ≠ 0
  · rw [if_pos c1] at h; exact absurd h c1
  · rw [if_neg c1] at h ⊢
    by_cases c2 : ¬ (26 ≤ S (f k b).k ∧ S (f k b).k ≤ 31)
    · rw [if_pos c2] at h; exact absurd h rF_n
    · rw [if_neg c2] at h ⊢
      have h2 := addR_f h
      rw [addR_ok h2]
      exact BC.cm (cm_cmp (Decidable.not_not.mp c2)) (hf k b (Decidable.not_not.mp c1) h1 (by omega)) (hf _ _ h2 h0 (Nat.le_refl _)) hh
theorem VO.plain (hV : ∀ k, S k ≠ 39 → V k = 0) {k b : Nat} (h : (plainR S V sw k).f = 0) {h1 : Nat} (hh : 1 ≤ h1) : VC (plainR S V sw k).cm (plainR S V sw k).cc b h1 := by
  unfold plainR at h ⊢
  by_cases c1 : S k ≠ 39 ∧ ¬ ((19 ≤ S k ∧ S k ≤ 25) ∨ S k = 3)
  · rw [if_pos c1] at h; exact absurd h rF_n
  · rw [if_neg c1] at h ⊢
    by_cases c2 : 9999 < V k
    · rw [if_pos c2] at h; exact absurd h rF_n
    · rw [if_neg c2] at h ⊢
      by_cases c3 : S k = 25 ∧ sw ≠ 1
      · rw [if_pos c3] at h; exact absurd h rF_n
      · rw [if_neg c3]
        by_cases c4 : S k = 39
        · show VC [if S k = 39 then (0, V k) else (1, nmI (S k))] [(S k, V k)] b h1
          rw [if_pos c4, c4]
          exact fun P Q hc => hc.1 (V k) b h1 (by omega) hh
        · show VC [if S k = 39 then (0, V k) else (1, nmI (S k))] [(S k, V k)] b h1
          rw [if_neg c4, hV k c4]
          have hn : nmP (nmI (S k)) (S k) := by
            rcases (show S k = 3 ∨ S k = 19 ∨ S k = 20 ∨ S k = 21 ∨ S k = 22 ∨ S k = 23 ∨ S k = 24 ∨ S k = 25 by omega) with q | q | q | q | q | q | q | q <;> (rw [q]; unfold nmP nmI; simp)
          exact fun P Q hc => hc.2.1 (nmI (S k)) (S k) b h1 hn hh
theorem un_un {s : Nat} (h : s = 33 ∨ s = 10 ∨ s = 11) : unP (unO s) (unC s) := by
  rcases h with rfl | rfl | rfl <;> (unfold unP unO unC; simp)
theorem unR_f {r : Res} {o s : Nat} (h : (unR r o s).f = 0) : r.f = 0 := by
  unfold unR at h
  by_cases c : r.f ≠ 0
  · rw [if_pos c] at h; exact h
  · exact Decidable.not_not.mp c
theorem unR_ok {r : Res} {o s : Nat} (h : r.f = 0) : unR r o s = (0, r.k, r.cm ++ [(o, 0)], r.cc ++ [(s, 0)]) := if_neg (fun q => q h)
theorem VO.ifs {ei sm : Nat → Nat → Res} {h0 : Nat} (he : BO ei h0) (hs : VO sm h0) {k b : Nat} (h : (ifR S ei sm k b).f = 0) {h1 : Nat} (hh : h0 ≤ h1) : VC (ifR S ei sm k b).cm (ifR S ei sm k b).cc b h1 := by
  unfold ifR at h ⊢
  have e1 := fun q => he k b q h1 hh
  generalize ei k b = e at h e1 ⊢
  by_cases c1 : e.f ≠ 0
  · rw [if_pos c1] at h; exact absurd h c1
  · rw [if_neg c1] at h ⊢
    have e1 := e1 (Decidable.not_not.mp c1)
    by_cases c2 : S e.k ≠ 13
    · rw [if_pos c2] at h; exact absurd h rF_n
    · rw [if_neg c2] at h ⊢
      unfold if2 at h ⊢
      have e2 := fun q => hs (e.k + 1) (b + e.cc.length + 1) q h1 hh
      generalize sm (e.k + 1) (b + e.cc.length + 1) = r1 at h e2 ⊢
      by_cases c3 : r1.f ≠ 0
      · rw [if_pos c3] at h; exact absurd h c3
      · rw [if_neg c3] at h ⊢
        have e2 := e2 (Decidable.not_not.mp c3)
        by_cases c4 : S r1.k ≠ 14
        · rw [if_pos c4] at h; exact absurd h rF_n
        · rw [if_neg c4] at h ⊢
          unfold if3 at h ⊢
          have e3 := fun q => hs (r1.k + 1) (b + e.cc.length + 1 + r1.cc.length + 1) q h1 hh
          generalize sm (r1.k + 1) (b + e.cc.length + 1 + r1.cc.length + 1) = r2 at h e3 ⊢
          by_cases c5 : r2.f ≠ 0
          · rw [if_pos c5] at h; exact absurd h c5
          · rw [if_neg c5] at h ⊢
            have e3 := e3 (Decidable.not_not.mp c5)
            by_cases c6 : S r2.k ≠ 15
            · rw [if_pos c6] at h; exact absurd h rF_n
            · rw [if_neg c6]
              exact VC.ife e1 e2 e3
theorem vo_one0 (hV : ∀ k, S k ≠ 39 → V k = 0) : VO (one0 S V sw) 1 := fun k b h h1 hh => by
  unfold one0 at h ⊢
  by_cases c : ¬ (S k = 36 ∨ S k = 33 ∨ S k = 10 ∨ S k = 11 ∨ S k = 12)
  · rw [if_pos c] at h ⊢; exact VO.plain hV h hh
  · rw [if_neg c] at h; exact absurd h rF_n
theorem vo_oneS (hV : ∀ k, S k ≠ 39 → V k = 0) {p : (Nat → Nat → Res) × (Nat → Nat → Res)} {h0 : Nat} (g1 : VO p.1 h0) (g2 : BO p.2 (h0 + 3)) : VO (oneS S V sw p) (h0 + 5) := fun k b h h1 hh => by
  unfold oneS at h ⊢
  by_cases c1 : ¬ (S k = 36 ∨ S k = 33 ∨ S k = 10 ∨ S k = 11 ∨ S k = 12)
  · rw [if_pos c1] at h ⊢; exact VO.plain hV h (by omega)
  · rw [if_neg c1] at h ⊢
    by_cases c2 : S k = 36
    · rw [if_pos c2] at h ⊢
      unfold parR at h ⊢
      have e1 := fun q => g1.sum (S := S) (k + 1) b q h1 (by omega)
      generalize sumR S p.1 (k + 1) b = r at h e1 ⊢
      by_cases d1 : r.f ≠ 0
      · rw [if_pos d1] at h; exact absurd h d1
      · rw [if_neg d1] at h ⊢
        by_cases d2 : S r.k ≠ 37
        · rw [if_pos d2] at h; exact absurd h rF_n
        · rw [if_neg d2]
          exact e1 (Decidable.not_not.mp d1)
    · rw [if_neg c2] at h ⊢
      by_cases c3 : S k = 12
      · rw [if_pos c3] at h ⊢
        exact VO.ifs (h0 := h0 + 5) (fun k b q h hh => g2.either (S := S) k b q h (by omega)) (fun k b q h hh => g1.sum (S := S) k b q h (by omega)) h hh
      · rw [if_neg c3] at h ⊢
        have hf := unR_f h
        rw [unR_ok hf]
        exact VC.un (un_un (by omega)) (g1 _ _ hf h1 (by omega))
theorem bo_ask0 (hV : ∀ k, S k ≠ 39 → V k = 0) : BO (ask0 S V sw) 4 := fun k b h h1 hh => by
  unfold ask0 at h ⊢
  by_cases c : S k = 18
  · rw [if_pos c] at h; exact absurd h rF_n
  · rw [if_neg c] at h ⊢
    exact (vo_one0 hV).sum.cmp k b h h1 hh
theorem bo_askS (hV : ∀ k, S k ≠ 39 → V k = 0) {p : (Nat → Nat → Res) × (Nat → Nat → Res)} {h0 : Nat} (g1 : VO p.1 h0) (g2 : BO p.2 (h0 + 3)) : BO (askS S V sw p) (h0 + 8) := fun k b h h1 hh => by
  unfold askS at h ⊢
  by_cases c : S k = 18
  · rw [if_pos c] at h ⊢
    have hf := unR_f h
    rw [unR_ok hf]
    exact BC.no (g2 _ _ hf h1 (by omega))
  · rw [if_neg c] at h ⊢
    exact (vo_oneS hV g1 g2).sum.cmp k b h h1 (by omega)
theorem vo_RDF (hV : ∀ k, S k ≠ 39 → V k = 0) (L : Nat) : VO (RDF S V sw L).1 (5 * L + 1) ∧ BO (RDF S V sw L).2 (5 * L + 4) := by
  induction L with
  | zero => exact ⟨vo_one0 hV, bo_ask0 hV⟩
  | succ L ih => exact ⟨vo_oneS hV ih.1 ih.2, bo_askS hV ih.1 ih.2⟩
theorem VC.rd (hV : ∀ k, S k ≠ 39 → V k = 0) {k b : Nat} (h : (sumR S (RDF S V sw 8).1 k b).f = 0) : VC (sumR S (RDF S V sw 8).1 k b).cm (sumR S (RDF S V sw 8).1 k b).cc b 64 :=
  (vo_RDF hV 8).1.sum k b h 64 (by decide)
theorem VC.wc {c d : Cd} {b h : Nat} (g : VC c d b h) : WC c 0 0 := by
  have := g (fun c _ _ _ => ∀ rest nv nt, WC rest (nv + 1) nt → WC (c ++ rest) nv nt) (fun c _ _ _ => ∀ rest nv nt, WC rest nv (nt + 1) → WC (c ++ rest) nv nt) ?_
  · have h2 := this [] 0 0 ⟨rfl, rfl⟩
    rw [List.append_nil] at h2
    exact h2
  · refine ⟨?_, ?_, ?_, ?_, ?_, ?_, ?_, ?_⟩
    · intro v b h hv _ rest nv nt hw
      show WC ((0, v) :: rest) nv nt
      rw [WC, if_pos (by decide)]
      exact ⟨by omega, fun e => absurd e (by decide), hw⟩
    · intro k s b h hn _ rest nv nt hw
      show WC ((1, k) :: rest) nv nt
      rw [WC, if_pos (by decide)]
      have : k < 8 := by unfold nmP at hn; omega
      exact ⟨by omega, fun _ => this, hw⟩
    · intro u s c d b h hu ih rest nv nt hw
      rw [List.append_assoc]
      refine ih _ _ _ ?_
      show WC ((u, 0) :: rest) (nv + 1) nt
      have : u = 5 ∨ u = 2 ∨ u = 4 := by unfold unP at hu; omega
      rw [WC, if_neg (by omega), if_neg (by omega), if_pos (by omega)]
      exact ⟨by omega, hw⟩
    · intro o s c1 d1 c2 d2 b h h2 hb i1 i2 _ rest nv nt hw
      rw [List.append_assoc, List.append_assoc]
      refine i1 _ _ _ (i2 _ _ _ ?_)
      show WC ((o, 0) :: rest) (nv + 1 + 1) nt
      have : 6 ≤ o ∧ o ≤ 9 := by unfold biP at hb; omega
      rw [WC, if_neg (by omega), if_neg (by omega), if_neg (by omega), if_pos (by omega)]
      exact ⟨by omega, hw⟩
    · intro c0 d0 c1 d1 c2 d2 b h i0 i1 i2 rest nv nt hw
      rw [List.append_assoc, List.append_assoc, List.append_assoc]
      refine i0 _ _ _ (i1 _ _ _ (i2 _ _ _ ?_))
      show WC ((3, 0) :: rest) (nv + 1 + 1) (nt + 1)
      rw [WC, if_neg (by decide), if_pos rfl]
      exact ⟨by omega, by omega, hw⟩
    · intro o s c1 d1 c2 d2 b h h2 hb i1 i2 _ rest nv nt hw
      rw [List.append_assoc, List.append_assoc]
      refine i1 _ _ _ (i2 _ _ _ ?_)
      show WC ((o, 0) :: rest) (nv + 1 + 1) nt
      have : 10 ≤ o ∧ o ≤ 15 := by unfold cmP at hb; omega
      rw [WC, if_neg (by omega), if_neg (by omega), if_neg (by omega), if_neg (by omega), if_pos (by omega)]
      exact ⟨by omega, hw⟩
    · intro c d b h i rest nv nt hw
      rw [List.append_assoc]
      refine i _ _ _ ?_
      show WC ((20, 0) :: rest) nv (nt + 1)
      rw [WC, if_neg (by decide), if_neg (by decide), if_neg (by decide), if_neg (by decide), if_neg (by decide), if_pos rfl]
      exact ⟨by omega, hw⟩
    · intro o s c1 d1 c2 d2 b h h2 hb i1 i2 _ rest nv nt hw
      rw [List.append_assoc, List.append_assoc]
      refine i1 _ _ _ (i2 _ _ _ ?_)
      show WC ((o, 0) :: rest) nv (nt + 1 + 1)
      have : o = 21 ∨ o = 22 := by unfold joP at hb; omega
      rw [WC, if_neg (by omega), if_neg (by omega), if_neg (by omega), if_neg (by omega), if_neg (by omega), if_neg (by omega)]
      exact ⟨by omega, by omega, hw⟩
end RDv
