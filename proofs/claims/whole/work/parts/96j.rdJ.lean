section RDj
variable {G : Geo} {M : Mem} {l : List Nat} {sw : Nat}
theorem qlen_none : qlen none = 0 := rfl
theorem rq_one {s lo hi k b n : Nat} {M' : Mem} (hs : 5 ≤ s) (hq : (numF (SS l) (VV l) lo hi k = 0 → RS l s (k + 1) b M' ∧ mI M' 227 n = nI (VV l k) ∧ ∀ i, i ≠ n → mI M' 227 i = mI M 227 i) ∧ (numF (SS l) (VV l) lo hi k ≠ 0 → FS l (numF (SS l) (VV l) lo hi k) k M') ∧ Fo 225 (fun j => 13 ≤ j ∧ j ≤ 17) (fun c => c = 227) M M') : RQ l s b n (oneN (SS l) (VV l) lo hi k) M M' := by
  obtain ⟨q1, q2, q3⟩ := hq
  have hX := q3.nm (Or.inl rfl)
  unfold oneN
  by_cases c : numF (SS l) (VV l) lo hi k ≠ 0
  · rw [if_pos c]
    exact RQ.fl ⟨rfl, rfl⟩ (q2 c) hX
  · rw [if_neg c]
    obtain ⟨p1, p2, p3⟩ := q1 (Decidable.not_not.mp c)
    have e : ∀ j, j < 13 → mI M' 225 j = mI M 225 j := fun j hj => q3.2.2.1 j (fun z => by have z : 13 ≤ j ∧ j ≤ 17 := z; omega)
    have ea : ∀ a, a ≠ 225 → a ≠ 227 → mI M' a = mI M a := fun a h1 h2 => q3.2.1 a h1 h2
    refine ⟨hX, fun q => absurd rfl q, fun _ => ⟨p1, e 6 (by decide), ea 226 (by decide) (by decide), fun i hi => ⟨p3 i hi, by rw [ea 228 (by decide) (by decide)]⟩, fun i _ => by rw [ea 229 (by decide) (by decide), ea 230 (by decide) (by decide)]; exact ⟨rfl, rfl⟩, fun _ => ⟨p2, fun q => by omega⟩, fun _ => ⟨e 8 (by decide), e 9 (by decide)⟩, fun _ => ⟨e 10 (by decide), e 11 (by decide)⟩, fun q => by omega, fun q => by omega⟩⟩
theorem rq_two {s h1 w h2 k b n : Nat} {M1 M2 M3 : Mem} (hs : 2 ≤ s) (g1 : numF (SS l) (VV l) 0 h1 k = 0) (g2 : SS l (k + 1) = w) (q1 : mI M1 227 n = nI (VV l k) ∧ ∀ i, i ≠ n → mI M1 227 i = mI M 227 i) (x1 : Fo 225 (fun j => 13 ≤ j ∧ j ≤ 17) (fun c => c = 227) M M1) (x2 : Fo 225 (fun j => 13 ≤ j ∧ j ≤ 17) An M1 M2)
    (hq : (numF (SS l) (VV l) 0 h2 (k + 2) = 0 → RS l s (k + 2 + 1) b M3 ∧ mI M3 228 n = nI (VV l (k + 2)) ∧ ∀ i, i ≠ n → mI M3 228 i = mI M2 228 i) ∧ (numF (SS l) (VV l) 0 h2 (k + 2) ≠ 0 → FS l (numF (SS l) (VV l) 0 h2 (k + 2)) (k + 2) M3) ∧ Fo 225 (fun j => 13 ≤ j ∧ j ≤ 17) (fun c => c = 228) M2 M3) : RQ l s b n (twoN (SS l) (VV l) h1 w h2 k) M M3 := by
  obtain ⟨p1, p2, x3⟩ := hq
  have hX := ((x1.nm (Or.inl rfl)).tr x2.tk).tr (x3.nm (Or.inr rfl))
  unfold twoN
  rw [if_neg (fun q => q g1), if_neg (fun q => q g2)]
  by_cases c : numF (SS l) (VV l) 0 h2 (k + 2) ≠ 0
  · rw [if_pos c]
    exact RQ.fl ⟨rfl, rfl⟩ (p2 c) hX
  · rw [if_neg c]
    obtain ⟨r1, r2, r3⟩ := p1 (Decidable.not_not.mp c)
    have e : ∀ j, j < 13 → mI M3 225 j = mI M 225 j := fun j hj => by
      have nj : ¬ (13 ≤ j ∧ j ≤ 17) := by omega
      exact (x3.2.2.1 j nj).trans ((x2.2.2.1 j nj).trans (x1.2.2.1 j nj))
    have ea : ∀ a, a ≠ 225 → a ≠ 227 → a ≠ 228 → mI M3 a = mI M a := fun a c1 c2 c3 => (x3.2.1 a c1 c3).trans ((x2.2.1 a c1 (fun z => z)).trans (x1.2.1 a c1 c2))
    have e7 : mI M3 227 = mI M1 227 := (x3.2.1 227 (by decide) (fun z => by cases z)).trans (x2.2.1 227 (by decide) (fun z => z))
    have e8 : mI M2 228 = mI M 228 := (x2.2.1 228 (by decide) (fun z => z)).trans (x1.2.1 228 (by decide) (fun z => by cases z))
    refine ⟨hX, fun q => absurd rfl q, fun _ => ⟨r1, e 6 (by decide), ea 226 (by decide) (by decide) (by decide), fun i hi => ⟨by rw [e7]; exact q1.2 i hi, by rw [r3 i hi, e8]⟩, fun i _ => by rw [ea 229 (by decide) (by decide) (by decide), ea 230 (by decide) (by decide) (by decide)]; exact ⟨rfl, rfl⟩, fun _ => ⟨by rw [e7]; exact q1.1, fun _ => r2⟩, fun _ => ⟨e 8 (by decide), e 9 (by decide)⟩, fun _ => ⟨e 10 (by decide), e 11 (by decide)⟩, fun q => by omega, fun q => by omega⟩⟩
theorem RS.f8 {k b j : Nat} {v : Int32} (h : RS l sw k b M) (hj : 8 ≤ j ∧ j ≤ 11) : RS l sw k b (wI M 225 j v) ∧ Fo 225 JC AC M (wI M 225 j v) := by
  have hX : Fo 225 JC AC M (wI M 225 j v) := Fo.rf.wI (by unfold JC; omega)
  have e : ∀ i, i ≠ j → mI (wI M 225 j v) 225 i = mI M 225 i := fun i hi => by rw [mI_wa, if_neg hi]
  exact ⟨⟨h.R.fo hX, h.T.fo hX (by decide) (fun _ => AC.o), h.v, (e 13 (by omega)).trans h.n, (e 14 (by omega)).trans h.s, (e 15 (by omega)).trans h.w, (e 16 (by omega)).trans h.f, (e 7 (by omega)).trans h.z, (e 12 (by omega)).trans h.law, (e 17 (by omega)).trans h.p⟩, hX⟩
theorem rq_law {s k b n j : Nat} {M1 M2 : Mem} (hs : (s = 0 ∧ j = 8) ∨ (s = 1 ∧ j = 10)) (h1 : M1 = wI M 225 j (nI b)) {r : Res} (hr : sumR (SS l) (RDF (SS l) (VV l) s 8).1 k b = r) (hP : PR l s r b M1 M2) : (r.f ≠ 0 → ∀ v, RQ l s b n (lawN (SS l) (VV l) s k b) M (wI M2 225 (j + 1) v)) ∧ (r.f = 0 → mI M2 225 7 = nI (b + r.cc.length) ∧ RQ l s b n (lawN (SS l) (VV l) s k b) M (wI M2 225 (j + 1) (nI (b + r.cc.length)))) := by
  subst h1
  obtain ⟨x1, x2, x3⟩ := hP
  have hj8 : 8 ≤ j ∧ j ≤ 10 := by omega
  have hX0 : Fo 225 JC AC M (wI M 225 j (nI b)) := Fo.rf.wI (by unfold JC; omega)
  have hX1 : ∀ v, Fo 225 JC AC M (wI M2 225 (j + 1) v) := fun v => (hX0.tr x1.jc).wI (by unfold JC; omega)
  unfold lawN
  rw [hr]
  refine ⟨fun hf v => ⟨hX1 v, fun _ => ?_, fun q => absurd q hf⟩, fun hf => ?_⟩
  · have hF := x3 hf
    have hY : Fo 225 (fun i => i = j + 1) An M2 (wI M2 225 (j + 1) v) := Fo.rf.wI rfl
    exact hF.fo hY (by show ¬ 16 = j + 1; omega) (by show ¬ 17 = j + 1; omega) (fun _ => An.o)
  · obtain ⟨y1, y2, y3⟩ := x2 hf
    refine ⟨y1.z, hX1 _, fun q => absurd hf q, fun _ => ?_⟩
    have z := RS.f8 (j := j + 1) (v := nI (b + r.cc.length)) y1 (by omega)
    have e0 : ∀ i, i ≠ j → mI (wI M 225 j (nI b)) 225 i = mI M 225 i := fun i hi => by rw [mI_wa, if_neg hi]
    have e2 : ∀ i, i ≠ j + 1 → mI (wI M2 225 (j + 1) (nI (b + r.cc.length))) 225 i = mI M2 225 i := fun i hi => by rw [mI_wa, if_neg hi]
    have e1 : ∀ i, 8 ≤ i → i ≤ 12 ∨ i = 6 → mI M2 225 i = mI (wI M 225 j (nI b)) 225 i := fun i h1 h2 => x1.2.2.1 i (by unfold JR; omega)
    have e6 : mI M2 225 6 = mI (wI M 225 j (nI b)) 225 6 := x1.2.2.1 6 (by unfold JR; omega)
    have ea : ∀ c, c ≠ 225 → c ≠ 229 → c ≠ 230 → mI (wI M2 225 (j + 1) (nI (b + r.cc.length))) c = mI M c := fun c c1 c2 c3 => by rw [mI_ne c1, x1.2.1 c c1 (by unfold AR; omega), mI_ne c1]
    have ek : ∀ c, c ≠ 225 → mI (wI M2 225 (j + 1) (nI (b + r.cc.length))) c = mI M2 c := fun c c1 => mI_ne c1
    have en : ∀ i, 8 ≤ i → i ≤ 11 → i ≠ j → i ≠ j + 1 → mI (wI M2 225 (j + 1) (nI (b + r.cc.length))) 225 i = mI M 225 i := fun i a1 a2 a3 a4 => by rw [e2 i a4, e1 i a1 (by omega), e0 i a3]
    have ej : mI (wI M2 225 (j + 1) (nI (b + r.cc.length))) 225 j = nI b := by rw [e2 j (by omega), e1 j (by omega) (by omega), mI_wa, if_pos rfl]
    have ej1 : mI (wI M2 225 (j + 1) (nI (b + r.cc.length))) 225 (j + 1) = nI (b + r.cc.length) := by rw [mI_wa, if_pos rfl]
    have ec : cdAt r.cc b (wI M2 225 (j + 1) (nI (b + r.cc.length))) := fun i hi => by rw [ek 229 (by decide), ek 230 (by decide)]; exact y2 i hi
    refine ⟨z.1, by rw [e2 6 (by omega), e6, e0 6 (by omega)], ea 226 (by decide) (by decide) (by decide), fun i _ => by rw [ea 227 (by decide) (by decide) (by decide), ea 228 (by decide) (by decide) (by decide)]; exact ⟨rfl, rfl⟩, fun i hi => ?_, fun q => by omega, fun q => ?_, fun q => ?_, fun q => ?_, fun q => ?_⟩
    · rw [ek 229 (by decide), ek 230 (by decide)]
      have := y3 i hi
      rw [mI_ne (by decide), mI_ne (by decide)] at this
      exact this
    · have : j = 10 := by omega
      subst this
      exact ⟨en 8 (by decide) (by decide) (by decide) (by decide), en 9 (by decide) (by decide) (by decide) (by decide)⟩
    · have : j = 8 := by omega
      subst this
      exact ⟨en 10 (by decide) (by decide) (by decide) (by decide), en 11 (by decide) (by decide) (by decide) (by decide)⟩
    · have : j = 8 := by omega
      subst this
      exact ⟨ej, ej1, fun q hq => by rw [← Option.some.inj hq]; exact ec⟩
    · have : j = 10 := by omega
      subst this
      exact ⟨ej, ej1, fun q hq => by rw [← Option.some.inj hq]; exact ec⟩
theorem sp_Re_readRest (hG : GC G) (h3 : l.length ≤ 300) {s k b n : Nat} (h : RS l s k b M) (hb : b ≤ k) (hn : mI M 225 6 = nI n) (hn24 : n < 24) (hs : s ≤ 9 ∧ s ≠ 3 ∧ s ≠ 5) : E 210 0 0 Y_Re_readRest 0 [some (.ref 225), some (.int (nI s))] [] G M (QV G fun M' => RQ l s b n (restR (SS l) (VV l) s k b) M M') := by
  have hR := h.R
  rcases (show s = 0 ∨ s = 1 ∨ s = 2 ∨ s = 4 ∨ s = 6 ∨ s = 7 ∨ s = 8 ∨ s = 9 by omega) with rfl | rfl | rfl | rfl | rfl | rfl | rfl | rfl
  · show E _ _ _ _ _ _ _ _ _ (QV G fun M' => RQ l 0 b n (lawN (SS l) (VV l) 0 k b) M M')
    have h2 := (RS.f8 (j := 8) (v := nI b) h (by omega)).1
    have top := ep_top hG h3 (sw := 0) (by decide) k b _ h2 hb
    have LQ := fun M2 (hP : PR l 0 (sumR (SS l) (RDF (SS l) (VV l) 0 8).1 k b) b (wI M 225 8 (nI b)) M2) => rq_law (l := l) (n := n) (j := 8) (M := M) (M2 := M2) (s := 0) (k := k) (b := b) (by omega) rfl rfl hP
    generalize sumR (SS l) (RDF (SS l) (VV l) 0 8).1 k b = r at *
    have K : ∀ M2, PR l 0 r b (wI M 225 8 (nI b)) M2 → E 210 0 0 Y_Re_readRest 69 [some (.ref 225), some (.int (nI 0))] [] G M2 (QV G fun M' => RQ l 0 b n (lawN (SS l) (VV l) 0 k b) M M') := by
      intro M2 hP
      obtain ⟨u1, u2⟩ := LQ M2 hP
      by_cases hf : r.f = 0
      · obtain ⟨v1, v2⟩ := u2 hf
        first | refine E_aload_n d_Re_readRest_69 rfl ?_ | refine E_aload_nN d_Re_readRest_69 rfl ?_
        first | refine E_aload_n d_Re_readRest_70 rfl ?_ | refine E_aload_nN d_Re_readRest_70 rfl ?_
        refine E_getI d_Re_readRest_71 gf_Re_35 (by exact hG.s (by decide) rfl) (by exact v1) ?_
        refine E_putI d_Re_readRest_74 gf_Re_85 (by exact hG.s (by decide) rfl) rfl rfl ?_
        refine E_goto 202 d_Re_readRest_77 rfl ?_
        refine E_retV d_Re_readRest_202 rfl ?_
        exact v2
      · first | refine E_aload_n d_Re_readRest_69 rfl ?_ | refine E_aload_nN d_Re_readRest_69 rfl ?_
        first | refine E_aload_n d_Re_readRest_70 rfl ?_ | refine E_aload_nN d_Re_readRest_70 rfl ?_
        refine E_getI d_Re_readRest_71 gf_Re_35 (by exact hG.s (by decide) rfl) (by rfl) ?_
        refine E_putI d_Re_readRest_74 gf_Re_85 (by exact hG.s (by decide) rfl) rfl rfl ?_
        refine E_goto 202 d_Re_readRest_77 rfl ?_
        refine E_retV d_Re_readRest_202 rfl ?_
        exact u1 hf _
    refine E_iload_n d_Re_readRest_0 rfl ?_
    refine E_tableIn 56 d_Re_readRest_1 (by decide) (by decide) (by first | rfl | decide) rfl ?_
    first | refine E_aload_n d_Re_readRest_56 rfl ?_ | refine E_aload_nN d_Re_readRest_56 rfl ?_
    first | refine E_aload_n d_Re_readRest_57 rfl ?_ | refine E_aload_nN d_Re_readRest_57 rfl ?_
    refine E_getI d_Re_readRest_58 gf_Re_35 (by exact hG.s (by decide) rfl) (by exact h.z) ?_
    refine E_putI d_Re_readRest_61 gf_Re_38 (by exact hG.s (by decide) rfl) rfl rfl ?_
    first | refine E_aload_n d_Re_readRest_64 rfl ?_ | refine E_aload_nN d_Re_readRest_64 rfl ?_
    refine E_iconst (v := nI 0) d_Re_readRest_65 rfl ?_
    refine E_V1 (top) d_Re_readRest_66 ml_Re_129 cb_Re_readSum cv_Re_readSum (by exact hG.s (by decide) rfl) ⟨by decide, rfl⟩ ⟨by omega, by decide⟩ rfl (Nat.le_of_ble_eq_true rfl) (Nat.le_of_ble_eq_true rfl) (kV fun M1 hc => ?_)
    skip
    exact K _ hc
  · show E _ _ _ _ _ _ _ _ _ (QV G fun M' => RQ l 1 b n (lawN (SS l) (VV l) 1 k b) M M')
    have h2 := (RS.f8 (j := 10) (v := nI b) h (by omega)).1
    have top := ep_top hG h3 (sw := 1) (by decide) k b _ h2 hb
    have LQ := fun M2 (hP : PR l 1 (sumR (SS l) (RDF (SS l) (VV l) 1 8).1 k b) b (wI M 225 10 (nI b)) M2) => rq_law (l := l) (n := n) (j := 10) (M := M) (M2 := M2) (s := 1) (k := k) (b := b) (by omega) rfl rfl hP
    generalize sumR (SS l) (RDF (SS l) (VV l) 1 8).1 k b = r at *
    have K : ∀ M2, PR l 1 r b (wI M 225 10 (nI b)) M2 → E 210 0 0 Y_Re_readRest 93 [some (.ref 225), some (.int (nI 1))] [] G M2 (QV G fun M' => RQ l 1 b n (lawN (SS l) (VV l) 1 k b) M M') := by
      intro M2 hP
      obtain ⟨u1, u2⟩ := LQ M2 hP
      by_cases hf : r.f = 0
      · obtain ⟨v1, v2⟩ := u2 hf
        first | refine E_aload_n d_Re_readRest_93 rfl ?_ | refine E_aload_nN d_Re_readRest_93 rfl ?_
        first | refine E_aload_n d_Re_readRest_94 rfl ?_ | refine E_aload_nN d_Re_readRest_94 rfl ?_
        refine E_getI d_Re_readRest_95 gf_Re_35 (by exact hG.s (by decide) rfl) (by exact v1) ?_
        refine E_putI d_Re_readRest_98 gf_Re_90 (by exact hG.s (by decide) rfl) rfl rfl ?_
        refine E_goto 202 d_Re_readRest_101 rfl ?_
        refine E_retV d_Re_readRest_202 rfl ?_
        exact v2
      · first | refine E_aload_n d_Re_readRest_93 rfl ?_ | refine E_aload_nN d_Re_readRest_93 rfl ?_
        first | refine E_aload_n d_Re_readRest_94 rfl ?_ | refine E_aload_nN d_Re_readRest_94 rfl ?_
        refine E_getI d_Re_readRest_95 gf_Re_35 (by exact hG.s (by decide) rfl) (by rfl) ?_
        refine E_putI d_Re_readRest_98 gf_Re_90 (by exact hG.s (by decide) rfl) rfl rfl ?_
        refine E_goto 202 d_Re_readRest_101 rfl ?_
        refine E_retV d_Re_readRest_202 rfl ?_
        exact u1 hf _
    refine E_iload_n d_Re_readRest_0 rfl ?_
    refine E_tableIn 80 d_Re_readRest_1 (by decide) (by decide) (by first | rfl | decide) rfl ?_
    first | refine E_aload_n d_Re_readRest_80 rfl ?_ | refine E_aload_nN d_Re_readRest_80 rfl ?_
    first | refine E_aload_n d_Re_readRest_81 rfl ?_ | refine E_aload_nN d_Re_readRest_81 rfl ?_
    refine E_getI d_Re_readRest_82 gf_Re_35 (by exact hG.s (by decide) rfl) (by exact h.z) ?_
    refine E_putI d_Re_readRest_85 gf_Re_41 (by exact hG.s (by decide) rfl) rfl rfl ?_
    first | refine E_aload_n d_Re_readRest_88 rfl ?_ | refine E_aload_nN d_Re_readRest_88 rfl ?_
    refine E_iconst (v := nI 0) d_Re_readRest_89 rfl ?_
    refine E_V1 (top) d_Re_readRest_90 ml_Re_129 cb_Re_readSum cv_Re_readSum (by exact hG.s (by decide) rfl) ⟨by decide, rfl⟩ ⟨by omega, by decide⟩ rfl (Nat.le_of_ble_eq_true rfl) (Nat.le_of_ble_eq_true rfl) (kV fun M1 hc => ?_)
    skip
    exact K _ hc
  · show E _ _ _ _ _ _ _ _ _ (QV G fun M' => RQ l 2 b n (twoN (SS l) (VV l) 9 3 3 k) M M')
    have rn := sp_Re_readNumber (a := 227) (lo := 0) (hi := 9) hG h h3 hn hn24 (Or.inl rfl) (by decide) (by decide)
    have fq : ∀ f k' M1, FS l f k' M1 → Fo 225 JC AC M M1 → (twoN (SS l) (VV l) 9 3 3 k).f = f ∧ (twoN (SS l) (VV l) 9 3 3 k).k = k' → E 210 0 0 Y_Re_readRest 120 [some (.ref 225), some (.int (nI 2))] [] G M1 (QV G fun M' => RQ l 2 b n (twoN (SS l) (VV l) 9 3 3 k) M M') := by
      intro f k' M1 hF hX e
      have hR := hF.1
      first | refine E_aload_n d_Re_readRest_120 rfl ?_ | refine E_aload_nN d_Re_readRest_120 rfl ?_
      first | refine E_aload_n d_Re_readRest_121 rfl ?_ | refine E_aload_nN d_Re_readRest_121 rfl ?_
      refine E_getR d_Re_readRest_122 gf_Re_18 (by exact hG.s (by decide) rfl) (by exact hR.o rfl) ?_
      refine E_iconst (v := nI 0) d_Re_readRest_125 rfl ?_
      refine E_iconst (v := nI 3) d_Re_readRest_126 rfl ?_
      refine E_V3 (sp_Re_readNumberF hG hF) d_Re_readRest_127 ml_Re_132 cb_Re_readNumber cv_Re_readNumber (by exact hG.s (by decide) rfl) ⟨by decide, rfl⟩ ⟨by omega, by decide⟩ rfl (Nat.le_of_ble_eq_true rfl) (Nat.le_of_ble_eq_true rfl) (kV fun M1 hc => ?_)
      subst hc
      refine E_goto 202 d_Re_readRest_130 rfl ?_
      refine E_retV d_Re_readRest_202 rfl ?_
      exact RQ.fl e hF hX
    have K : ∀ M1, (numF (SS l) (VV l) 0 9 k = 0 → RS l 2 (k + 1) b M1 ∧ mI M1 227 n = nI (VV l k) ∧ ∀ i, i ≠ n → mI M1 227 i = mI M 227 i) ∧ (numF (SS l) (VV l) 0 9 k ≠ 0 → FS l (numF (SS l) (VV l) 0 9 k) k M1) ∧ Fo 225 (fun j => 13 ≤ j ∧ j ≤ 17) (fun c => c = 227) M M1 → E 210 0 0 Y_Re_readRest 115 [some (.ref 225), some (.int (nI 2))] [] G M1 (QV G fun M' => RQ l 2 b n (twoN (SS l) (VV l) 9 3 3 k) M M') := by
      intro M1 hc1
      obtain ⟨q1, q2, x1⟩ := hc1
      by_cases g1 : numF (SS l) (VV l) 0 9 k = 0
      · obtain ⟨y1, y2, y3⟩ := q1 g1
        have tk := sp_Re_take (s := 3) hG y1 h3 (by decide) (by decide)
        by_cases g2 : SS l (k + 1) = 3
        · have K2 : ∀ M2, RS l 2 (k + 1 + 1) b M2 → Fo 225 (fun j => 13 ≤ j ∧ j ≤ 17) An M1 M2 → E 210 0 0 Y_Re_readRest 120 [some (.ref 225), some (.int (nI 2))] [] G M2 (QV G fun M' => RQ l 2 b n (twoN (SS l) (VV l) 9 3 3 k) M M') := by
            intro M2 z1 x2
            have hR := z1.R
            have hn2 : mI M2 225 6 = nI n := (x2.2.2.1 6 (by show ¬ (13 ≤ 6 ∧ 6 ≤ 17); omega)).trans ((x1.2.2.1 6 (by show ¬ (13 ≤ 6 ∧ 6 ≤ 17); omega)).trans hn)
            have rn2 := sp_Re_readNumber (a := 228) (lo := 0) (hi := 3) hG z1 h3 hn2 hn24 (Or.inr rfl) (by decide) (by decide)
            first | refine E_aload_n d_Re_readRest_120 rfl ?_ | refine E_aload_nN d_Re_readRest_120 rfl ?_
            first | refine E_aload_n d_Re_readRest_121 rfl ?_ | refine E_aload_nN d_Re_readRest_121 rfl ?_
            refine E_getR d_Re_readRest_122 gf_Re_18 (by exact hG.s (by decide) rfl) (by exact hR.o rfl) ?_
            refine E_iconst (v := nI 0) d_Re_readRest_125 rfl ?_
            refine E_iconst (v := nI 3) d_Re_readRest_126 rfl ?_
            refine E_V3 (rn2) d_Re_readRest_127 ml_Re_132 cb_Re_readNumber cv_Re_readNumber (by exact hG.s (by decide) rfl) ⟨by decide, rfl⟩ ⟨by omega, by decide⟩ rfl (Nat.le_of_ble_eq_true rfl) (Nat.le_of_ble_eq_true rfl) (kV fun M1 hc => ?_)
            skip
            refine E_goto 202 d_Re_readRest_130 rfl ?_
            refine E_retV d_Re_readRest_202 rfl ?_
            exact rq_two (by decide) g1 g2 ⟨y2, y3⟩ x1 x2 hc
          first | refine E_aload_n d_Re_readRest_115 rfl ?_ | refine E_aload_nN d_Re_readRest_115 rfl ?_
          refine E_iconst (v := nI 3) d_Re_readRest_116 rfl ?_
          refine E_V1 (tk) d_Re_readRest_117 ml_Re_126 cb_Re_take cv_Re_take (by exact hG.s (by decide) rfl) ⟨by decide, rfl⟩ ⟨by omega, by decide⟩ rfl (Nat.le_of_ble_eq_true rfl) (Nat.le_of_ble_eq_true rfl) (kV fun M1 hc => ?_)
          skip
          exact K2 _ (hc.1 g2) hc.2.2
        · first | refine E_aload_n d_Re_readRest_115 rfl ?_ | refine E_aload_nN d_Re_readRest_115 rfl ?_
          refine E_iconst (v := nI 3) d_Re_readRest_116 rfl ?_
          refine E_V1 (tk) d_Re_readRest_117 ml_Re_126 cb_Re_take cv_Re_take (by exact hG.s (by decide) rfl) ⟨by decide, rfl⟩ ⟨by omega, by decide⟩ rfl (Nat.le_of_ble_eq_true rfl) (Nat.le_of_ble_eq_true rfl) (kV fun M1 hc => ?_)
          skip
          exact fq 1 (k + 1) _ (hc.2.1 g2) ((x1.nm (Or.inl rfl)).tr hc.2.2.tk) (by unfold twoN; rw [if_neg (fun q => q g1), if_pos g2]; exact ⟨rfl, rfl⟩)
      · have hF := q2 g1
        first | refine E_aload_n d_Re_readRest_115 rfl ?_ | refine E_aload_nN d_Re_readRest_115 rfl ?_
        refine E_iconst (v := nI 3) d_Re_readRest_116 rfl ?_
        refine E_V1 (sp_Re_takeF hG hF) d_Re_readRest_117 ml_Re_126 cb_Re_take cv_Re_take (by exact hG.s (by decide) rfl) ⟨by decide, rfl⟩ ⟨by omega, by decide⟩ rfl (Nat.le_of_ble_eq_true rfl) (Nat.le_of_ble_eq_true rfl) (kV fun M1 hc => ?_)
        subst hc
        exact fq _ k _ hF (x1.nm (Or.inl rfl)) (by unfold twoN; rw [if_pos g1]; exact ⟨rfl, rfl⟩)
    refine E_iload_n d_Re_readRest_0 rfl ?_
    refine E_tableIn 104 d_Re_readRest_1 (by decide) (by decide) (by first | rfl | decide) rfl ?_
    first | refine E_aload_n d_Re_readRest_104 rfl ?_ | refine E_aload_nN d_Re_readRest_104 rfl ?_
    first | refine E_aload_n d_Re_readRest_105 rfl ?_ | refine E_aload_nN d_Re_readRest_105 rfl ?_
    refine E_getR d_Re_readRest_106 gf_Re_15 (by exact hG.s (by decide) rfl) (by exact hR.o rfl) ?_
    refine E_iconst (v := nI 0) d_Re_readRest_109 rfl ?_
    refine E_bipush (v := nI 9) d_Re_readRest_110 (by decide) ?_
    refine E_V3 (rn) d_Re_readRest_112 ml_Re_132 cb_Re_readNumber cv_Re_readNumber (by exact hG.s (by decide) rfl) ⟨by decide, rfl⟩ ⟨by omega, by decide⟩ rfl (Nat.le_of_ble_eq_true rfl) (Nat.le_of_ble_eq_true rfl) (kV fun M1 hc => ?_)
    skip
    exact K _ hc
  · show E _ _ _ _ _ _ _ _ _ (QV G fun M' => RQ l 4 b n (twoN (SS l) (VV l) 7 5 7 k) M M')
    have rn := sp_Re_readNumber (a := 227) (lo := 0) (hi := 7) hG h h3 hn hn24 (Or.inl rfl) (by decide) (by decide)
    have fq : ∀ f k' M1, FS l f k' M1 → Fo 225 JC AC M M1 → (twoN (SS l) (VV l) 7 5 7 k).f = f ∧ (twoN (SS l) (VV l) 7 5 7 k).k = k' → E 210 0 0 Y_Re_readRest 149 [some (.ref 225), some (.int (nI 4))] [] G M1 (QV G fun M' => RQ l 4 b n (twoN (SS l) (VV l) 7 5 7 k) M M') := by
      intro f k' M1 hF hX e
      have hR := hF.1
      first | refine E_aload_n d_Re_readRest_149 rfl ?_ | refine E_aload_nN d_Re_readRest_149 rfl ?_
      first | refine E_aload_n d_Re_readRest_150 rfl ?_ | refine E_aload_nN d_Re_readRest_150 rfl ?_
      refine E_getR d_Re_readRest_151 gf_Re_18 (by exact hG.s (by decide) rfl) (by exact hR.o rfl) ?_
      refine E_iconst (v := nI 0) d_Re_readRest_154 rfl ?_
      refine E_bipush (v := nI 7) d_Re_readRest_155 (by decide) ?_
      refine E_V3 (sp_Re_readNumberF hG hF) d_Re_readRest_157 ml_Re_132 cb_Re_readNumber cv_Re_readNumber (by exact hG.s (by decide) rfl) ⟨by decide, rfl⟩ ⟨by omega, by decide⟩ rfl (Nat.le_of_ble_eq_true rfl) (Nat.le_of_ble_eq_true rfl) (kV fun M1 hc => ?_)
      subst hc
      refine E_goto 202 d_Re_readRest_160 rfl ?_
      refine E_retV d_Re_readRest_202 rfl ?_
      exact RQ.fl e hF hX
    have K : ∀ M1, (numF (SS l) (VV l) 0 7 k = 0 → RS l 4 (k + 1) b M1 ∧ mI M1 227 n = nI (VV l k) ∧ ∀ i, i ≠ n → mI M1 227 i = mI M 227 i) ∧ (numF (SS l) (VV l) 0 7 k ≠ 0 → FS l (numF (SS l) (VV l) 0 7 k) k M1) ∧ Fo 225 (fun j => 13 ≤ j ∧ j ≤ 17) (fun c => c = 227) M M1 → E 210 0 0 Y_Re_readRest 144 [some (.ref 225), some (.int (nI 4))] [] G M1 (QV G fun M' => RQ l 4 b n (twoN (SS l) (VV l) 7 5 7 k) M M') := by
      intro M1 hc1
      obtain ⟨q1, q2, x1⟩ := hc1
      by_cases g1 : numF (SS l) (VV l) 0 7 k = 0
      · obtain ⟨y1, y2, y3⟩ := q1 g1
        have tk := sp_Re_take (s := 5) hG y1 h3 (by decide) (by decide)
        by_cases g2 : SS l (k + 1) = 5
        · have K2 : ∀ M2, RS l 4 (k + 1 + 1) b M2 → Fo 225 (fun j => 13 ≤ j ∧ j ≤ 17) An M1 M2 → E 210 0 0 Y_Re_readRest 149 [some (.ref 225), some (.int (nI 4))] [] G M2 (QV G fun M' => RQ l 4 b n (twoN (SS l) (VV l) 7 5 7 k) M M') := by
            intro M2 z1 x2
            have hR := z1.R
            have hn2 : mI M2 225 6 = nI n := (x2.2.2.1 6 (by show ¬ (13 ≤ 6 ∧ 6 ≤ 17); omega)).trans ((x1.2.2.1 6 (by show ¬ (13 ≤ 6 ∧ 6 ≤ 17); omega)).trans hn)
            have rn2 := sp_Re_readNumber (a := 228) (lo := 0) (hi := 7) hG z1 h3 hn2 hn24 (Or.inr rfl) (by decide) (by decide)
            first | refine E_aload_n d_Re_readRest_149 rfl ?_ | refine E_aload_nN d_Re_readRest_149 rfl ?_
            first | refine E_aload_n d_Re_readRest_150 rfl ?_ | refine E_aload_nN d_Re_readRest_150 rfl ?_
            refine E_getR d_Re_readRest_151 gf_Re_18 (by exact hG.s (by decide) rfl) (by exact hR.o rfl) ?_
            refine E_iconst (v := nI 0) d_Re_readRest_154 rfl ?_
            refine E_bipush (v := nI 7) d_Re_readRest_155 (by decide) ?_
            refine E_V3 (rn2) d_Re_readRest_157 ml_Re_132 cb_Re_readNumber cv_Re_readNumber (by exact hG.s (by decide) rfl) ⟨by decide, rfl⟩ ⟨by omega, by decide⟩ rfl (Nat.le_of_ble_eq_true rfl) (Nat.le_of_ble_eq_true rfl) (kV fun M1 hc => ?_)
            skip
            refine E_goto 202 d_Re_readRest_160 rfl ?_
            refine E_retV d_Re_readRest_202 rfl ?_
            exact rq_two (by decide) g1 g2 ⟨y2, y3⟩ x1 x2 hc
          first | refine E_aload_n d_Re_readRest_144 rfl ?_ | refine E_aload_nN d_Re_readRest_144 rfl ?_
          refine E_iconst (v := nI 5) d_Re_readRest_145 rfl ?_
          refine E_V1 (tk) d_Re_readRest_146 ml_Re_126 cb_Re_take cv_Re_take (by exact hG.s (by decide) rfl) ⟨by decide, rfl⟩ ⟨by omega, by decide⟩ rfl (Nat.le_of_ble_eq_true rfl) (Nat.le_of_ble_eq_true rfl) (kV fun M1 hc => ?_)
          skip
          exact K2 _ (hc.1 g2) hc.2.2
        · first | refine E_aload_n d_Re_readRest_144 rfl ?_ | refine E_aload_nN d_Re_readRest_144 rfl ?_
          refine E_iconst (v := nI 5) d_Re_readRest_145 rfl ?_
          refine E_V1 (tk) d_Re_readRest_146 ml_Re_126 cb_Re_take cv_Re_take (by exact hG.s (by decide) rfl) ⟨by decide, rfl⟩ ⟨by omega, by decide⟩ rfl (Nat.le_of_ble_eq_true rfl) (Nat.le_of_ble_eq_true rfl) (kV fun M1 hc => ?_)
          skip
          exact fq 1 (k + 1) _ (hc.2.1 g2) ((x1.nm (Or.inl rfl)).tr hc.2.2.tk) (by unfold twoN; rw [if_neg (fun q => q g1), if_pos g2]; exact ⟨rfl, rfl⟩)
      · have hF := q2 g1
        first | refine E_aload_n d_Re_readRest_144 rfl ?_ | refine E_aload_nN d_Re_readRest_144 rfl ?_
        refine E_iconst (v := nI 5) d_Re_readRest_145 rfl ?_
        refine E_V1 (sp_Re_takeF hG hF) d_Re_readRest_146 ml_Re_126 cb_Re_take cv_Re_take (by exact hG.s (by decide) rfl) ⟨by decide, rfl⟩ ⟨by omega, by decide⟩ rfl (Nat.le_of_ble_eq_true rfl) (Nat.le_of_ble_eq_true rfl) (kV fun M1 hc => ?_)
        subst hc
        exact fq _ k _ hF (x1.nm (Or.inl rfl)) (by unfold twoN; rw [if_pos g1]; exact ⟨rfl, rfl⟩)
    refine E_iload_n d_Re_readRest_0 rfl ?_
    refine E_tableIn 133 d_Re_readRest_1 (by decide) (by decide) (by first | rfl | decide) rfl ?_
    first | refine E_aload_n d_Re_readRest_133 rfl ?_ | refine E_aload_nN d_Re_readRest_133 rfl ?_
    first | refine E_aload_n d_Re_readRest_134 rfl ?_ | refine E_aload_nN d_Re_readRest_134 rfl ?_
    refine E_getR d_Re_readRest_135 gf_Re_15 (by exact hG.s (by decide) rfl) (by exact hR.o rfl) ?_
    refine E_iconst (v := nI 0) d_Re_readRest_138 rfl ?_
    refine E_bipush (v := nI 7) d_Re_readRest_139 (by decide) ?_
    refine E_V3 (rn) d_Re_readRest_141 ml_Re_132 cb_Re_readNumber cv_Re_readNumber (by exact hG.s (by decide) rfl) ⟨by decide, rfl⟩ ⟨by omega, by decide⟩ rfl (Nat.le_of_ble_eq_true rfl) (Nat.le_of_ble_eq_true rfl) (kV fun M1 hc => ?_)
    skip
    exact K _ hc
  · show E _ _ _ _ _ _ _ _ _ (QV G fun M' => RQ l 6 b n (oneN (SS l) (VV l) 0 8 k) M M')
    have rn := sp_Re_readNumber (a := 227) (lo := 0) (hi := 8) hG h h3 hn hn24 (Or.inl rfl) (by decide) (by decide)
    refine E_iload_n d_Re_readRest_0 rfl ?_
    refine E_tableIn 163 d_Re_readRest_1 (by decide) (by decide) (by first | rfl | decide) rfl ?_
    first | refine E_aload_n d_Re_readRest_163 rfl ?_ | refine E_aload_nN d_Re_readRest_163 rfl ?_
    first | refine E_aload_n d_Re_readRest_164 rfl ?_ | refine E_aload_nN d_Re_readRest_164 rfl ?_
    refine E_getR d_Re_readRest_165 gf_Re_15 (by exact hG.s (by decide) rfl) (by exact hR.o rfl) ?_
    refine E_iconst (v := nI 0) d_Re_readRest_168 rfl ?_
    refine E_bipush (v := nI 8) d_Re_readRest_169 (by decide) ?_
    refine E_V3 (rn) d_Re_readRest_171 ml_Re_132 cb_Re_readNumber cv_Re_readNumber (by exact hG.s (by decide) rfl) ⟨by decide, rfl⟩ ⟨by omega, by decide⟩ rfl (Nat.le_of_ble_eq_true rfl) (Nat.le_of_ble_eq_true rfl) (kV fun M1 hc => ?_)
    skip
    refine E_goto 202 d_Re_readRest_174 rfl ?_
    refine E_retV d_Re_readRest_202 rfl ?_
    exact rq_one (by decide) hc
  · show E _ _ _ _ _ _ _ _ _ (QV G fun M' => RQ l 7 b n (oneN (SS l) (VV l) 0 7 k) M M')
    have rn := sp_Re_readNumber (a := 227) (lo := 0) (hi := 7) hG h h3 hn hn24 (Or.inl rfl) (by decide) (by decide)
    refine E_iload_n d_Re_readRest_0 rfl ?_
    refine E_tableIn 191 d_Re_readRest_1 (by decide) (by decide) (by first | rfl | decide) rfl ?_
    first | refine E_aload_n d_Re_readRest_191 rfl ?_ | refine E_aload_nN d_Re_readRest_191 rfl ?_
    first | refine E_aload_n d_Re_readRest_192 rfl ?_ | refine E_aload_nN d_Re_readRest_192 rfl ?_
    refine E_getR d_Re_readRest_193 gf_Re_15 (by exact hG.s (by decide) rfl) (by exact hR.o rfl) ?_
    refine E_iconst (v := nI 0) d_Re_readRest_196 rfl ?_
    refine E_bipush (v := nI 7) d_Re_readRest_197 (by decide) ?_
    refine E_V3 (rn) d_Re_readRest_199 ml_Re_132 cb_Re_readNumber cv_Re_readNumber (by exact hG.s (by decide) rfl) ⟨by decide, rfl⟩ ⟨by omega, by decide⟩ rfl (Nat.le_of_ble_eq_true rfl) (Nat.le_of_ble_eq_true rfl) (kV fun M1 hc => ?_)
    skip
    refine E_retV d_Re_readRest_202 rfl ?_
    exact rq_one (by decide) hc
  · show E _ _ _ _ _ _ _ _ _ (QV G fun M' => RQ l 8 b n (oneN (SS l) (VV l) 0 7 k) M M')
    have rn := sp_Re_readNumber (a := 227) (lo := 0) (hi := 7) hG h h3 hn hn24 (Or.inl rfl) (by decide) (by decide)
    refine E_iload_n d_Re_readRest_0 rfl ?_
    refine E_tableIn 191 d_Re_readRest_1 (by decide) (by decide) (by first | rfl | decide) rfl ?_
    first | refine E_aload_n d_Re_readRest_191 rfl ?_ | refine E_aload_nN d_Re_readRest_191 rfl ?_
    first | refine E_aload_n d_Re_readRest_192 rfl ?_ | refine E_aload_nN d_Re_readRest_192 rfl ?_
    refine E_getR d_Re_readRest_193 gf_Re_15 (by exact hG.s (by decide) rfl) (by exact hR.o rfl) ?_
    refine E_iconst (v := nI 0) d_Re_readRest_196 rfl ?_
    refine E_bipush (v := nI 7) d_Re_readRest_197 (by decide) ?_
    refine E_V3 (rn) d_Re_readRest_199 ml_Re_132 cb_Re_readNumber cv_Re_readNumber (by exact hG.s (by decide) rfl) ⟨by decide, rfl⟩ ⟨by omega, by decide⟩ rfl (Nat.le_of_ble_eq_true rfl) (Nat.le_of_ble_eq_true rfl) (kV fun M1 hc => ?_)
    skip
    refine E_retV d_Re_readRest_202 rfl ?_
    exact rq_one (by decide) hc
  · show E _ _ _ _ _ _ _ _ _ (QV G fun M' => RQ l 9 b n (oneN (SS l) (VV l) 1 60 k) M M')
    have rn := sp_Re_readNumber (a := 227) (lo := 1) (hi := 60) hG h h3 hn hn24 (Or.inl rfl) (by decide) (by decide)
    refine E_iload_n d_Re_readRest_0 rfl ?_
    refine E_tableIn 177 d_Re_readRest_1 (by decide) (by decide) (by first | rfl | decide) rfl ?_
    first | refine E_aload_n d_Re_readRest_177 rfl ?_ | refine E_aload_nN d_Re_readRest_177 rfl ?_
    first | refine E_aload_n d_Re_readRest_178 rfl ?_ | refine E_aload_nN d_Re_readRest_178 rfl ?_
    refine E_getR d_Re_readRest_179 gf_Re_15 (by exact hG.s (by decide) rfl) (by exact hR.o rfl) ?_
    refine E_iconst (v := nI 1) d_Re_readRest_182 rfl ?_
    refine E_bipush (v := nI 60) d_Re_readRest_183 (by decide) ?_
    refine E_V3 (rn) d_Re_readRest_185 ml_Re_132 cb_Re_readNumber cv_Re_readNumber (by exact hG.s (by decide) rfl) ⟨by decide, rfl⟩ ⟨by omega, by decide⟩ rfl (Nat.le_of_ble_eq_true rfl) (Nat.le_of_ble_eq_true rfl) (kV fun M1 hc => ?_)
    skip
    refine E_goto 202 d_Re_readRest_188 rfl ?_
    refine E_retV d_Re_readRest_202 rfl ?_
    exact rq_one (by decide) hc
end RDj
