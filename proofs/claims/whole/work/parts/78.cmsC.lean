section CMc
variable {c : Cr} {G : Geo} {M : Mem}
theorem sp_Cr_stepAt (hG : GC G) (hR : RC M) {fs k : Nat} {x : Int32} (hfs : mI M 1 5 = nI fs) (hx : nI fs + x = nI k) (hk : k < 60) : E 0 0 0 Y_Cr_stepAt 0 [some (.ref 1), some (.int x), none] [] G M (QR G fun r M' => r = some (1 + 14 + 3 * (k % 30)) ∧ M' = M) := by
  first | refine E_aload_n d_Cr_stepAt_0 rfl ?_ | refine E_aload_nN d_Cr_stepAt_0 rfl ?_
  refine E_getI d_Cr_stepAt_1 gf_Cr_65 (by first | exact hG.s (by decide) rfl) (by first | exact hfs | exact hst | exact hm.people | rfl) ?_
  refine E_iload_n d_Cr_stepAt_4 rfl ?_
  first | (with_reducible refine E_isN2 ?_; refine E_iaddN d_Cr_stepAt_5 ?_) | refine E_iadd d_Cr_stepAt_5 ?_
  rw [hx]
  refine E_bipush (v := nI 30) d_Cr_stepAt_6 (by decide) ?_
  first | (with_reducible refine E_isN2 ?_; refine E_iremN d_Cr_stepAt_8 (by omega) (by omega) (by omega) ?_) | refine E_irem d_Cr_stepAt_8 (by decide) ?_
  refine E_istore_2 d_Cr_stepAt_9 rfl ?_
  refine E_iload_n d_Cr_stepAt_10 rfl ?_
  first | (with_reducible refine E_isN1 ?_; refine E_if_lt 32 d_Cr_stepAt_11 rfl (nz_lt (by omega) fun h11 => ?_) (nz_nlt (by omega) fun h11 => ?_)) | refine E_if_lt 32 d_Cr_stepAt_11 rfl (fun h11 => ?_) (fun h11 => ?_)
  · exfalso; exact absurd h11 (Nat.not_lt_zero _)
  refine E_iload_n d_Cr_stepAt_14 rfl ?_
  first | refine E_aload_n d_Cr_stepAt_15 rfl ?_ | refine E_aload_nN d_Cr_stepAt_15 rfl ?_
  refine E_getR d_Cr_stepAt_16 gf_Cr_28 (by first | exact hG.s (by decide) rfl) (by first | exact hR.o rfl | exact hR.c cr1 rfl | exact hR.m0 ad2) ?_
  refine E_alen d_Cr_stepAt_19 (by first | exact hG.s (by decide) rfl) (by decide) rfl ?_
  first | (with_reducible refine E_isN2 ?_; refine E_icmp_ge 32 d_Cr_stepAt_20 rfl (nb_le (by omega) (by omega) fun h20 => ?_) (nb_nle (by omega) (by omega) fun h20 => ?_)) | refine E_icmp_ge 32 d_Cr_stepAt_20 rfl (fun h20 => ?_) (fun h20 => ?_)
  · exfalso; omega
  first | refine E_aload_n d_Cr_stepAt_23 rfl ?_ | refine E_aload_nN d_Cr_stepAt_23 rfl ?_
  refine E_getR d_Cr_stepAt_24 gf_Cr_28 (by first | exact hG.s (by decide) rfl) (by first | exact hR.o rfl | exact hR.c cr1 rfl | exact hR.m0 ad2) ?_
  refine E_iload_n d_Cr_stepAt_27 rfl ?_
  first | refine E_aald4 d_Cr_stepAt_28 (by first | exact hG.s (by decide) rfl) (by exact ⟨by with_reducible rfl, by omega, by decide⟩) (by exact hR.b cr1 (by omega)) ?_ | refine E_aald5 d_Cr_stepAt_28 (by first | exact hG.s (by decide) rfl) (by exact ⟨by with_reducible rfl, by omega, by decide⟩) (by exact hR.b cr1 (by omega)) ?_
  refine E_goto 33 d_Cr_stepAt_29 rfl ?_
  refine E_retR (r := some (1 + 14 + 3 * (k % 30))) d_Cr_stepAt_33 rfl rfl ?_
  exact ⟨rfl, rfl⟩
theorem sp_Cr_stepAtN (hG : GC G) (hR : RC M) {fs : Nat} {x : Int32} (hfs : mI M 1 5 = nI fs) (hx : nI fs + x = -1) : E 0 0 0 Y_Cr_stepAt 0 [some (.ref 1), some (.int x), none] [] G M (QR G fun r M' => r = none ∧ M' = M) := by
  first | refine E_aload_n d_Cr_stepAt_0 rfl ?_ | refine E_aload_nN d_Cr_stepAt_0 rfl ?_
  refine E_getI d_Cr_stepAt_1 gf_Cr_65 (by first | exact hG.s (by decide) rfl) (by first | exact hfs | exact hst | exact hm.people | rfl) ?_
  refine E_iload_n d_Cr_stepAt_4 rfl ?_
  first | (with_reducible refine E_isN2 ?_; refine E_iaddN d_Cr_stepAt_5 ?_) | refine E_iadd d_Cr_stepAt_5 ?_
  rw [hx]
  refine E_bipush (v := nI 30) d_Cr_stepAt_6 (by decide) ?_
  first | (with_reducible refine E_isN2 ?_; refine E_iremN d_Cr_stepAt_8 (by omega) (by omega) (by omega) ?_) | refine E_irem d_Cr_stepAt_8 (by decide) ?_
  refine E_istore_2 d_Cr_stepAt_9 rfl ?_
  refine E_iload_n d_Cr_stepAt_10 rfl ?_
  first | (with_reducible refine E_isN1 ?_; refine E_if_lt 32 d_Cr_stepAt_11 rfl (nz_lt (by omega) fun h11 => ?_) (nz_nlt (by omega) fun h11 => ?_)) | refine E_if_lt 32 d_Cr_stepAt_11 rfl (fun h11 => ?_) (fun h11 => ?_)
  rotate_left
  · exfalso; exact h11 (by decide)
  refine E_null d_Cr_stepAt_32 ?_
  refine E_retR (r := none) d_Cr_stepAt_33 rfl rfl ?_
  exact ⟨rfl, rfl⟩
theorem sp_Cr_copyStep (hG : GC G) (hR : RC M) {a b : Nat} (ha : MoAd a) (hb : MoAd b) (hab : a ≠ b) : E 2 0 0 Y_Cr_copyStep 0 [some (.ref a), some (.ref b)] [] G M (QV G fun M' => Sc (Bk a) M M' ∧ ∀ m, Mok m → MoC m b M → MoC m a M') := by
  have hs := sp_Mo_copyFrom hG hR ha hb hab
  first | refine E_aload_n d_Cr_copyStep_0 rfl ?_ | refine E_aload_nN d_Cr_copyStep_0 rfl ?_
  refine E_ifnullR d_Cr_copyStep_1 ?_
  first | refine E_aload_n d_Cr_copyStep_4 rfl ?_ | refine E_aload_nN d_Cr_copyStep_4 rfl ?_
  refine E_ifnullR d_Cr_copyStep_5 ?_
  first | refine E_aload_n d_Cr_copyStep_8 rfl ?_ | refine E_aload_nN d_Cr_copyStep_8 rfl ?_
  first | refine E_aload_n d_Cr_copyStep_9 rfl ?_ | refine E_aload_nN d_Cr_copyStep_9 rfl ?_
  refine E_V1 (hs) d_Cr_copyStep_10 ml_Cr_57 cb_Mo_copyFrom cv_Mo_copyFrom (by exact hG.m ha) ⟨by decide, rfl⟩ ⟨by decide, by decide⟩ rfl (Nat.le_of_ble_eq_true rfl) (Nat.le_of_ble_eq_true rfl) (kV fun M1 hc => ?_)
  skip
  refine E_retV d_Cr_copyStep_13 rfl ?_
  exact hc
theorem push_at {l : List Mo} {e m : Mo} {i : Nat} (hl : l.length ≤ 30) (h : (push30 l e)[i]? = some m) : (l.length < 30 ∧ ((i < l.length ∧ l[i]? = some m) ∨ (i = l.length ∧ m = e))) ∨ (l.length = 30 ∧ ((i < 29 ∧ l[i + 1]? = some m) ∨ (i = 29 ∧ m = e))) := by
  unfold push30 at h
  by_cases q : l.length = 30
  · rw [if_pos q] at h
    refine Or.inr ⟨q, ?_⟩
    have ht : l.tail.length = 29 := by rw [List.length_tail, q]
    by_cases q2 : i < 29
    · rw [List.getElem?_append_left (by omega), List.getElem?_tail] at h
      exact Or.inl ⟨q2, h⟩
    · rw [List.getElem?_append_right (by omega), ht] at h
      by_cases q3 : i = 29
      · subst q3
        exact Or.inr ⟨rfl, (Option.some.inj h).symm⟩
      · rw [List.getElem?_eq_none (by simp; omega)] at h
        cases h
  · rw [if_neg q] at h
    refine Or.inl ⟨by omega, ?_⟩
    by_cases q2 : i < l.length
    · rw [List.getElem?_append_left q2] at h
      exact Or.inl ⟨q2, h⟩
    · rw [List.getElem?_append_right (by omega)] at h
      by_cases q3 : i = l.length
      · subst q3
        rw [Nat.sub_self] at h
        exact Or.inr ⟨rfl, (Option.some.inj h).symm⟩
      · rw [List.getElem?_eq_none (by simp; omega)] at h
        cases h
theorem HC_steps {M' : Mem} {l : List Mo} (h : HC c 1 G M) (hw : Wf (Cr.mk c.now c.sort c.begun c.hears l c.texts c.ruling c.parties c.saids c.villages)) (hr : ∀ a, a ≠ 212 → mR M' a = mR M a) (hk : ∀ k, (2 ≤ k ∧ k ≤ 14) ∨ 234 ≤ k → mI M' k = mI M k) (hf : ∀ j, j ≠ 5 → j ≠ 6 → mI M' 1 j = mI M 1 j)
    (hst : ∃ fs, fs < 30 ∧ mI M' 1 5 = nI fs ∧ ∀ i m, l[i]? = some m → MoC m (1 + 14 + 3 * ((fs + i) % 30)) M') (h6 : mI M' 1 6 = nI l.length) : HC (Cr.mk c.now c.sort c.begun c.hears l c.texts c.ruling c.parties c.saids c.villages) 1 G M' := by
  refine ⟨h.now.cg (hk _ (by omega)) (hk _ (by omega)) (hk _ (by omega)), fun p hp => ?_, fun p hp => ?_, fun p hp => ?_, hst, h6, (hf 8 (by decide) (by decide)).trans h.texts, fun t ht => ?_, (hf 9 (by decide) (by decide)).trans h.ruling, (hf 12 (by decide) (by decide)).trans h.parties, fun i hi => ?_, (hf 15 (by decide) (by decide)).trans h.saids, fun i hi => ?_, fun v hv => ?_, hw⟩
  · rw [hk (1 + 4) (by omega)]; exact h.sort hp
  · rw [hk (1 + 5) (by omega)]; exact h.begun hp
  · rw [hk (1 + 6) (by omega)]; exact h.hears hp
  · obtain ⟨a, r1, r2⟩ := h.text ht
    exact ⟨a, by rw [hr _ (by decide)]; exact r1, r2.cg fun k hk2 => ⟨hk k (by omega), hr k (by omega)⟩⟩
  · rw [hk (1 + 9) (by omega), hk (1 + 10) (by omega)]; exact h.party hi
  · rw [hk (1 + 11) (by omega), hk (1 + 12) (by omega)]; exact h.said hi
  · rw [hk (1 + 13) (by omega)]; exact h.village hv
theorem sp_Cr_keepStep (hC : CM c G M) : E 3 0 0 Y_Cr_keepStep 0 [some (.ref 1)] [] G M (QV G fun M' => CM (keepS c) G M' ∧ Sc CW M M') := by
  have hG := hC.G
  have hR := hC.R
  have h := hC.H
  have hw := h.w
  have hl := hw.steps
  have hst := h.steps
  obtain ⟨fs, f1, hfs, f3⟩ := h.fs
  have hx : nI fs + nI c.steps.length = nI (fs + c.steps.length) := nI_add _ _
  have ha : MoAd (1 + 14 + 3 * ((fs + c.steps.length) % 30)) := MoAd.b cr1 (by omega)
  have hc1 := sp_Cr_copyStep hG hR ha ad2 (by omega)
  have key : ∀ M1, Sc (Bk (1 + 14 + 3 * ((fs + c.steps.length) % 30))) M M1 → (∀ m, Mok m → MoC m 2 M → MoC m (1 + 14 + 3 * ((fs + c.steps.length) % 30)) M1) → ∀ M2, (∀ k, k ≠ 1 → mI M2 k = mI M1 k) → (∀ a, mR M2 a = mR M1 a) → (∀ j, j ≠ 5 → j ≠ 6 → mI M2 1 j = mI M1 1 j) → Sc CW M1 M2 →
      (c.steps.length < 30 → mI M2 1 5 = nI fs ∧ mI M2 1 6 = nI (c.steps.length + 1)) → (c.steps.length = 30 → mI M2 1 5 = nI ((fs + 1) % 30) ∧ mI M2 1 6 = nI 30) → CM (keepS c) G M2 ∧ Sc CW M M2 := by
    intro M1 hS hcp M2 e1 e2 e3 hS2 c1 c2
    have hX : Sc CW M M2 := (hS.wk (fun a q => CW.r (by unfold Bk at q; omega))).tr hS2
    have hnow := hcp _ hw.mo h.now
    have eb : ∀ k, k ≠ 1 → ¬ Bk (1 + 14 + 3 * ((fs + c.steps.length) % 30)) k → mI M2 k = mI M k := fun k q1 q2 => (e1 k q1).trans (hS.2 k q2).1
    have old : ∀ i m, c.steps[i]? = some m → (fs + i) % 30 ≠ (fs + c.steps.length) % 30 → MoC m (1 + 14 + 3 * ((fs + i) % 30)) M2 := fun i m hi hne => (f3 i m hi).cg (eb _ (by omega) (by unfold Bk; omega)) (eb _ (by omega) (by unfold Bk; omega)) (eb _ (by omega) (by unfold Bk; omega))
    have new : MoC c.now (1 + 14 + 3 * ((fs + c.steps.length) % 30)) M2 := hnow.cg (e1 _ (by omega)) (e1 _ (by omega)) (e1 _ (by omega))
    have hlen : (push30 c.steps c.now).length = if c.steps.length = 30 then 30 else c.steps.length + 1 := by
      unfold push30
      split
      · rename_i q; rw [List.length_append, List.length_tail, q]; rfl
      · rw [List.length_append]; rfl
    refine ⟨⟨hG, hC.R.sc hX, HC_steps (l := push30 c.steps c.now) h (Wf_keep hw) (fun a q => funext fun j => (congrFun (e2 a) j).trans (hS.1 a j (fun r => absurd r q))) (fun k hk => eb k (by omega) (by unfold Bk; omega)) (fun j q1 q2 => (e3 j q1 q2).trans (by rw [(hS.2 1 (by unfold Bk; omega)).1])) ?_ ?_⟩, hX⟩
    · by_cases q : c.steps.length = 30
      · refine ⟨(fs + 1) % 30, by omega, (c2 q).1, fun i m hi => ?_⟩
        rcases push_at hl hi with ⟨q2, -⟩ | ⟨-, ⟨q3, q4⟩ | ⟨q3, q4⟩⟩
        · omega
        · rw [show ((fs + 1) % 30 + i) % 30 = (fs + (i + 1)) % 30 by omega]
          exact old (i + 1) m q4 (by omega)
        · rw [q4, show ((fs + 1) % 30 + i) % 30 = (fs + c.steps.length) % 30 by omega]
          exact new
      · refine ⟨fs, f1, (c1 (by omega)).1, fun i m hi => ?_⟩
        rcases push_at hl hi with ⟨-, ⟨q3, q4⟩ | ⟨q3, q4⟩⟩ | ⟨q2, -⟩
        · exact old i m q4 (by omega)
        · rw [q4, q3]; exact new
        · omega
    · rw [hlen]
      by_cases q : c.steps.length = 30
      · rw [if_pos q]; exact (c2 q).2
      · rw [if_neg q]; exact (c1 (by omega)).2
  have fr : ∀ M1, Sc (Bk (1 + 14 + 3 * ((fs + c.steps.length) % 30))) M M1 → RC M1 ∧ mI M1 1 = mI M 1 := fun M1 hS => ⟨hR.sc hS, (hS.2 1 (by unfold Bk; omega)).1⟩
  first | refine E_aload_n d_Cr_keepStep_0 rfl ?_ | refine E_aload_nN d_Cr_keepStep_0 rfl ?_
  first | refine E_aload_n d_Cr_keepStep_1 rfl ?_ | refine E_aload_nN d_Cr_keepStep_1 rfl ?_
  refine E_getI d_Cr_keepStep_2 gf_Cr_68 (by first | exact hG.s (by decide) rfl) (by first | exact hst1 | exact hfs1 | exact hst | exact hfs) ?_
  refine E_V1 (sp_Cr_stepAt hG hR hfs hx (by omega)) d_Cr_keepStep_5 ml_Cr_115 cb_Cr_stepAt cv_Cr_stepAt (by first | exact hG.s (by decide) rfl) ⟨by decide, rfl⟩ ⟨by decide, by decide⟩ rfl (Nat.le_of_ble_eq_true rfl) (Nat.le_of_ble_eq_true rfl) (kR fun r1 M1 hc => ?_)
  obtain ⟨rfl, rfl⟩ := hc
  first | refine E_aload_n d_Cr_keepStep_8 rfl ?_ | refine E_aload_nN d_Cr_keepStep_8 rfl ?_
  refine E_getR d_Cr_keepStep_9 gf_Cr_12 (by first | exact hG.s (by decide) rfl) (by exact hR.c cr1 rfl) ?_
  refine E_S2 (hc1) d_Cr_keepStep_12 ml_Cr_61 cb_Cr_copyStep cs_Cr_copyStep ⟨by decide, by decide⟩ rfl (Nat.le_of_ble_eq_true rfl) (Nat.le_of_ble_eq_true rfl) (kV fun M1 hc => ?_)
  obtain ⟨hS, hcp⟩ := hc; obtain ⟨hR1, e1⟩ := fr _ hS; have hst1 := (congrFun e1 6).trans hst; have hfs1 := (congrFun e1 5).trans hfs; have k2 := key _ hS hcp
  first | refine E_aload_n d_Cr_keepStep_15 rfl ?_ | refine E_aload_nN d_Cr_keepStep_15 rfl ?_
  refine E_getI d_Cr_keepStep_16 gf_Cr_68 (by first | exact hG.s (by decide) rfl) (by first | exact hst1 | exact hfs1 | exact hst | exact hfs) ?_
  refine E_bipush (v := nI 30) d_Cr_keepStep_19 (by decide) ?_
  first | (with_reducible refine E_isN2 ?_; refine E_icmp_ge 37 d_Cr_keepStep_21 rfl (nb_le (by omega) (by omega) fun h21 => ?_) (nb_nle (by omega) (by omega) fun h21 => ?_)) | refine E_icmp_ge 37 d_Cr_keepStep_21 rfl (fun h21 => ?_) (fun h21 => ?_)
  · first | refine E_aload_n d_Cr_keepStep_37 rfl ?_ | refine E_aload_nN d_Cr_keepStep_37 rfl ?_
    first | refine E_aload_n d_Cr_keepStep_38 rfl ?_ | refine E_aload_nN d_Cr_keepStep_38 rfl ?_
    refine E_getI d_Cr_keepStep_39 gf_Cr_65 (by first | exact hG.s (by decide) rfl) (by first | exact hst1 | exact hfs1 | exact hst | exact hfs) ?_
    refine E_iconst (v := nI 1) d_Cr_keepStep_42 rfl ?_
    first | (with_reducible refine E_isN2 ?_; refine E_iaddN d_Cr_keepStep_43 ?_) | refine E_iadd d_Cr_keepStep_43 ?_
    refine E_bipush (v := nI 30) d_Cr_keepStep_44 (by decide) ?_
    first | (with_reducible refine E_isN2 ?_; refine E_iremN d_Cr_keepStep_46 (by omega) (by omega) (by omega) ?_) | refine E_irem d_Cr_keepStep_46 (by decide) ?_
    refine E_putI d_Cr_keepStep_47 gf_Cr_65 (by first | exact hG.s (by decide) rfl) rfl rfl ?_
    refine E_retV d_Cr_keepStep_50 rfl ?_
    first | exact k2 _ (fun k q => mI_ne q) (fun _ => rfl) (fun j q1 q2 => by rw [mI_wa, if_neg q2]) (Sc.rf.wI (CW.r (by omega))) (fun q => ⟨by rw [mI_wa, if_neg (by decide)]; exact hfs1, by rw [mI_wa, if_pos rfl]⟩) (fun q => absurd h21 (by omega)) | exact k2 _ (fun k q => mI_ne q) (fun _ => rfl) (fun j q1 q2 => by rw [mI_wa, if_neg q1]) (Sc.rf.wI (CW.r (by omega))) (fun q => absurd h21 (by omega)) (fun q => ⟨by rw [mI_wa, if_pos rfl], by rw [mI_wa, if_neg (by decide), ← q]; exact hst1⟩)
  · first | refine E_aload_n d_Cr_keepStep_24 rfl ?_ | refine E_aload_nN d_Cr_keepStep_24 rfl ?_
    refine E_dup d_Cr_keepStep_25 rfl ?_
    refine E_getI d_Cr_keepStep_26 gf_Cr_68 (by first | exact hG.s (by decide) rfl) (by first | exact hst1 | exact hfs1 | exact hst | exact hfs) ?_
    refine E_iconst (v := nI 1) d_Cr_keepStep_29 rfl ?_
    first | (with_reducible refine E_isN2 ?_; refine E_iaddN d_Cr_keepStep_30 ?_) | refine E_iadd d_Cr_keepStep_30 ?_
    refine E_putI d_Cr_keepStep_31 gf_Cr_68 (by first | exact hG.s (by decide) rfl) rfl rfl ?_
    refine E_goto 50 d_Cr_keepStep_34 rfl ?_
    refine E_retV d_Cr_keepStep_50 rfl ?_
    first | exact k2 _ (fun k q => mI_ne q) (fun _ => rfl) (fun j q1 q2 => by rw [mI_wa, if_neg q2]) (Sc.rf.wI (CW.r (by omega))) (fun q => ⟨by rw [mI_wa, if_neg (by decide)]; exact hfs1, by rw [mI_wa, if_pos rfl]⟩) (fun q => absurd h21 (by omega)) | exact k2 _ (fun k q => mI_ne q) (fun _ => rfl) (fun j q1 q2 => by rw [mI_wa, if_neg q1]) (Sc.rf.wI (CW.r (by omega))) (fun q => absurd h21 (by omega)) (fun q => ⟨by rw [mI_wa, if_pos rfl], by rw [mI_wa, if_neg (by decide), ← q]; exact hst1⟩)
end CMc
