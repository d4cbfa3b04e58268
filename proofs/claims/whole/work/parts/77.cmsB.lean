section CMb
variable {c : Cr} {G : Geo} {M : Mem}
def perM (M : Mem) (n l s : Nat) : Mem := wI (wI (wI (wI (wI M (1 + 1 + 1) n (nI l)) (1 + 5) n (nI l)) (1 + 4) n (nI s)) (1 + 6) n (nI 0)) (1 + 1) 2 (nI (n + 1))
theorem CM_person (hC : CM c G M) {l s : Nat} (h8 : c.now.people < 8) (hl : l ≤ 9) (hs : s ≤ 3) : CM (addP c l s) G (perM M c.now.people l s) ∧ Sc CW M (perM M c.now.people l s) := by
  have h := hC.H
  have hw := h.w
  have hX : Sc CW M (perM M c.now.people l s) := ((((Sc.rf.wI (P := CW) (CW.r (by omega))).wI (CW.r (by omega))).wI (CW.r (by omega))).wI (CW.r (by omega))).wI (CW.r (by omega))
  have e : ∀ k, k ≠ 1 + 1 → k ≠ 1 + 1 + 1 → k ≠ 1 + 4 → k ≠ 1 + 5 → k ≠ 1 + 6 → mI (perM M c.now.people l s) k = mI M k := fun k k1 k2 k3 k4 k5 => by unfold perM; rw [mI_ne k1, mI_ne k5, mI_ne k3, mI_ne k4, mI_ne k2]
  have e0 : mI (perM M c.now.people l s) 1 = mI M 1 := e 1 (by decide) (by decide) (by decide) (by decide) (by decide)
  have e3 : ∀ j, mI (perM M c.now.people l s) (1 + 1 + 1) j = if j = c.now.people then nI l else mI M (1 + 1 + 1) j := fun j => by unfold perM; rw [mI_wx (by decide), mI_wx (by decide), mI_wx (by decide), mI_wx (by decide), mI_wa]
  have e6 : ∀ j, mI (perM M c.now.people l s) (1 + 5) j = if j = c.now.people then nI l else mI M (1 + 5) j := fun j => by unfold perM; rw [mI_wx (by decide), mI_wx (by decide), mI_wx (by decide), mI_wa, mI_wx (by decide)]
  have e5 : ∀ j, mI (perM M c.now.people l s) (1 + 4) j = if j = c.now.people then nI s else mI M (1 + 4) j := fun j => by unfold perM; rw [mI_wx (by decide), mI_wx (by decide), mI_wa, mI_wx (by decide), mI_wx (by decide)]
  have e7 : ∀ j, mI (perM M c.now.people l s) (1 + 6) j = if j = c.now.people then nI 0 else mI M (1 + 6) j := fun j => by unfold perM; rw [mI_wx (by decide), mI_wa, mI_wx (by decide), mI_wx (by decide), mI_wx (by decide)]
  have e2 : ∀ j, mI (perM M c.now.people l s) (1 + 1) j = if j = 2 then nI (c.now.people + 1) else mI M (1 + 1) j := fun j => by unfold perM; rw [mI_wa, mI_wx (by decide), mI_wx (by decide), mI_wx (by decide), mI_wx (by decide)]
  have e4 : mI (perM M c.now.people l s) (1 + 1 + 2) = mI M (1 + 1 + 2) := e _ (by decide) (by decide) (by decide) (by decide) (by decide)
  have tb : ∀ (g : Nat → Nat) (f f' : Nat → Int32) (v : Nat), (∀ p, p < c.now.people → f p = nI (g p)) → (∀ j, f' j = if j = c.now.people then nI v else f j) → ∀ p, p < c.now.people + 1 → f' p = nI (if p = c.now.people then v else g p) := fun g f f' v h1 h2 p hp => by
    rw [h2]
    by_cases q : p = c.now.people
    · rw [if_pos q, if_pos q]
    · rw [if_neg q, if_neg q]; exact h1 p (by omega)
  refine ⟨⟨hC.G, hC.R.sc hX, ?_⟩, hX⟩
  obtain ⟨m0, m1, m2, m3, m4, m5, m6, m7⟩ := h.now
  obtain ⟨fs, q1, q2, q3⟩ := h.fs
  have mo : ∀ i, MoC ((c.steps[i]?).getD c.now) (1 + 14 + 3 * ((fs + i) % 30)) M → MoC ((c.steps[i]?).getD c.now) (1 + 14 + 3 * ((fs + i) % 30)) (perM M c.now.people l s) := fun i q => q.cg (e _ (by omega) (by omega) (by omega) (by omega) (by omega)) (e _ (by omega) (by omega) (by omega) (by omega) (by omega)) (e _ (by omega) (by omega) (by omega) (by omega) (by omega))
  refine ⟨⟨by rw [e2, if_pos rfl]; rfl, by rw [e2, if_neg (by decide)]; exact m1, by rw [e2, if_neg (by decide)]; exact m2, by rw [e2, if_neg (by decide)]; exact m3, by rw [e2, if_neg (by decide)]; exact m4, by rw [e2, if_neg (by decide)]; exact m5, tb c.now.lean _ _ l m6 e3, fun i hi => by rw [e4]; exact m7 i hi⟩, tb c.sort _ _ s (fun p hp => h.sort hp) e5, tb c.begun _ _ l (fun p hp => h.begun hp) e6, fun p hp => ?_, ⟨fs, q1, by rw [e0]; exact q2, fun i m hm => ?_⟩, by rw [e0]; exact h.steps, by rw [e0]; exact h.texts, fun t ht => ?_, by rw [e0]; exact h.ruling, by rw [e0]; exact h.parties, fun i hi => ?_, by rw [e0]; exact h.saids, fun i hi => ?_, fun v hv => ?_, Wf_person hw h8 hl hs⟩
  · rw [e7]
    show _ = nI (c.hears p)
    by_cases q : p = c.now.people
    · rw [if_pos q, hw.2.2.2.2.1 p (by omega)]
    · rw [if_neg q]; exact h.hears hp
  · have q := mo i
    have hm : c.steps[i]? = some m := hm
    rw [hm] at q
    exact q (q3 i m hm)
  · obtain ⟨a, r1, r2⟩ := h.text ht
    exact ⟨a, r1, r2.cg fun k hk2 => ⟨e k (by omega) (by omega) (by omega) (by omega) (by omega), rfl⟩⟩
  · rw [e (1 + 9) (by decide) (by decide) (by decide) (by decide) (by decide), e (1 + 10) (by decide) (by decide) (by decide) (by decide) (by decide)]
    exact h.party hi
  · rw [e (1 + 11) (by decide) (by decide) (by decide) (by decide) (by decide), e (1 + 12) (by decide) (by decide) (by decide) (by decide) (by decide)]
    exact h.said hi
  · rw [e (1 + 13) (by decide) (by decide) (by decide) (by decide) (by decide)]
    exact h.village hv
theorem sp_Cr_addPerson (hC : CM c G M) (x y : Int32) : E 1 0 0 Y_Cr_addPerson 0 [some (.ref 1), some (.int x), some (.int y), none] [] G M (QI G fun r M' => r = ans_person c x y ∧ CM (st_person c x y) G M' ∧ Sc CW M M') := by
  have hG := hC.G
  have hR := hC.R
  have hm := hC.now
  have hp8 := hC.w.p8
  by_cases hP : perP c x y
  · rw [ans_person, st_person, if_pos hP, if_pos hP]
    have ex := (in_nI hP.1).1
    have ey := (in_nI hP.2.1).1
    have lx := (in_nI hP.1).2
    have ly := (in_nI hP.2.1).2
    have h8 := hP.2.2
    generalize hyy : tN y = s at ly ey ⊢
    generalize hxx : tN x = l at lx ex ⊢
    have ok := CM_person hC (l := l) (s := s) (by omega) (by omega) (by omega)
    rw [ex, ey]
    first | refine E_aload_n d_Cr_addPerson_0 rfl ?_ | refine E_aload_nN d_Cr_addPerson_0 rfl ?_
    refine E_getR d_Cr_addPerson_1 gf_Cr_12 (by first | exact hG.s (by decide) rfl) (by first | exact hR.o rfl | exact hR.c cr1 rfl | exact hR.m0 ad2) ?_
    refine E_getI d_Cr_addPerson_4 gf_Cr_93 (by first | exact hG.s (by decide) rfl) (by first | exact hm.people | rfl) ?_
    refine E_istore_3 d_Cr_addPerson_7 rfl ?_
    refine E_iload_n d_Cr_addPerson_8 rfl ?_
    first | (with_reducible refine E_isN1 ?_; refine E_if_lt 33 d_Cr_addPerson_9 rfl (nz_lt (by omega) fun h9 => ?_) (nz_nlt (by omega) fun h9 => ?_)) | refine E_if_lt 33 d_Cr_addPerson_9 rfl (fun h9 => ?_) (fun h9 => ?_)
    · exfalso; exact absurd h9 (Nat.not_lt_zero l)
    refine E_iload_n d_Cr_addPerson_12 rfl ?_
    refine E_bipush (v := nI 9) d_Cr_addPerson_13 (by decide) ?_
    first | (with_reducible refine E_isN2 ?_; refine E_icmp_gt 33 d_Cr_addPerson_15 rfl (nb_lt (by omega) (by omega) fun h15 => ?_) (nb_nlt (by omega) (by omega) fun h15 => ?_)) | refine E_icmp_gt 33 d_Cr_addPerson_15 rfl (fun h15 => ?_) (fun h15 => ?_)
    · exfalso; omega
    refine E_iload_n d_Cr_addPerson_18 rfl ?_
    first | (with_reducible refine E_isN1 ?_; refine E_if_lt 33 d_Cr_addPerson_19 rfl (nz_lt (by omega) fun h19 => ?_) (nz_nlt (by omega) fun h19 => ?_)) | refine E_if_lt 33 d_Cr_addPerson_19 rfl (fun h19 => ?_) (fun h19 => ?_)
    · exfalso; exact absurd h19 (Nat.not_lt_zero s)
    refine E_iload_n d_Cr_addPerson_22 rfl ?_
    refine E_iconst (v := nI 3) d_Cr_addPerson_23 rfl ?_
    first | (with_reducible refine E_isN2 ?_; refine E_icmp_gt 33 d_Cr_addPerson_24 rfl (nb_lt (by omega) (by omega) fun h24 => ?_) (nb_nlt (by omega) (by omega) fun h24 => ?_)) | refine E_icmp_gt 33 d_Cr_addPerson_24 rfl (fun h24 => ?_) (fun h24 => ?_)
    · exfalso; omega
    refine E_iload_n d_Cr_addPerson_27 rfl ?_
    refine E_bipush (v := nI 8) d_Cr_addPerson_28 (by decide) ?_
    first | (with_reducible refine E_isN2 ?_; refine E_icmp_lt 35 d_Cr_addPerson_30 rfl (nb_lt (by omega) (by omega) fun h30 => ?_) (nb_nlt (by omega) (by omega) fun h30 => ?_)) | refine E_icmp_lt 35 d_Cr_addPerson_30 rfl (fun h30 => ?_) (fun h30 => ?_)
    rotate_left
    · exfalso; omega
    first | refine E_aload_n d_Cr_addPerson_35 rfl ?_ | refine E_aload_nN d_Cr_addPerson_35 rfl ?_
    refine E_getR d_Cr_addPerson_36 gf_Cr_12 (by first | exact hG.s (by decide) rfl) (by first | exact hR.o rfl | exact hR.c cr1 rfl | exact hR.m0 ad2) ?_
    refine E_getR d_Cr_addPerson_39 gf_Cr_96 (by first | exact hG.s (by decide) rfl) (by first | exact hR.o rfl | exact hR.c cr1 rfl | exact hR.m0 ad2) ?_
    refine E_iload_n d_Cr_addPerson_42 rfl ?_
    refine E_iload_n d_Cr_addPerson_43 rfl ?_
    refine E_SN3 (sp_TP_put (hG.s (k := 1 + 1 + 1) (by decide) rfl) (by decide) (by omega)) d_Cr_addPerson_44 nl_Cr_99 cb_TP_put cs_TP_put ⟨by decide, by decide⟩ rfl (Nat.le_of_ble_eq_true rfl) (Nat.le_of_ble_eq_true rfl) (kV fun M1 hc => ?_)
    subst hc
    first | refine E_aload_n d_Cr_addPerson_47 rfl ?_ | refine E_aload_nN d_Cr_addPerson_47 rfl ?_
    refine E_getR d_Cr_addPerson_48 gf_Cr_22 (by first | exact hG.s (by decide) rfl) (by first | exact hR.o rfl | exact hR.c cr1 rfl | exact hR.m0 ad2) ?_
    refine E_iload_n d_Cr_addPerson_51 rfl ?_
    refine E_iload_n d_Cr_addPerson_52 rfl ?_
    refine E_SN3 (sp_TP_put (hG.s (k := 1 + 5) (by decide) rfl) (by decide) (by omega)) d_Cr_addPerson_53 nl_Cr_99 cb_TP_put cs_TP_put ⟨by decide, by decide⟩ rfl (Nat.le_of_ble_eq_true rfl) (Nat.le_of_ble_eq_true rfl) (kV fun M1 hc => ?_)
    subst hc
    first | refine E_aload_n d_Cr_addPerson_56 rfl ?_ | refine E_aload_nN d_Cr_addPerson_56 rfl ?_
    refine E_getR d_Cr_addPerson_57 gf_Cr_18 (by first | exact hG.s (by decide) rfl) (by first | exact hR.o rfl | exact hR.c cr1 rfl | exact hR.m0 ad2) ?_
    refine E_iload_n d_Cr_addPerson_60 rfl ?_
    refine E_iload_n d_Cr_addPerson_61 rfl ?_
    refine E_SN3 (sp_TP_put (hG.s (k := 1 + 4) (by decide) rfl) (by decide) (by omega)) d_Cr_addPerson_62 nl_Cr_99 cb_TP_put cs_TP_put ⟨by decide, by decide⟩ rfl (Nat.le_of_ble_eq_true rfl) (Nat.le_of_ble_eq_true rfl) (kV fun M1 hc => ?_)
    subst hc
    first | refine E_aload_n d_Cr_addPerson_65 rfl ?_ | refine E_aload_nN d_Cr_addPerson_65 rfl ?_
    refine E_getR d_Cr_addPerson_66 gf_Cr_25 (by first | exact hG.s (by decide) rfl) (by first | exact hR.o rfl | exact hR.c cr1 rfl | exact hR.m0 ad2) ?_
    refine E_iload_n d_Cr_addPerson_69 rfl ?_
    refine E_iconst (v := nI 0) d_Cr_addPerson_70 rfl ?_
    refine E_SN3 (sp_TP_put (hG.s (k := 1 + 6) (by decide) rfl) (by decide) (by omega)) d_Cr_addPerson_71 nl_Cr_99 cb_TP_put cs_TP_put ⟨by decide, by decide⟩ rfl (Nat.le_of_ble_eq_true rfl) (Nat.le_of_ble_eq_true rfl) (kV fun M1 hc => ?_)
    subst hc
    first | refine E_aload_n d_Cr_addPerson_74 rfl ?_ | refine E_aload_nN d_Cr_addPerson_74 rfl ?_
    refine E_getR d_Cr_addPerson_75 gf_Cr_12 (by first | exact hG.s (by decide) rfl) (by first | exact hR.o rfl | exact hR.c cr1 rfl | exact hR.m0 ad2) ?_
    refine E_iload_n d_Cr_addPerson_78 rfl ?_
    refine E_iconst (v := nI 1) d_Cr_addPerson_79 rfl ?_
    first | (with_reducible refine E_isN2 ?_; refine E_iaddN d_Cr_addPerson_80 ?_) | refine E_iadd d_Cr_addPerson_80 ?_
    refine E_putI d_Cr_addPerson_81 gf_Cr_93 (by first | exact hG.s (by decide) rfl) rfl rfl ?_
    refine E_iload_n d_Cr_addPerson_84 rfl ?_
    refine E_retI d_Cr_addPerson_85 rfl ?_
    exact ⟨rfl, ok.1, ok.2⟩
  · rw [ans_person, st_person, if_neg hP, if_neg hP]
    have e9 : (nI 9).toInt = 9 := by decide
    have e3 : (nI 3).toInt = 3 := by decide
    have no : ¬ x < 0 → ¬ nI 9 < x → ¬ y < 0 → ¬ nI 3 < y → c.now.people < 8 → False := fun q1 q2 q3 q5 q4 => hP (by
      rw [lt_toInt, z32] at q1 q3
      rw [lt_toInt, e9] at q2
      rw [lt_toInt, e3] at q5
      refine ⟨?_, ?_, by omega⟩
      · unfold inN; omega
      · unfold inN; omega)
    first | refine E_aload_n d_Cr_addPerson_0 rfl ?_ | refine E_aload_nN d_Cr_addPerson_0 rfl ?_
    refine E_getR d_Cr_addPerson_1 gf_Cr_12 (by first | exact hG.s (by decide) rfl) (by first | exact hR.o rfl | exact hR.c cr1 rfl | exact hR.m0 ad2) ?_
    refine E_getI d_Cr_addPerson_4 gf_Cr_93 (by first | exact hG.s (by decide) rfl) (by first | exact hm.people | rfl) ?_
    refine E_istore_3 d_Cr_addPerson_7 rfl ?_
    refine E_iload_n d_Cr_addPerson_8 rfl ?_
    first | (with_reducible refine E_isN1 ?_; refine E_if_lt 33 d_Cr_addPerson_9 rfl (nz_lt (by omega) fun h9 => ?_) (nz_nlt (by omega) fun h9 => ?_)) | refine E_if_lt 33 d_Cr_addPerson_9 rfl (fun h9 => ?_) (fun h9 => ?_)
    · refine E_iconst (v := (-1)) d_Cr_addPerson_33 rfl ?_
      refine E_retI d_Cr_addPerson_34 rfl ?_
      exact ⟨rfl, hC, Sc.rf⟩
    · refine E_iload_n d_Cr_addPerson_12 rfl ?_
      refine E_bipush (v := nI 9) d_Cr_addPerson_13 (by decide) ?_
      first | (with_reducible refine E_isN2 ?_; refine E_icmp_gt 33 d_Cr_addPerson_15 rfl (nb_lt (by omega) (by omega) fun h15 => ?_) (nb_nlt (by omega) (by omega) fun h15 => ?_)) | refine E_icmp_gt 33 d_Cr_addPerson_15 rfl (fun h15 => ?_) (fun h15 => ?_)
      · refine E_iconst (v := (-1)) d_Cr_addPerson_33 rfl ?_
        refine E_retI d_Cr_addPerson_34 rfl ?_
        exact ⟨rfl, hC, Sc.rf⟩
      · refine E_iload_n d_Cr_addPerson_18 rfl ?_
        first | (with_reducible refine E_isN1 ?_; refine E_if_lt 33 d_Cr_addPerson_19 rfl (nz_lt (by omega) fun h19 => ?_) (nz_nlt (by omega) fun h19 => ?_)) | refine E_if_lt 33 d_Cr_addPerson_19 rfl (fun h19 => ?_) (fun h19 => ?_)
        · refine E_iconst (v := (-1)) d_Cr_addPerson_33 rfl ?_
          refine E_retI d_Cr_addPerson_34 rfl ?_
          exact ⟨rfl, hC, Sc.rf⟩
        · refine E_iload_n d_Cr_addPerson_22 rfl ?_
          refine E_iconst (v := nI 3) d_Cr_addPerson_23 rfl ?_
          first | (with_reducible refine E_isN2 ?_; refine E_icmp_gt 33 d_Cr_addPerson_24 rfl (nb_lt (by omega) (by omega) fun h24 => ?_) (nb_nlt (by omega) (by omega) fun h24 => ?_)) | refine E_icmp_gt 33 d_Cr_addPerson_24 rfl (fun h24 => ?_) (fun h24 => ?_)
          · refine E_iconst (v := (-1)) d_Cr_addPerson_33 rfl ?_
            refine E_retI d_Cr_addPerson_34 rfl ?_
            exact ⟨rfl, hC, Sc.rf⟩
          · refine E_iload_n d_Cr_addPerson_27 rfl ?_
            refine E_bipush (v := nI 8) d_Cr_addPerson_28 (by decide) ?_
            first | (with_reducible refine E_isN2 ?_; refine E_icmp_lt 35 d_Cr_addPerson_30 rfl (nb_lt (by omega) (by omega) fun h30 => ?_) (nb_nlt (by omega) (by omega) fun h30 => ?_)) | refine E_icmp_lt 35 d_Cr_addPerson_30 rfl (fun h30 => ?_) (fun h30 => ?_)
            · exfalso; exact no h9 h15 h19 h24 h30
            refine E_iconst (v := (-1)) d_Cr_addPerson_33 rfl ?_
            refine E_retI d_Cr_addPerson_34 rfl ?_
            exact ⟨rfl, hC, Sc.rf⟩
theorem sp_TP_person (hC : CM c G M) (x y : Int32) : E 2 0 0 Y_TP_person 0 [some (.ref 0), some (.int x), some (.int y)] [] G M (QI G fun r M' => r = ans_person c x y ∧ CM (st_person c x y) G M' ∧ Sc CW M M') := by
  have hG := hC.G
  have hR := hC.R
  have hm := hC.now
  have hp8 := hC.w.p8
  first | refine E_aload_n d_TP_person_0 rfl ?_ | refine E_aload_nN d_TP_person_0 rfl ?_
  refine E_getR d_TP_person_1 gf_TP_10 (by first | exact hG.s (by decide) rfl) (by first | exact hR.o rfl | exact hR.c cr1 rfl | exact hR.m0 ad2) ?_
  refine E_iload_n d_TP_person_4 rfl ?_
  refine E_iload_n d_TP_person_5 rfl ?_
  refine E_V2 (sp_Cr_addPerson hC x y) d_TP_person_6 ml_TP_85 cb_Cr_addPerson cv_Cr_addPerson (by first | exact hG.s (by decide) rfl) ⟨by decide, rfl⟩ ⟨by decide, by decide⟩ rfl (Nat.le_of_ble_eq_true rfl) (Nat.le_of_ble_eq_true rfl) (kI fun r1 M1 hc => ?_)
  obtain ⟨rfl, hC1, hS1⟩ := hc
  refine E_retI d_TP_person_9 rfl ?_
  exact ⟨rfl, hC1, hS1⟩
end CMb
