section CMd
variable {c : Cr} {G : Geo} {M : Mem}
theorem CM_undo (hC : CM c G M) (hl : c.steps.length ≠ 0) {M' : Mem} (hX : Sc CW M M') (e : ∀ k, 5 ≤ k → mI M' k = mI M k) (f : ∀ j, j ≠ 6 → mI M' 1 j = mI M 1 j) (f6 : mI M' 1 6 = nI (c.steps.length - 1)) (hn : MoC (undoM c (lastS c)) (1 + 1) M') : CM (undoS c) G M' := by
  have h := hC.H
  obtain ⟨fs, q1, q2, q3⟩ := h.fs
  have hr : ∀ a, a ≠ 212 → mR M' a = mR M a := fun a q => funext fun j => hX.1 a j (fun r => absurd r q)
  refine ⟨hC.G, hC.R.sc hX, hn, fun p hp => ?_, fun p hp => ?_, fun p hp => ?_, ⟨fs, q1, (f 5 (by decide)).trans q2, fun i m hm => ?_⟩, ?_, (f 8 (by decide)).trans h.texts, fun t ht => ?_, (f 9 (by decide)).trans h.ruling, (f 12 (by decide)).trans h.parties, fun i hi => ?_, (f 15 (by decide)).trans h.saids, fun i hi => ?_, fun v hv => ?_, Wf_undo h.w hl⟩
  · rw [e (1 + 4) (by omega)]; exact h.sort hp
  · rw [e (1 + 5) (by omega)]; exact h.begun hp
  · rw [e (1 + 6) (by omega)]; exact h.hears hp
  · have hm : (c.steps.take (c.steps.length - 1))[i]? = some m := hm
    rw [List.getElem?_take] at hm
    split at hm
    · exact (q3 i m hm).cg (e _ (by omega)) (e _ (by omega)) (e _ (by omega))
    · cases hm
  · rw [f6]
    show nI (c.steps.length - 1) = nI (c.steps.take (c.steps.length - 1)).length
    rw [List.length_take, Nat.min_eq_left (by omega)]
  · obtain ⟨a, r1, r2⟩ := h.text ht
    exact ⟨a, by rw [hr _ (by decide)]; exact r1, r2.cg fun k hk2 => ⟨e k (by omega), hr k (by omega)⟩⟩
  · rw [e (1 + 9) (by omega), e (1 + 10) (by omega)]; exact h.party hi
  · rw [e (1 + 11) (by omega), e (1 + 12) (by omega)]; exact h.said hi
  · rw [e (1 + 13) (by omega)]; exact h.village hv
theorem sp_TP_undo (hC : CM c G M) : E 3 0 0 Y_TP_undo 0 [some (.ref 0)] [] G M (QI G fun r M' => r = ans_undo c ∧ CM (st_undo c) G M' ∧ Sc CW M M') := by
  have hG := hC.G
  have hR := hC.R
  have h := hC.H
  have hw := h.w
  have hl30 := hw.steps
  have hst := h.steps
  have hp8 := hw.p8
  have hm := hC.now
  obtain ⟨fs, f1, hfs, f3⟩ := h.fs
  by_cases hl : c.steps.length = 0
  · rw [ans_undo, st_undo, if_pos hl, if_pos hl]
    have KN : ∀ v : Value, (v = .null ∨ ∃ a, v = .ref a) → E 2 0 0 Y_Cr_takeStepBack 11 [some (.ref 1), some v, none, none] [] G M (QI G fun r M' => r = 0 ∧ M' = M) := by
      intro v _
      first | refine E_aload_n d_Cr_takeStepBack_11 rfl ?_ | refine E_aload_nN d_Cr_takeStepBack_11 rfl ?_
      refine E_getI d_Cr_takeStepBack_12 gf_Cr_68 (by first | exact hG.s (by decide) rfl) (by first | exact hst | exact hm.people | rfl) ?_
      first | (with_reducible refine E_isN1 ?_; refine E_if_le 22 d_Cr_takeStepBack_15 rfl (nz_le (by omega) fun h15 => ?_) (nz_nle (by omega) fun h15 => ?_)) | refine E_if_le 22 d_Cr_takeStepBack_15 rfl (fun h15 => ?_) (fun h15 => ?_)
      rotate_left
      · exfalso; omega
      refine E_iconst (v := nI 0) d_Cr_takeStepBack_22 rfl ?_
      refine E_retZ d_Cr_takeStepBack_23 rfl (by decide) ?_
      exact ⟨rfl, rfl⟩
    have hz : nI c.steps.length - nI 1 = -1 := by rw [hl]; decide
    have S0 : E 2 0 0 Y_Cr_takeStepBack 0 [some (.ref 1), none, none, none] [] G M (QI G fun r M' => r = 0 ∧ M' = M) := by
      by_cases hf0 : fs = 0
      · have hx : nI fs + (nI c.steps.length - nI 1) = -1 := by rw [hz, hf0]; decide
        first | refine E_aload_n d_Cr_takeStepBack_0 rfl ?_ | refine E_aload_nN d_Cr_takeStepBack_0 rfl ?_
        first | refine E_aload_n d_Cr_takeStepBack_1 rfl ?_ | refine E_aload_nN d_Cr_takeStepBack_1 rfl ?_
        refine E_getI d_Cr_takeStepBack_2 gf_Cr_68 (by first | exact hG.s (by decide) rfl) (by first | exact hst | exact hm.people | rfl) ?_
        refine E_iconst (v := nI 1) d_Cr_takeStepBack_5 rfl ?_
        first | (with_reducible refine E_isN2 ?_; refine E_isubN d_Cr_takeStepBack_6 (by omega) ?_) | refine E_isub d_Cr_takeStepBack_6 ?_
        refine E_V1 (sp_Cr_stepAtN hG hR hfs hx) d_Cr_takeStepBack_7 ml_Cr_115 cb_Cr_stepAt cv_Cr_stepAt (by first | exact hG.s (by decide) rfl) ⟨by decide, rfl⟩ ⟨by decide, by decide⟩ rfl (Nat.le_of_ble_eq_true rfl) (Nat.le_of_ble_eq_true rfl) (kR fun r1 M1 hc => ?_)
        obtain ⟨rfl, rfl⟩ := hc
        exact E_astoreN_1 d_Cr_takeStepBack_10 rfl (KN .null (Or.inl rfl))
      · have hx : nI fs + (nI c.steps.length - nI 1) = nI (fs - 1) := by rw [hz, show (-1 : Int32) = Int32.ofInt (-1) from rfl, pM_dec, pM_pred (by omega)]
        first | refine E_aload_n d_Cr_takeStepBack_0 rfl ?_ | refine E_aload_nN d_Cr_takeStepBack_0 rfl ?_
        first | refine E_aload_n d_Cr_takeStepBack_1 rfl ?_ | refine E_aload_nN d_Cr_takeStepBack_1 rfl ?_
        refine E_getI d_Cr_takeStepBack_2 gf_Cr_68 (by first | exact hG.s (by decide) rfl) (by first | exact hst | exact hm.people | rfl) ?_
        refine E_iconst (v := nI 1) d_Cr_takeStepBack_5 rfl ?_
        first | (with_reducible refine E_isN2 ?_; refine E_isubN d_Cr_takeStepBack_6 (by omega) ?_) | refine E_isub d_Cr_takeStepBack_6 ?_
        refine E_V1 (sp_Cr_stepAt hG hR hfs hx (by omega)) d_Cr_takeStepBack_7 ml_Cr_115 cb_Cr_stepAt cv_Cr_stepAt (by first | exact hG.s (by decide) rfl) ⟨by decide, rfl⟩ ⟨by decide, by decide⟩ rfl (Nat.le_of_ble_eq_true rfl) (Nat.le_of_ble_eq_true rfl) (kR fun r1 M1 hc => ?_)
        obtain ⟨rfl, rfl⟩ := hc
        exact E_astore_1 d_Cr_takeStepBack_10 rfl (KN _ (Or.inr ⟨_, rfl⟩))
    first | refine E_aload_n d_TP_undo_0 rfl ?_ | refine E_aload_nN d_TP_undo_0 rfl ?_
    refine E_getR d_TP_undo_1 gf_TP_10 (by first | exact hG.s (by decide) rfl) (by first | exact hR.o rfl | exact hR.c cr1 rfl | exact hR.m0 ad2) ?_
    refine E_V0 (S0) d_TP_undo_4 ml_TP_156 cb_Cr_takeStepBack cv_Cr_takeStepBack (by first | exact hG.s (by decide) rfl) ⟨by decide, rfl⟩ ⟨by decide, by decide⟩ rfl (Nat.le_of_ble_eq_true rfl) (Nat.le_of_ble_eq_true rfl) (kI fun r1 M1 hc => ?_)
    obtain ⟨rfl, rfl⟩ := hc
    first | (with_reducible refine E_isP ?_; refine E_if_eq 20 d_TP_undo_7 rfl (pb_0 fun h7 => ?_) (pb_1 fun h7 => ?_)) | (with_reducible refine E_isN1 ?_; refine E_if_eq 20 d_TP_undo_7 rfl (nz_eq (by omega) fun h7 => ?_) (nz_ne fun h7 => ?_)) | refine E_if_eq 20 d_TP_undo_7 rfl (fun h7 => ?_) (fun h7 => ?_)
    rotate_left
    · exfalso; exact absurd rfl h7
    refine E_iconst (v := (-1)) d_TP_undo_20 rfl ?_
    refine E_retI d_TP_undo_21 rfl ?_
    exact ⟨rfl, hC, Sc.rf⟩
  · rw [ans_undo, st_undo, if_neg hl, if_neg hl]
    have hlast : c.steps[c.steps.length - 1]? = some (lastS c) := by
      unfold lastS
      rw [List.getD_eq_getElem?_getD, List.getElem?_eq_getElem (show c.steps.length - 1 < c.steps.length by omega)]
      rfl
    have hmem := hw.step _ (List.mem_of_getElem? hlast)
    have hmo := f3 _ _ hlast
    generalize hmm : lastS c = m at hmem hmo
    have ha : MoAd (1 + 14 + 3 * ((fs + (c.steps.length - 1)) % 30)) := MoAd.b cr1 (by omega)
    have hge : 15 ≤ 1 + 14 + 3 * ((fs + (c.steps.length - 1)) % 30) := by omega
    generalize hA : 1 + 14 + 3 * ((fs + (c.steps.length - 1)) % 30) = a at ha hmo hge
    have hx : nI fs + nI (c.steps.length - 1) = nI (fs + (c.steps.length - 1)) := nI_add _ _
    have K : E 2 0 0 Y_Cr_takeStepBack 11 [some (.ref 1), some (.ref a), none, none] [] G M (QI G fun r M' => r = 1 ∧ CM (undoS c) G M' ∧ Sc CW M M') := by
      have s1 : Sc CW M (wI M 1 6 (nI (c.steps.length - 1))) := Sc.rf.wI (CW.r (by omega))
      have hR1 := hR.sc s1
      have e1 : ∀ k, k ≠ 1 → mI (wI M 1 6 (nI (c.steps.length - 1))) k = mI M k := fun k q => mI_ne q
      have hc1 := sp_Mo_copyFrom hG hR1 ad2 ha (by omega)
      have L : ∀ M2, Sc (Bk 2) (wI M 1 6 (nI (c.steps.length - 1))) M2 → MoC m 2 M2 → ∀ k q M3, q + k = c.now.people → m.people ≤ q → Sc (fun k => k = 3) M2 M3 → (∀ r, r < q → mI M3 3 r = nI ((undoM c m).lean r)) → E 2 0 0 Y_Cr_takeStepBack 55 [some (.ref 1), some (.ref a), some (.int (nI c.now.people)), some (.int (nI q))] [] G M3 (QI G fun r M' => r = 1 ∧ CM (undoS c) G M' ∧ Sc CW M M') := by
        intro M2 hS2 hm2 k
        induction k with
        | zero =>
          intro q M3 hq hmq hS3 hv
          have hq2 : q = c.now.people := by omega
          subst hq2
          have hX3 : Sc CW M M3 := (s1.tr (hS2.wk (fun a q => CW.r (by unfold Bk at q; omega)))).tr (hS3.wk (fun a q => CW.r (by omega)))
          have hR := hR.sc hX3
          have fe : ∀ k, k ≠ 1 → ¬ Bk 2 k → k ≠ 3 → mI M3 k = mI M k := fun k q1 q2 q3 => ((hS3.2 k q3).1.trans (hS2.2 k q2).1).trans (e1 k q1)
          have f1' : mI M3 1 = mI (wI M 1 6 (nI (c.steps.length - 1))) 1 := ((hS3.2 1 (by decide)).1.trans (hS2.2 1 (by unfold Bk; omega)).1)
          have ok : CM (undoS c) G (wI M3 (1 + 1) 2 (nI c.now.people)) := by
            obtain ⟨m0, m1, m2, m3, m4, m5, m6, m7⟩ := hm2
            have g2 : ∀ j, j ≠ 2 → mI (wI M3 (1 + 1) 2 (nI c.now.people)) (1 + 1) j = mI M2 2 j := fun j hj => by rw [mI_wa, if_neg hj, (hS3.2 (1 + 1) (by decide)).1]
            refine CM_undo hC hl (hX3.wI (CW.r (by omega))) (fun k hk => by rw [mI_ne (by omega), fe k (by omega) (by unfold Bk; omega) (by omega)]) (fun j hj => by rw [mI_wx (by decide), f1', mI_wa, if_neg hj]) (by rw [mI_wx (by decide), f1', mI_wa, if_pos rfl]) ?_
            rw [hmm]
            refine ⟨by rw [mI_wa, if_pos rfl]; rfl, (g2 _ (by decide)).trans m1, (g2 _ (by decide)).trans m2, (g2 _ (by decide)).trans m3, (g2 _ (by decide)).trans m4, (g2 _ (by decide)).trans m5, fun r hr => ?_, fun i hi => ?_⟩
            · rw [mI_wx (by decide)]; exact hv r hr
            · rw [mI_wx (by decide), mI_wx (by decide), mI_wx (by decide), (hS3.2 (1 + 1 + 2) (by decide)).1]; exact m7 i hi
          refine E_iload_n d_Cr_takeStepBack_55 rfl ?_
          refine E_iload_n d_Cr_takeStepBack_56 rfl ?_
          first | (with_reducible refine E_isN2 ?_; refine E_icmp_ge 85 d_Cr_takeStepBack_57 rfl (nb_le (by omega) (by omega) fun h57 => ?_) (nb_nle (by omega) (by omega) fun h57 => ?_)) | refine E_icmp_ge 85 d_Cr_takeStepBack_57 rfl (fun h57 => ?_) (fun h57 => ?_)
          rotate_left
          · exfalso; omega
          first | refine E_aload_n d_Cr_takeStepBack_85 rfl ?_ | refine E_aload_nN d_Cr_takeStepBack_85 rfl ?_
          refine E_getR d_Cr_takeStepBack_86 gf_Cr_12 (by first | exact hG.s (by decide) rfl) (by first | exact hR.o rfl | exact hR.c cr1 rfl | exact hR.m0 ad2) ?_
          refine E_iload_n d_Cr_takeStepBack_89 rfl ?_
          refine E_putI d_Cr_takeStepBack_90 gf_Cr_93 (by first | exact hG.s (by decide) rfl) rfl rfl ?_
          refine E_iconst (v := nI 1) d_Cr_takeStepBack_93 rfl ?_
          refine E_retZ d_Cr_takeStepBack_94 rfl (by decide) ?_
          exact ⟨rfl, ok, hX3.wI (CW.r (by omega))⟩
        | succ k ih =>
          intro q M3 hq hmq hS3 hv
          have hX3 : Sc CW M M3 := (s1.tr (hS2.wk (fun a q => CW.r (by unfold Bk at q; omega)))).tr (hS3.wk (fun a q => CW.r (by omega)))
          have hR := hR.sc hX3
          have hb : mI M3 (1 + 5) q = nI (c.begun q) := by rw [(hS3.2 (1 + 5) (by decide)).1, (hS2.2 (1 + 5) (by unfold Bk; omega)).1, e1 (1 + 5) (by decide)]; exact h.begun (by omega)
          refine E_iload_n d_Cr_takeStepBack_55 rfl ?_
          refine E_iload_n d_Cr_takeStepBack_56 rfl ?_
          first | (with_reducible refine E_isN2 ?_; refine E_icmp_ge 85 d_Cr_takeStepBack_57 rfl (nb_le (by omega) (by omega) fun h57 => ?_) (nb_nle (by omega) (by omega) fun h57 => ?_)) | refine E_icmp_ge 85 d_Cr_takeStepBack_57 rfl (fun h57 => ?_) (fun h57 => ?_)
          · exfalso; omega
          first | refine E_aload_n d_Cr_takeStepBack_60 rfl ?_ | refine E_aload_nN d_Cr_takeStepBack_60 rfl ?_
          refine E_getR d_Cr_takeStepBack_61 gf_Cr_12 (by first | exact hG.s (by decide) rfl) (by first | exact hR.o rfl | exact hR.c cr1 rfl | exact hR.m0 ad2) ?_
          refine E_getR d_Cr_takeStepBack_64 gf_Cr_96 (by first | exact hG.s (by decide) rfl) (by first | exact hR.o rfl | exact hR.c cr1 rfl | exact hR.m0 ad2) ?_
          refine E_iload_n d_Cr_takeStepBack_67 rfl ?_
          first | refine E_aload_n d_Cr_takeStepBack_68 rfl ?_ | refine E_aload_nN d_Cr_takeStepBack_68 rfl ?_
          refine E_getR d_Cr_takeStepBack_69 gf_Cr_22 (by first | exact hG.s (by decide) rfl) (by first | exact hR.o rfl | exact hR.c cr1 rfl | exact hR.m0 ad2) ?_
          refine E_iload_n d_Cr_takeStepBack_72 rfl ?_
          refine E_SN2 (sp_TP_at (hG.s (k := 1 + 5) (by decide) rfl) (by decide) (by omega) hb) d_Cr_takeStepBack_73 nl_Cr_107 cb_TP_at cs_TP_at ⟨by decide, by decide⟩ rfl (Nat.le_of_ble_eq_true rfl) (Nat.le_of_ble_eq_true rfl) (kI fun r1 M1 hc => ?_)
          obtain ⟨rfl, rfl⟩ := hc
          refine E_SN3 (sp_TP_put (hG.s (k := 1 + 1 + 1) (by decide) rfl) (by decide) (by omega)) d_Cr_takeStepBack_76 nl_Cr_99 cb_TP_put cs_TP_put ⟨by decide, by decide⟩ rfl (Nat.le_of_ble_eq_true rfl) (Nat.le_of_ble_eq_true rfl) (kV fun M1 hc => ?_)
          subst hc
          first | (with_reducible refine E_isL3 ?_; refine E_iincN3 (m := 1) d_Cr_takeStepBack_79 rfl rfl ?_) | refine E_iinc_3 d_Cr_takeStepBack_79 rfl rfl ?_
          refine E_goto 55 d_Cr_takeStepBack_82 rfl ?_
          refine ih (q + 1) _ (by omega) (by omega) (hS3.wI rfl) (fun r hr => ?_)
          rw [mI_wa]
          by_cases q5 : r = q
          · rw [if_pos q5, q5]
            show _ = nI (if q < m.people then m.lean q else c.begun q)
            rw [if_neg (by omega)]
          · rw [if_neg q5]; exact hv r (by omega)
      have L0 : ∀ M2, Sc (Bk 2) (wI M 1 6 (nI (c.steps.length - 1))) M2 → (∀ m, Mok m → MoC m a (wI M 1 6 (nI (c.steps.length - 1))) → MoC m 2 M2) → E 2 0 0 Y_Cr_takeStepBack 55 [some (.ref 1), some (.ref a), some (.int (nI c.now.people)), some (.int (nI m.people))] [] G M2 (QI G fun r M' => r = 1 ∧ CM (undoS c) G M' ∧ Sc CW M M') := fun M2 hS2 hcp => by
        have hm2 := hcp m hmem.1 (hmo.cg (e1 _ (by omega)) (e1 _ (by omega)) (e1 _ (by omega)))
        refine L M2 hS2 hm2 (c.now.people - m.people) m.people M2 (by have := hmem.2; omega) (Nat.le_refl _) Sc.rf (fun r hr => ?_)
        show _ = nI (if r < m.people then m.lean r else c.begun r)
        rw [if_pos hr]
        exact hm2.lean hr
      have hpe : mI (wI M 1 6 (nI (c.steps.length - 1))) (1 + 1) 2 = nI c.now.people := by rw [mI_wx (by decide)]; exact hm.people
      have pa : ∀ M2, Sc (Bk 2) (wI M 1 6 (nI (c.steps.length - 1))) M2 → mI M2 a 2 = nI m.people := fun M2 hS2 => by rw [(hS2.2 a (by unfold Bk; omega)).1, e1 a (by omega)]; exact hmo.people
      first | refine E_aload_n d_Cr_takeStepBack_11 rfl ?_ | refine E_aload_nN d_Cr_takeStepBack_11 rfl ?_
      refine E_getI d_Cr_takeStepBack_12 gf_Cr_68 (by first | exact hG.m ha | exact hG.s (by decide) rfl) (by first | exact hst | exact hpe | exact hpa) ?_
      first | (with_reducible refine E_isN1 ?_; refine E_if_le 22 d_Cr_takeStepBack_15 rfl (nz_le (by omega) fun h15 => ?_) (nz_nle (by omega) fun h15 => ?_)) | refine E_if_le 22 d_Cr_takeStepBack_15 rfl (fun h15 => ?_) (fun h15 => ?_)
      · exfalso; omega
      first | refine E_aload_n d_Cr_takeStepBack_18 rfl ?_ | refine E_aload_nN d_Cr_takeStepBack_18 rfl ?_
      refine E_ifnonnullR 24 d_Cr_takeStepBack_19 rfl ?_
      first | refine E_aload_n d_Cr_takeStepBack_24 rfl ?_ | refine E_aload_nN d_Cr_takeStepBack_24 rfl ?_
      refine E_dup d_Cr_takeStepBack_25 rfl ?_
      refine E_getI d_Cr_takeStepBack_26 gf_Cr_68 (by first | exact hG.m ha | exact hG.s (by decide) rfl) (by first | exact hst | exact hpe | exact hpa) ?_
      refine E_iconst (v := nI 1) d_Cr_takeStepBack_29 rfl ?_
      first | (with_reducible refine E_isN2 ?_; refine E_isubN d_Cr_takeStepBack_30 (by omega) ?_) | refine E_isub d_Cr_takeStepBack_30 ?_
      refine E_putI d_Cr_takeStepBack_31 gf_Cr_68 (by first | exact hG.m ha | exact hG.s (by decide) rfl) rfl rfl ?_
      first | refine E_aload_n d_Cr_takeStepBack_34 rfl ?_ | refine E_aload_nN d_Cr_takeStepBack_34 rfl ?_
      refine E_getR d_Cr_takeStepBack_35 gf_Cr_12 (by first | exact hG.m ha | exact hG.s (by decide) rfl) (by first | exact hR.o rfl | exact hR.c cr1 rfl | exact hR.m0 ad2) ?_
      refine E_getI d_Cr_takeStepBack_38 gf_Cr_93 (by first | exact hG.m ha | exact hG.s (by decide) rfl) (by first | exact hst | exact hpe | exact hpa) ?_
      refine E_istore_2 d_Cr_takeStepBack_41 rfl ?_
      first | refine E_aload_n d_Cr_takeStepBack_42 rfl ?_ | refine E_aload_nN d_Cr_takeStepBack_42 rfl ?_
      refine E_getR d_Cr_takeStepBack_43 gf_Cr_12 (by first | exact hG.m ha | exact hG.s (by decide) rfl) (by first | exact hR.o rfl | exact hR.c cr1 rfl | exact hR.m0 ad2) ?_
      first | refine E_aload_n d_Cr_takeStepBack_46 rfl ?_ | refine E_aload_nN d_Cr_takeStepBack_46 rfl ?_
      refine E_V1 (hc1) d_Cr_takeStepBack_47 ml_Cr_57 cb_Mo_copyFrom cv_Mo_copyFrom (by first | exact hG.m ha | exact hG.s (by decide) rfl) ⟨by decide, rfl⟩ ⟨by decide, by decide⟩ rfl (Nat.le_of_ble_eq_true rfl) (Nat.le_of_ble_eq_true rfl) (kV fun M1 hc => ?_)
      obtain ⟨hS2, hcp⟩ := hc; have hpa := pa _ hS2; have k0 := L0 _ hS2 hcp
      first | refine E_aload_n d_Cr_takeStepBack_50 rfl ?_ | refine E_aload_nN d_Cr_takeStepBack_50 rfl ?_
      refine E_getI d_Cr_takeStepBack_51 gf_Cr_93 (by first | exact hG.m ha | exact hG.s (by decide) rfl) (by first | exact hst | exact hpe | exact hpa) ?_
      refine E_istore_3 d_Cr_takeStepBack_54 rfl ?_
      exact k0
    have S0 : E 2 0 0 Y_Cr_takeStepBack 0 [some (.ref 1), none, none, none] [] G M (QI G fun r M' => r = 1 ∧ CM (undoS c) G M' ∧ Sc CW M M') := by
      first | refine E_aload_n d_Cr_takeStepBack_0 rfl ?_ | refine E_aload_nN d_Cr_takeStepBack_0 rfl ?_
      first | refine E_aload_n d_Cr_takeStepBack_1 rfl ?_ | refine E_aload_nN d_Cr_takeStepBack_1 rfl ?_
      refine E_getI d_Cr_takeStepBack_2 gf_Cr_68 (by first | exact hG.s (by decide) rfl) (by first | exact hst | exact hm.people | rfl) ?_
      refine E_iconst (v := nI 1) d_Cr_takeStepBack_5 rfl ?_
      first | (with_reducible refine E_isN2 ?_; refine E_isubN d_Cr_takeStepBack_6 (by omega) ?_) | refine E_isub d_Cr_takeStepBack_6 ?_
      refine E_V1 (sp_Cr_stepAt hG hR hfs hx (by omega)) d_Cr_takeStepBack_7 ml_Cr_115 cb_Cr_stepAt cv_Cr_stepAt (by first | exact hG.s (by decide) rfl) ⟨by decide, rfl⟩ ⟨by decide, by decide⟩ rfl (Nat.le_of_ble_eq_true rfl) (Nat.le_of_ble_eq_true rfl) (kR fun r1 M1 hc => ?_)
      obtain ⟨rfl, rfl⟩ := hc; rw [hA]
      exact E_astore_1 d_Cr_takeStepBack_10 rfl K
    have e6 : ∀ M1, CM (undoS c) G M1 → mI M1 1 6 = nI (c.steps.length - 1) := fun M1 h1 => by
      have := h1.H.steps
      rw [this]
      show nI (c.steps.take (c.steps.length - 1)).length = _
      rw [List.length_take, Nat.min_eq_left (by omega)]
    first | refine E_aload_n d_TP_undo_0 rfl ?_ | refine E_aload_nN d_TP_undo_0 rfl ?_
    refine E_getR d_TP_undo_1 gf_TP_10 (by first | exact hG.s (by decide) rfl) (by first | exact hR.o rfl | exact hR.c cr1 rfl | exact hR.m0 ad2) ?_
    refine E_V0 (S0) d_TP_undo_4 ml_TP_156 cb_Cr_takeStepBack cv_Cr_takeStepBack (by first | exact hG.s (by decide) rfl) ⟨by decide, rfl⟩ ⟨by decide, by decide⟩ rfl (Nat.le_of_ble_eq_true rfl) (Nat.le_of_ble_eq_true rfl) (kI fun r1 M1 hc => ?_)
    obtain ⟨rfl, hC1, hS1⟩ := hc; have hR := hC1.R; have hst := e6 _ hC1
    first | (with_reducible refine E_isP ?_; refine E_if_eq 20 d_TP_undo_7 rfl (pb_0 fun h7 => ?_) (pb_1 fun h7 => ?_)) | (with_reducible refine E_isN1 ?_; refine E_if_eq 20 d_TP_undo_7 rfl (nz_eq (by omega) fun h7 => ?_) (nz_ne fun h7 => ?_)) | refine E_if_eq 20 d_TP_undo_7 rfl (fun h7 => ?_) (fun h7 => ?_)
    · exfalso; exact absurd h7 (by decide)
    first | refine E_aload_n d_TP_undo_10 rfl ?_ | refine E_aload_nN d_TP_undo_10 rfl ?_
    refine E_getR d_TP_undo_11 gf_TP_10 (by first | exact hG.s (by decide) rfl) (by first | exact hR.o rfl | exact hR.c cr1 rfl | exact hR.m0 ad2) ?_
    refine E_getI d_TP_undo_14 gf_TP_160 (by first | exact hG.s (by decide) rfl) (by first | exact hst | exact hm.people | rfl) ?_
    refine E_goto 21 d_TP_undo_17 rfl ?_
    refine E_retI d_TP_undo_21 rfl ?_
    exact ⟨rfl, hC1, hS1⟩
end CMd
