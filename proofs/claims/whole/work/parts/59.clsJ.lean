def HO (c : Cr) (M : Mem) : Prop := mI M 216 3 = nI c.now.people ∧ ∀ f, f ≤ c.now.people → mI M 217 f = nI (yesN c f)
def SO (a : Nat) : Prop := a = 212 ∨ a = 213 ∨ a = 216 ∨ a = 217
theorem SO.q {a : Nat} (h : SO a) : CQ a := by unfold SO at h; unfold CQ; omega
theorem SA.o {a : Nat} (h : SA a) : SO a := by unfold SA at h; unfold SO; omega
theorem SA.q {a : Nat} (h : SA a) : CQ a := by unfold SA at h; unfold CQ; omega
theorem sp_TP_isFigure {c : Cr} {G : Geo} {M : Mem} (hC : CM c G M) (x : Int32) : E 0 0 0 Y_TP_isFigure 0 [some (.ref 0), some (.int x)] [] G M (QI G fun r M' => r = pI (inN x (c.now.people + 1)) ∧ M' = M) := by
  have hG := hC.G
  have hR := hC.R
  have hm := hC.now
  have hp8 := hC.w.p8
  have k1 : ¬ x < 0 → ¬ nI c.now.people < x → nI 1 = pI (inN x (c.now.people + 1)) := fun h h' => (pI_t (by rw [lt_toInt] at h; rw [lt_toInt, nI_toInt (by omega)] at h'; have := z32; unfold inN; omega)).symm
  have k2 : x < 0 → nI 0 = pI (inN x (c.now.people + 1)) := fun h => (pI_f (fun q => by rw [lt_toInt] at h; have := z32; unfold inN at q; omega)).symm
  have k3 : nI c.now.people < x → nI 0 = pI (inN x (c.now.people + 1)) := fun h => (pI_f (fun q => by rw [lt_toInt, nI_toInt (by omega)] at h; unfold inN at q; omega)).symm
  refine E_iload_n d_TP_isFigure_0 rfl ?_
  first | (with_reducible refine E_isN1 ?_; refine E_if_lt 22 d_TP_isFigure_1 rfl (nz_lt (by omega) fun h1 => ?_) (nz_nlt (by omega) fun h1 => ?_)) | refine E_if_lt 22 d_TP_isFigure_1 rfl (fun h1 => ?_) (fun h1 => ?_)
  · refine E_iconst (v := nI 0) d_TP_isFigure_22 rfl ?_
    refine E_retZ d_TP_isFigure_23 rfl (by decide) ?_
    first | exact And.intro (k2 h1) rfl | exact And.intro (k3 h15) rfl | exact And.intro (k1 h1 h15) rfl
  · refine E_iload_n d_TP_isFigure_4 rfl ?_
    first | refine E_aload_n d_TP_isFigure_5 rfl ?_ | refine E_aload_nN d_TP_isFigure_5 rfl ?_
    refine E_getR d_TP_isFigure_6 gf_TP_10 (by first | exact hG.s (by decide) rfl) (by first | exact hR.o rfl | exact hR.c cr1 rfl | exact hR.m0 ad2) ?_
    refine E_getR d_TP_isFigure_9 gf_TP_128 (by first | exact hG.s (by decide) rfl) (by first | exact hR.o rfl | exact hR.c cr1 rfl | exact hR.m0 ad2) ?_
    refine E_getI d_TP_isFigure_12 gf_TP_310 (by first | exact hG.s (by decide) rfl) (by exact hm.people) ?_
    first | (with_reducible refine E_isN2 ?_; refine E_icmp_gt 22 d_TP_isFigure_15 rfl (nb_lt (by omega) (by omega) fun h15 => ?_) (nb_nlt (by omega) (by omega) fun h15 => ?_)) | refine E_icmp_gt 22 d_TP_isFigure_15 rfl (fun h15 => ?_) (fun h15 => ?_)
    · refine E_iconst (v := nI 0) d_TP_isFigure_22 rfl ?_
      refine E_retZ d_TP_isFigure_23 rfl (by decide) ?_
      first | exact And.intro (k2 h1) rfl | exact And.intro (k3 h15) rfl | exact And.intro (k1 h1 h15) rfl
    · refine E_iconst (v := nI 1) d_TP_isFigure_18 rfl ?_
      refine E_goto 23 d_TP_isFigure_19 rfl ?_
      refine E_retZ d_TP_isFigure_23 rfl (by decide) ?_
      first | exact And.intro (k2 h1) rfl | exact And.intro (k3 h15) rfl | exact And.intro (k1 h1 h15) rfl
theorem sp_TP_look {c : Cr} {G : Geo} {M : Mem} (hC : CM c G M) : E 5 0 0 Y_TP_look 0 [some (.ref 0), none, none] [] G M (QR G fun r M' => r = some 216 ∧ HO c M' ∧ CM c G M' ∧ Sc SO M M') := by
  have hp8 := hC.w.p8
  have L : ∀ k f, f + k = c.now.people + 1 → ∀ M1, CM c G M1 → Sc SO M M1 → mI M1 216 3 = nI c.now.people → (∀ g, g < f → mI M1 217 g = nI (yesN c g)) → E 5 0 0 Y_TP_look 21 [some (.ref 0), some (.ref 2), some (.int (nI f))] [] G M1 (QR G fun r M' => r = some 216 ∧ HO c M' ∧ CM c G M' ∧ Sc SO M M') := by
    intro k
    induction k with
    | zero =>
      intro f hf M1 hC hX h3 hy
      have hG := hC.G
      have hR := hC.R
      have hm := hC.now
      have hf2 : f = c.now.people + 1 := by omega
      subst hf2
      refine E_iload_n d_TP_look_21 rfl ?_
      first | refine E_aload_n d_TP_look_22 rfl ?_ | refine E_aload_nN d_TP_look_22 rfl ?_
      refine E_getI d_TP_look_23 gf_TP_310 (by first | exact hG.s (by decide) rfl) (by exact hm.people) ?_
      first | (with_reducible refine E_isN2 ?_; refine E_icmp_gt 62 d_TP_look_26 rfl (nb_lt (by omega) (by omega) fun h26 => ?_) (nb_nlt (by omega) (by omega) fun h26 => ?_)) | refine E_icmp_gt 62 d_TP_look_26 rfl (fun h26 => ?_) (fun h26 => ?_)
      rotate_left
      · exfalso; omega
      first | refine E_aload_n d_TP_look_62 rfl ?_ | refine E_aload_nN d_TP_look_62 rfl ?_
      refine E_getR d_TP_look_63 gf_TP_47 (by first | exact hG.s (by decide) rfl) (by first | exact hR.o rfl | exact hR.c cr1 rfl | exact hR.m0 ad2) ?_
      refine E_retR (r := some 216) d_TP_look_66 rfl rfl ?_
      exact ⟨rfl, ⟨h3, fun g hg => hy g (by omega)⟩, hC, hX⟩
    | succ k ih =>
      intro f hf M1 hC hX h3 hy
      have hG := hC.G
      have hR := hC.R
      have hm := hC.now
      have K : ∀ r, LawV (ruler c) r G M1 → E 5 0 0 Y_TP_look 49 [some (.ref 0), some (.ref 2), some (.int (nI f))] [oV r, .ref 2, .ref 212, .int (nI f), .ref 217] G M1 (QR G fun r M' => r = some 216 ∧ HO c M' ∧ CM c G M' ∧ Sc SO M M') := by
        intro r hL
        have hs := sp_As_yesBits (AB.now hC) hL (f := f) (by omega)
        revert hs hL
        cases r with
        | none =>
          intro hL hs
          refine E_iload_n d_TP_look_49 rfl ?_
          refine E_V3 (hs) d_TP_look_50 ml_TP_387 cb_As_yesBits cv_As_yesBits (by first | exact hG.s (by decide) rfl) ⟨by decide, rfl⟩ ⟨by decide, by decide⟩ rfl (Nat.le_of_ble_eq_true rfl) (Nat.le_of_ble_eq_true rfl) (kI fun r1 M1 hc => ?_)
          obtain ⟨rfl, hS1⟩ := hc; have hC1 := hC.q (hS1.wk fun _ => SA.q)
          refine E_S3 (sp_TP_put (hG.s (k := 217) (by decide) rfl) (by decide) (by omega)) d_TP_look_53 ml_TP_351 cb_TP_put cs_TP_put ⟨by decide, by decide⟩ rfl (Nat.le_of_ble_eq_true rfl) (Nat.le_of_ble_eq_true rfl) (kV fun M1 hc => ?_)
          subst hc
          first | (with_reducible refine E_isL2 ?_; refine E_iincN2 (m := 1) d_TP_look_56 rfl rfl ?_) | refine E_iinc_2 d_TP_look_56 rfl rfl ?_
          refine E_goto 21 d_TP_look_59 rfl ?_
          refine ih (f + 1) (by omega) _ (hC1.q (Sc.rf.wI (by unfold CQ; omega))) ((hX.tr (hS1.wk fun _ => SA.o)).wI (by unfold SO; omega)) ?_ (fun g hg => ?_)
          · rw [mI_wx (by decide), (hS1.2 216 (by unfold SA; decide)).1]; exact h3
          · rw [mI_wa]
            by_cases q : g = f
            · rw [if_pos q, q]; rfl
            · rw [if_neg q, (hS1.2 217 (by unfold SA; decide)).1]; exact hy g (by omega)
        | some la =>
          intro hL hs
          refine E_iload_n d_TP_look_49 rfl ?_
          refine E_V3 (hs) d_TP_look_50 ml_TP_387 cb_As_yesBits cv_As_yesBits (by first | exact hG.s (by decide) rfl) ⟨by decide, rfl⟩ ⟨by decide, by decide⟩ rfl (Nat.le_of_ble_eq_true rfl) (Nat.le_of_ble_eq_true rfl) (kI fun r1 M1 hc => ?_)
          obtain ⟨rfl, hS1⟩ := hc; have hC1 := hC.q (hS1.wk fun _ => SA.q)
          refine E_S3 (sp_TP_put (hG.s (k := 217) (by decide) rfl) (by decide) (by omega)) d_TP_look_53 ml_TP_351 cb_TP_put cs_TP_put ⟨by decide, by decide⟩ rfl (Nat.le_of_ble_eq_true rfl) (Nat.le_of_ble_eq_true rfl) (kV fun M1 hc => ?_)
          subst hc
          first | (with_reducible refine E_isL2 ?_; refine E_iincN2 (m := 1) d_TP_look_56 rfl rfl ?_) | refine E_iinc_2 d_TP_look_56 rfl rfl ?_
          refine E_goto 21 d_TP_look_59 rfl ?_
          refine ih (f + 1) (by omega) _ (hC1.q (Sc.rf.wI (by unfold CQ; omega))) ((hX.tr (hS1.wk fun _ => SA.o)).wI (by unfold SO; omega)) ?_ (fun g hg => ?_)
          · rw [mI_wx (by decide), (hS1.2 216 (by unfold SA; decide)).1]; exact h3
          · rw [mI_wa]
            by_cases q : g = f
            · rw [if_pos q, q]; rfl
            · rw [if_neg q, (hS1.2 217 (by unfold SA; decide)).1]; exact hy g (by omega)
      refine E_iload_n d_TP_look_21 rfl ?_
      first | refine E_aload_n d_TP_look_22 rfl ?_ | refine E_aload_nN d_TP_look_22 rfl ?_
      refine E_getI d_TP_look_23 gf_TP_310 (by first | exact hG.s (by decide) rfl) (by exact hm.people) ?_
      first | (with_reducible refine E_isN2 ?_; refine E_icmp_gt 62 d_TP_look_26 rfl (nb_lt (by omega) (by omega) fun h26 => ?_) (nb_nlt (by omega) (by omega) fun h26 => ?_)) | refine E_icmp_gt 62 d_TP_look_26 rfl (fun h26 => ?_) (fun h26 => ?_)
      · exfalso; omega
      first | refine E_aload_n d_TP_look_29 rfl ?_ | refine E_aload_nN d_TP_look_29 rfl ?_
      refine E_getR d_TP_look_30 gf_TP_47 (by first | exact hG.s (by decide) rfl) (by first | exact hR.o rfl | exact hR.c cr1 rfl | exact hR.m0 ad2) ?_
      refine E_getR d_TP_look_33 gf_TP_384 (by first | exact hG.s (by decide) rfl) (by first | exact hR.o rfl | exact hR.c cr1 rfl | exact hR.m0 ad2) ?_
      refine E_iload_n d_TP_look_36 rfl ?_
      first | refine E_aload_n d_TP_look_37 rfl ?_ | refine E_aload_nN d_TP_look_37 rfl ?_
      refine E_getR d_TP_look_38 gf_TP_31 (by first | exact hG.s (by decide) rfl) (by first | exact hR.o rfl | exact hR.c cr1 rfl | exact hR.m0 ad2) ?_
      first | refine E_aload_n d_TP_look_41 rfl ?_ | refine E_aload_nN d_TP_look_41 rfl ?_
      first | refine E_aload_n d_TP_look_42 rfl ?_ | refine E_aload_nN d_TP_look_42 rfl ?_
      refine E_getR d_TP_look_43 gf_TP_10 (by first | exact hG.s (by decide) rfl) (by first | exact hR.o rfl | exact hR.c cr1 rfl | exact hR.m0 ad2) ?_
      refine E_V0 (sp_Cr_rulingText hC) d_TP_look_46 ml_TP_186 cb_Cr_rulingText cv_Cr_rulingText (by first | exact hG.s (by decide) rfl) ⟨by decide, rfl⟩ ⟨by decide, by decide⟩ rfl (Nat.le_of_ble_eq_true rfl) (Nat.le_of_ble_eq_true rfl) (kR fun r1 M1 hc => ?_)
      obtain ⟨hL, rfl⟩ := hc
      exact K r1 hL
  have hG := hC.G
  have hR := hC.R
  have hm := hC.now
  first | refine E_aload_n d_TP_look_0 rfl ?_ | refine E_aload_nN d_TP_look_0 rfl ?_
  refine E_getR d_TP_look_1 gf_TP_10 (by first | exact hG.s (by decide) rfl) (by first | exact hR.o rfl | exact hR.c cr1 rfl | exact hR.m0 ad2) ?_
  refine E_getR d_TP_look_4 gf_TP_128 (by first | exact hG.s (by decide) rfl) (by first | exact hR.o rfl | exact hR.c cr1 rfl | exact hR.m0 ad2) ?_
  first | refine E_astore_1 d_TP_look_7 rfl ?_ | refine E_astoreN_1 d_TP_look_7 rfl ?_
  first | refine E_aload_n d_TP_look_8 rfl ?_ | refine E_aload_nN d_TP_look_8 rfl ?_
  refine E_getR d_TP_look_9 gf_TP_47 (by first | exact hG.s (by decide) rfl) (by first | exact hR.o rfl | exact hR.c cr1 rfl | exact hR.m0 ad2) ?_
  first | refine E_aload_n d_TP_look_12 rfl ?_ | refine E_aload_nN d_TP_look_12 rfl ?_
  refine E_getI d_TP_look_13 gf_TP_310 (by first | exact hG.s (by decide) rfl) (by exact hm.people) ?_
  refine E_putI d_TP_look_16 gf_TP_383 (by first | exact hG.s (by decide) rfl) rfl rfl ?_
  refine E_iconst (v := nI 0) d_TP_look_19 rfl ?_
  refine E_istore_2 d_TP_look_20 rfl ?_
  exact L (c.now.people + 1) 0 (Nat.zero_add _) _ (hC.q (Sc.rf.wI (by unfold CQ; omega))) (Sc.rf.wI (by unfold SO; omega)) ((mI_wa 3).trans (if_pos rfl)) (fun g hg => absurd hg (Nat.not_lt_zero g))
def OM (c : Cr) (G : Geo) (M : Mem) : Prop := GC G ∧ RC M ∧ HO c M ∧ Wf c
theorem OM.of {c : Cr} {G : Geo} {M : Mem} (hC : CM c G M) (hO : HO c M) : OM c G M := ⟨hC.G, hC.R, hO, hC.w⟩
section OuA
variable {c : Cr} {G : Geo} {M : Mem}
theorem yesN_256 (h : Wf c) (f : Nat) : yesN c f < 256 := Nat.lt_of_lt_of_le (yesN_lt c f) (show 2 ^ c.now.people ≤ 2 ^ 8 from Nat.pow_le_pow_right (by decide) h.p8)
theorem sp_Ou_yesTold (h : OM c G M) {f : Nat} (hf : f ≤ c.now.people) : E 1 0 0 Y_Ou_yesTold 0 [some (.ref 216), some (.int (nI f))] [] G M (QI G fun r M' => r = nI (yesN c f) ∧ M' = M) := by
  obtain ⟨hG, hR, hO, hw⟩ := h
  have hp8 := hw.p8
  first | refine E_aload_n d_Ou_yesTold_0 rfl ?_ | refine E_aload_nN d_Ou_yesTold_0 rfl ?_
  refine E_getR d_Ou_yesTold_1 gf_Ou_9 (by first | exact hG.s (by decide) rfl) (by first | exact hR.o rfl | exact hR.c cr1 rfl | exact hR.m0 ad2) ?_
  refine E_iload_n d_Ou_yesTold_4 rfl ?_
  refine E_SN2 (sp_TP_at (hG.s (k := 217) (by decide) rfl) (by decide) (by omega) (hO.2 f hf)) d_Ou_yesTold_5 nl_Ou_21 cb_TP_at cs_TP_at ⟨by decide, by decide⟩ rfl (Nat.le_of_ble_eq_true rfl) (Nat.le_of_ble_eq_true rfl) (kI fun r1 M1 hc => ?_)
  obtain ⟨rfl, rfl⟩ := hc
  refine E_retI d_Ou_yesTold_8 rfl ?_
  exact ⟨rfl, rfl⟩
theorem sp_Ou_comesOf (h : OM c G M) {f : Nat} (hf : f ≤ c.now.people) : E 1 0 0 Y_Ou_comesOf 0 [some (.ref 216), some (.int (nI f))] [] G M (QI G fun r M' => r = nI (cm c f) ∧ M' = M) := by
  obtain ⟨hG, hR, hO, hw⟩ := h
  have hp8 := hw.p8
  have hy := yesN_256 hw f
  first | refine E_aload_n d_Ou_comesOf_0 rfl ?_ | refine E_aload_nN d_Ou_comesOf_0 rfl ?_
  refine E_getR d_Ou_comesOf_1 gf_Ou_9 (by first | exact hG.s (by decide) rfl) (by first | exact hR.o rfl | exact hR.c cr1 rfl | exact hR.m0 ad2) ?_
  refine E_iload_n d_Ou_comesOf_4 rfl ?_
  refine E_SN2 (sp_TP_at (hG.s (k := 217) (by decide) rfl) (by decide) (by omega) (hO.2 f hf)) d_Ou_comesOf_5 nl_Ou_21 cb_TP_at cs_TP_at ⟨by decide, by decide⟩ rfl (Nat.le_of_ble_eq_true rfl) (Nat.le_of_ble_eq_true rfl) (kI fun r1 M1 hc => ?_)
  obtain ⟨rfl, rfl⟩ := hc
  refine E_S1 (sp_JI_bitCount (by omega)) d_Ou_comesOf_8 ml_Ou_25 cb_JI_bitCount cs_JI_bitCount ⟨by decide, by decide⟩ rfl (Nat.le_of_ble_eq_true rfl) (Nat.le_of_ble_eq_true rfl) (kI fun r1 M1 hc => ?_)
  obtain ⟨rfl, rfl⟩ := hc
  refine E_retI d_Ou_comesOf_11 rfl ?_
  exact ⟨rfl, rfl⟩
theorem sp_Ou_trueBits (h : OM c G M) : E 2 0 0 Y_Ou_trueBits 0 [some (.ref 216), none, none] [] G M (QI G fun r M' => r = ans_trues c ∧ M' = M) := by
  have hp8 := h.2.2.2.p8
  have L : ∀ k f, f + k = c.now.people + 1 → E 2 0 0 Y_Ou_trueBits 4 [some (.ref 216), some (.int (nI (bset (fun f => decide (cm c f = f)) f))), some (.int (nI f))] [] G M (QI G fun r M' => r = ans_trues c ∧ M' = M) := by
    have hG := h.1
    have hO := h.2.2.1
    intro k
    induction k with
    | zero =>
      intro f hf
      have hf2 : f = c.now.people + 1 := by omega
      subst hf2
      refine E_iload_n d_Ou_trueBits_4 rfl ?_
      first | refine E_aload_n d_Ou_trueBits_5 rfl ?_ | refine E_aload_nN d_Ou_trueBits_5 rfl ?_
      refine E_getI d_Ou_trueBits_6 gf_Ou_31 (by first | exact hG.s (by decide) rfl) (by exact hO.1) ?_
      first | (with_reducible refine E_isN2 ?_; refine E_icmp_gt 33 d_Ou_trueBits_9 rfl (nb_lt (by omega) (by omega) fun h9 => ?_) (nb_nlt (by omega) (by omega) fun h9 => ?_)) | refine E_icmp_gt 33 d_Ou_trueBits_9 rfl (fun h9 => ?_) (fun h9 => ?_)
      rotate_left
      · exfalso; omega
      refine E_iload_n d_Ou_trueBits_33 rfl ?_
      refine E_retI d_Ou_trueBits_34 rfl ?_
      exact ⟨rfl, rfl⟩
    | succ k ih =>
      intro f hf
      have hcm := cm_le c f
      have ih2 := ih (f + 1) (by omega)
      have e1 : cm c f = f → bset (fun f => decide (cm c f = f)) f ||| 2 ^ f = bset (fun f => decide (cm c f = f)) (f + 1) := fun q => bset_or1 _ f (decide_eq_true q)
      have e0 : cm c f ≠ f → bset (fun f => decide (cm c f = f)) f = bset (fun f => decide (cm c f = f)) (f + 1) := fun q => bset_or0 _ f (by simp [q])
      refine E_iload_n d_Ou_trueBits_4 rfl ?_
      first | refine E_aload_n d_Ou_trueBits_5 rfl ?_ | refine E_aload_nN d_Ou_trueBits_5 rfl ?_
      refine E_getI d_Ou_trueBits_6 gf_Ou_31 (by first | exact hG.s (by decide) rfl) (by exact hO.1) ?_
      first | (with_reducible refine E_isN2 ?_; refine E_icmp_gt 33 d_Ou_trueBits_9 rfl (nb_lt (by omega) (by omega) fun h9 => ?_) (nb_nlt (by omega) (by omega) fun h9 => ?_)) | refine E_icmp_gt 33 d_Ou_trueBits_9 rfl (fun h9 => ?_) (fun h9 => ?_)
      · exfalso; omega
      first | refine E_aload_n d_Ou_trueBits_12 rfl ?_ | refine E_aload_nN d_Ou_trueBits_12 rfl ?_
      refine E_iload_n d_Ou_trueBits_13 rfl ?_
      refine E_V1 (sp_Ou_comesOf h (by omega)) d_Ou_trueBits_14 ml_Ou_35 cb_Ou_comesOf cv_Ou_comesOf (by first | exact hG.s (by decide) rfl) ⟨by decide, rfl⟩ ⟨by decide, by decide⟩ rfl (Nat.le_of_ble_eq_true rfl) (Nat.le_of_ble_eq_true rfl) (kI fun r1 M1 hc => ?_)
      obtain ⟨rfl, rfl⟩ := hc
      refine E_iload_n d_Ou_trueBits_17 rfl ?_
      first | (with_reducible refine E_isN2 ?_; refine E_icmp_ne 27 d_Ou_trueBits_18 rfl (nb_ne fun h18 => ?_) (nb_eq (by omega) (by omega) fun h18 => ?_)) | refine E_icmp_ne 27 d_Ou_trueBits_18 rfl (fun h18 => ?_) (fun h18 => ?_)
      · first | (with_reducible refine E_isL2 ?_; refine E_iincN2 (m := 1) d_Ou_trueBits_27 rfl rfl ?_) | refine E_iinc_2 d_Ou_trueBits_27 rfl rfl ?_
        refine E_goto 4 d_Ou_trueBits_30 rfl ?_
        first | (rw [← e1 h18] at ih2; exact ih2) | (rw [← e0 h18] at ih2; exact ih2)
      · refine E_iload_n d_Ou_trueBits_21 rfl ?_
        refine E_iconst (v := nI 1) d_Ou_trueBits_22 rfl ?_
        refine E_iload_n d_Ou_trueBits_23 rfl ?_
        first | (with_reducible refine E_isN2 ?_; first | refine E_ishl1 d_Ou_trueBits_24 (by omega) ?_ | refine E_ishlN d_Ou_trueBits_24 (by omega) (by omega) ?_) | refine E_ishl d_Ou_trueBits_24 ?_
        first | (with_reducible refine E_isN2 ?_; refine E_iorN d_Ou_trueBits_25 ?_) | refine E_ior d_Ou_trueBits_25 ?_
        refine E_istore_1 d_Ou_trueBits_26 rfl ?_
        first | (with_reducible refine E_isL2 ?_; refine E_iincN2 (m := 1) d_Ou_trueBits_27 rfl rfl ?_) | refine E_iinc_2 d_Ou_trueBits_27 rfl rfl ?_
        refine E_goto 4 d_Ou_trueBits_30 rfl ?_
        first | (rw [← e1 h18] at ih2; exact ih2) | (rw [← e0 h18] at ih2; exact ih2)
  refine E_iconst (v := nI 0) d_Ou_trueBits_0 rfl ?_
  refine E_istore_1 d_Ou_trueBits_1 rfl ?_
  refine E_iconst (v := nI 0) d_Ou_trueBits_2 rfl ?_
  refine E_istore_2 d_Ou_trueBits_3 rfl ?_
  exact L (c.now.people + 1) 0 (Nat.zero_add _)
theorem sp_Ou_firmBits (h : OM c G M) : E 2 0 0 Y_Ou_firmBits 0 [some (.ref 216), none, none, none, none] [] G M (QI G fun r M' => r = ans_firm c ∧ M' = M) := by
  have hp8 := h.2.2.2.p8
  have L : ∀ k f, f + k = c.now.people + 1 → E 2 0 0 Y_Ou_firmBits 4 [some (.ref 216), some (.int (nI (bset (fun f => firmB c f) f))), some (.int (nI f)), none, none] [] G M (QI G fun r M' => r = ans_firm c ∧ M' = M) := by
    have hG := h.1
    have hO := h.2.2.1
    intro k
    induction k with
    | zero =>
      intro f hf
      have hf2 : f = c.now.people + 1 := by omega
      subst hf2
      refine E_iload_n d_Ou_firmBits_4 rfl ?_
      first | refine E_aload_n d_Ou_firmBits_5 rfl ?_ | refine E_aload_nN d_Ou_firmBits_5 rfl ?_
      refine E_getI d_Ou_firmBits_6 gf_Ou_31 (by first | exact hG.s (by decide) rfl) (by exact hO.1) ?_
      first | (with_reducible refine E_isN2 ?_; refine E_icmp_gt 89 d_Ou_firmBits_9 rfl (nb_lt (by omega) (by omega) fun h9 => ?_) (nb_nlt (by omega) (by omega) fun h9 => ?_)) | refine E_icmp_gt 89 d_Ou_firmBits_9 rfl (fun h9 => ?_) (fun h9 => ?_)
      rotate_left
      · exfalso; omega
      refine E_iload_n d_Ou_firmBits_89 rfl ?_
      refine E_retI d_Ou_firmBits_90 rfl ?_
      exact ⟨rfl, rfl⟩
    | succ k ih =>
      intro f hf
      have hcm := cm_le c f
      have ih2 := ih (f + 1) (by omega)
      have e1 : firmB c f = true → bset (fun f => firmB c f) f ||| 2 ^ f = bset (fun f => firmB c f) (f + 1) := fun q => bset_or1 _ f q
      have e0 : ¬ firmB c f = true → bset (fun f => firmB c f) f = bset (fun f => firmB c f) (f + 1) := fun q => bset_or0 _ f q
      have ef : firmB c f = true ↔ cm c f = f ∧ (f = 0 ∨ cm c (f - 1) = f) ∧ (f = c.now.people ∨ cm c (f + 1) = f) := by unfold firmB; simp only [Bool.and_eq_true, Bool.or_eq_true, decide_eq_true_eq]
      have fin : ∀ (bits : Nat) x3 x4, bits = bset (fun f => firmB c f) (f + 1) → E 2 0 0 Y_Ou_firmBits 83 [some (.ref 216), some (.int (nI bits)), some (.int (nI f)), x3, x4] [] G M (QI G fun r M' => r = ans_firm c ∧ M' = M) := by
        intro bits x3 x4 hb
        rw [hb]
        refine E_wk (ls' := [some (.ref 216), some (.int (nI (bset (fun f => firmB c f) (f + 1)))), some (.int (nI f)), none, none]) ?_ ?_
        · exact ⟨Or.inl rfl, Or.inl rfl, Or.inl rfl, Or.inr rfl, Or.inr rfl, trivial⟩
        · first | (with_reducible refine E_isL2 ?_; refine E_iincN2 (m := 1) d_Ou_firmBits_83 rfl rfl ?_) | refine E_iinc_2 d_Ou_firmBits_83 rfl rfl ?_
          refine E_goto 4 d_Ou_firmBits_86 rfl ?_
          exact ih2
      have up3 : ∀ (b a : Nat), (b = 0 ∧ ¬ (f = 0 ∨ cm c (f - 1) = f)) ∨ (b = 1 ∧ (f = 0 ∨ cm c (f - 1) = f)) → (a = 0 ∧ ¬ (f = c.now.people ∨ cm c (f + 1) = f)) ∨ (a = 1 ∧ (f = c.now.people ∨ cm c (f + 1) = f)) → E 2 0 0 Y_Ou_firmBits 59 [some (.ref 216), some (.int (nI (bset (fun f => firmB c f) f))), some (.int (nI f)), some (.int (nI b)), some (.int (nI a))] [] G M (QI G fun r M' => r = ans_firm c ∧ M' = M) := by
        intro b a hb ha
        have n1 : ¬ cm c f = f → bset (fun f => firmB c f) f = bset (fun f => firmB c f) (f + 1) := fun q => e0 (fun r => q (ef.mp r).1)
        rcases hb with ⟨rfl, hb⟩ | ⟨rfl, hb⟩
        · have n2 := e0 (fun r => hb (ef.mp r).2.1)
          first | refine E_aload_n d_Ou_firmBits_59 rfl ?_ | refine E_aload_nN d_Ou_firmBits_59 rfl ?_
          refine E_iload_n d_Ou_firmBits_60 rfl ?_
          refine E_V1 (sp_Ou_comesOf h (by omega)) d_Ou_firmBits_61 ml_Ou_35 cb_Ou_comesOf cv_Ou_comesOf (by first | exact hG.s (by decide) rfl) ⟨by decide, rfl⟩ ⟨by decide, by decide⟩ rfl (Nat.le_of_ble_eq_true rfl) (Nat.le_of_ble_eq_true rfl) (kI fun r1 M1 hc => ?_)
          obtain ⟨rfl, rfl⟩ := hc
          refine E_iload_n d_Ou_firmBits_64 rfl ?_
          first | (with_reducible refine E_isN2 ?_; refine E_icmp_ne 83 d_Ou_firmBits_65 rfl (nb_ne fun h65 => ?_) (nb_eq (by omega) (by omega) fun h65 => ?_)) | refine E_icmp_ne 83 d_Ou_firmBits_65 rfl (fun h65 => ?_) (fun h65 => ?_)
          · exact fin _ _ _ n2
          · refine E_iload_n d_Ou_firmBits_68 rfl ?_
            first | (with_reducible refine E_isP ?_; refine E_if_eq 83 d_Ou_firmBits_69 rfl (pb_0 fun h69 => ?_) (pb_1 fun h69 => ?_)) | (with_reducible refine E_isN1 ?_; refine E_if_eq 83 d_Ou_firmBits_69 rfl (nz_eq (by omega) fun h69 => ?_) (nz_ne fun h69 => ?_)) | refine E_if_eq 83 d_Ou_firmBits_69 rfl (fun h69 => ?_) (fun h69 => ?_)
            rotate_left
            · exfalso; omega
            exact fin _ _ _ n2
        · rcases ha with ⟨rfl, ha⟩ | ⟨rfl, ha⟩
          · have n2 := e0 (fun r => ha (ef.mp r).2.2)
            first | refine E_aload_n d_Ou_firmBits_59 rfl ?_ | refine E_aload_nN d_Ou_firmBits_59 rfl ?_
            refine E_iload_n d_Ou_firmBits_60 rfl ?_
            refine E_V1 (sp_Ou_comesOf h (by omega)) d_Ou_firmBits_61 ml_Ou_35 cb_Ou_comesOf cv_Ou_comesOf (by first | exact hG.s (by decide) rfl) ⟨by decide, rfl⟩ ⟨by decide, by decide⟩ rfl (Nat.le_of_ble_eq_true rfl) (Nat.le_of_ble_eq_true rfl) (kI fun r1 M1 hc => ?_)
            obtain ⟨rfl, rfl⟩ := hc
            refine E_iload_n d_Ou_firmBits_64 rfl ?_
            first | (with_reducible refine E_isN2 ?_; refine E_icmp_ne 83 d_Ou_firmBits_65 rfl (nb_ne fun h65 => ?_) (nb_eq (by omega) (by omega) fun h65 => ?_)) | refine E_icmp_ne 83 d_Ou_firmBits_65 rfl (fun h65 => ?_) (fun h65 => ?_)
            · exact fin _ _ _ n2
            · refine E_iload_n d_Ou_firmBits_68 rfl ?_
              first | (with_reducible refine E_isP ?_; refine E_if_eq 83 d_Ou_firmBits_69 rfl (pb_0 fun h69 => ?_) (pb_1 fun h69 => ?_)) | (with_reducible refine E_isN1 ?_; refine E_if_eq 83 d_Ou_firmBits_69 rfl (nz_eq (by omega) fun h69 => ?_) (nz_ne fun h69 => ?_)) | refine E_if_eq 83 d_Ou_firmBits_69 rfl (fun h69 => ?_) (fun h69 => ?_)
              · exfalso; omega
              refine E_iload d_Ou_firmBits_72 rfl ?_
              first | (with_reducible refine E_isP ?_; refine E_if_eq 83 d_Ou_firmBits_74 rfl (pb_0 fun h74 => ?_) (pb_1 fun h74 => ?_)) | (with_reducible refine E_isN1 ?_; refine E_if_eq 83 d_Ou_firmBits_74 rfl (nz_eq (by omega) fun h74 => ?_) (nz_ne fun h74 => ?_)) | refine E_if_eq 83 d_Ou_firmBits_74 rfl (fun h74 => ?_) (fun h74 => ?_)
              rotate_left
              · exfalso; omega
              exact fin _ _ _ n2
          · first | refine E_aload_n d_Ou_firmBits_59 rfl ?_ | refine E_aload_nN d_Ou_firmBits_59 rfl ?_
            refine E_iload_n d_Ou_firmBits_60 rfl ?_
            refine E_V1 (sp_Ou_comesOf h (by omega)) d_Ou_firmBits_61 ml_Ou_35 cb_Ou_comesOf cv_Ou_comesOf (by first | exact hG.s (by decide) rfl) ⟨by decide, rfl⟩ ⟨by decide, by decide⟩ rfl (Nat.le_of_ble_eq_true rfl) (Nat.le_of_ble_eq_true rfl) (kI fun r1 M1 hc => ?_)
            obtain ⟨rfl, rfl⟩ := hc
            refine E_iload_n d_Ou_firmBits_64 rfl ?_
            first | (with_reducible refine E_isN2 ?_; refine E_icmp_ne 83 d_Ou_firmBits_65 rfl (nb_ne fun h65 => ?_) (nb_eq (by omega) (by omega) fun h65 => ?_)) | refine E_icmp_ne 83 d_Ou_firmBits_65 rfl (fun h65 => ?_) (fun h65 => ?_)
            · first | exact fin _ _ _ (n1 h65) | exact fin _ _ _ (e1 (ef.mpr (And.intro h65 (And.intro hb ha))))
            · refine E_iload_n d_Ou_firmBits_68 rfl ?_
              first | (with_reducible refine E_isP ?_; refine E_if_eq 83 d_Ou_firmBits_69 rfl (pb_0 fun h69 => ?_) (pb_1 fun h69 => ?_)) | (with_reducible refine E_isN1 ?_; refine E_if_eq 83 d_Ou_firmBits_69 rfl (nz_eq (by omega) fun h69 => ?_) (nz_ne fun h69 => ?_)) | refine E_if_eq 83 d_Ou_firmBits_69 rfl (fun h69 => ?_) (fun h69 => ?_)
              · exfalso; omega
              refine E_iload d_Ou_firmBits_72 rfl ?_
              first | (with_reducible refine E_isP ?_; refine E_if_eq 83 d_Ou_firmBits_74 rfl (pb_0 fun h74 => ?_) (pb_1 fun h74 => ?_)) | (with_reducible refine E_isN1 ?_; refine E_if_eq 83 d_Ou_firmBits_74 rfl (nz_eq (by omega) fun h74 => ?_) (nz_ne fun h74 => ?_)) | refine E_if_eq 83 d_Ou_firmBits_74 rfl (fun h74 => ?_) (fun h74 => ?_)
              · exfalso; omega
              refine E_iload_n d_Ou_firmBits_77 rfl ?_
              refine E_iconst (v := nI 1) d_Ou_firmBits_78 rfl ?_
              refine E_iload_n d_Ou_firmBits_79 rfl ?_
              first | (with_reducible refine E_isN2 ?_; first | refine E_ishl1 d_Ou_firmBits_80 (by omega) ?_ | refine E_ishlN d_Ou_firmBits_80 (by omega) (by omega) ?_) | refine E_ishl d_Ou_firmBits_80 ?_
              first | (with_reducible refine E_isN2 ?_; refine E_iorN d_Ou_firmBits_81 ?_) | refine E_ior d_Ou_firmBits_81 ?_
              refine E_istore_1 d_Ou_firmBits_82 rfl ?_
              first | exact fin _ _ _ (n1 h65) | exact fin _ _ _ (e1 (ef.mpr (And.intro h65 (And.intro hb ha))))
      have up2 : ∀ (b : Nat), (b = 0 ∧ ¬ (f = 0 ∨ cm c (f - 1) = f)) ∨ (b = 1 ∧ (f = 0 ∨ cm c (f - 1) = f)) → E 2 0 0 Y_Ou_firmBits 32 [some (.ref 216), some (.int (nI (bset (fun f => firmB c f) f))), some (.int (nI f)), none, none] [.int (nI b)] G M (QI G fun r M' => r = ans_firm c ∧ M' = M) := by
        intro b hb
        have a1 : f = c.now.people → (1 = 0 ∧ ¬ (f = c.now.people ∨ cm c (f + 1) = f)) ∨ (1 = 1 ∧ (f = c.now.people ∨ cm c (f + 1) = f)) := fun q => Or.inr ⟨rfl, Or.inl q⟩
        have a2 : cm c (f + 1) = f → (1 = 0 ∧ ¬ (f = c.now.people ∨ cm c (f + 1) = f)) ∨ (1 = 1 ∧ (f = c.now.people ∨ cm c (f + 1) = f)) := fun q => Or.inr ⟨rfl, Or.inr q⟩
        have a3 : ¬ f = c.now.people → ¬ cm c (f + 1) = f → (0 = 0 ∧ ¬ (f = c.now.people ∨ cm c (f + 1) = f)) ∨ (0 = 1 ∧ (f = c.now.people ∨ cm c (f + 1) = f)) := fun q q2 => Or.inl ⟨rfl, fun r => r.elim q q2⟩
        have hcm1 := cm_le c (f + 1)
        refine E_istore_3 d_Ou_firmBits_32 rfl ?_
        refine E_iload_n d_Ou_firmBits_33 rfl ?_
        first | refine E_aload_n d_Ou_firmBits_34 rfl ?_ | refine E_aload_nN d_Ou_firmBits_34 rfl ?_
        refine E_getI d_Ou_firmBits_35 gf_Ou_31 (by first | exact hG.s (by decide) rfl) (by exact hO.1) ?_
        first | (with_reducible refine E_isN2 ?_; refine E_icmp_eq 52 d_Ou_firmBits_38 rfl (nb_eq (by omega) (by omega) fun h38 => ?_) (nb_ne fun h38 => ?_)) | refine E_icmp_eq 52 d_Ou_firmBits_38 rfl (fun h38 => ?_) (fun h38 => ?_)
        · refine E_iconst (v := nI 1) d_Ou_firmBits_52 rfl ?_
          refine E_goto 57 d_Ou_firmBits_53 rfl ?_
          refine E_istore_4 d_Ou_firmBits_57 rfl ?_
          first | exact up3 b 1 hb (a1 h38) | exact up3 b 1 hb (a2 h49) | exact up3 b 0 hb (a3 h38 h49)
        · first | refine E_aload_n d_Ou_firmBits_41 rfl ?_ | refine E_aload_nN d_Ou_firmBits_41 rfl ?_
          refine E_iload_n d_Ou_firmBits_42 rfl ?_
          refine E_iconst (v := nI 1) d_Ou_firmBits_43 rfl ?_
          first | (with_reducible refine E_isN2 ?_; refine E_iaddN d_Ou_firmBits_44 ?_) | refine E_iadd d_Ou_firmBits_44 ?_
          refine E_V1 (sp_Ou_comesOf h (by omega)) d_Ou_firmBits_45 ml_Ou_35 cb_Ou_comesOf cv_Ou_comesOf (by first | exact hG.s (by decide) rfl) ⟨by decide, rfl⟩ ⟨by decide, by decide⟩ rfl (Nat.le_of_ble_eq_true rfl) (Nat.le_of_ble_eq_true rfl) (kI fun r1 M1 hc => ?_)
          obtain ⟨rfl, rfl⟩ := hc
          refine E_iload_n d_Ou_firmBits_48 rfl ?_
          first | (with_reducible refine E_isN2 ?_; refine E_icmp_ne 56 d_Ou_firmBits_49 rfl (nb_ne fun h49 => ?_) (nb_eq (by omega) (by omega) fun h49 => ?_)) | refine E_icmp_ne 56 d_Ou_firmBits_49 rfl (fun h49 => ?_) (fun h49 => ?_)
          · refine E_iconst (v := nI 0) d_Ou_firmBits_56 rfl ?_
            refine E_istore_4 d_Ou_firmBits_57 rfl ?_
            first | exact up3 b 1 hb (a1 h38) | exact up3 b 1 hb (a2 h49) | exact up3 b 0 hb (a3 h38 h49)
          · refine E_iconst (v := nI 1) d_Ou_firmBits_52 rfl ?_
            refine E_goto 57 d_Ou_firmBits_53 rfl ?_
            refine E_istore_4 d_Ou_firmBits_57 rfl ?_
            first | exact up3 b 1 hb (a1 h38) | exact up3 b 1 hb (a2 h49) | exact up3 b 0 hb (a3 h38 h49)
      have b1 : f = 0 → (1 = 0 ∧ ¬ (f = 0 ∨ cm c (f - 1) = f)) ∨ (1 = 1 ∧ (f = 0 ∨ cm c (f - 1) = f)) := fun q => Or.inr ⟨rfl, Or.inl q⟩
      have b2 : cm c (f - 1) = f → (1 = 0 ∧ ¬ (f = 0 ∨ cm c (f - 1) = f)) ∨ (1 = 1 ∧ (f = 0 ∨ cm c (f - 1) = f)) := fun q => Or.inr ⟨rfl, Or.inr q⟩
      have b3 : ¬ f = 0 → ¬ cm c (f - 1) = f → (0 = 0 ∧ ¬ (f = 0 ∨ cm c (f - 1) = f)) ∨ (0 = 1 ∧ (f = 0 ∨ cm c (f - 1) = f)) := fun q q2 => Or.inl ⟨rfl, fun r => r.elim q q2⟩
      have hcm1 := cm_le c (f - 1)
      refine E_iload_n d_Ou_firmBits_4 rfl ?_
      first | refine E_aload_n d_Ou_firmBits_5 rfl ?_ | refine E_aload_nN d_Ou_firmBits_5 rfl ?_
      refine E_getI d_Ou_firmBits_6 gf_Ou_31 (by first | exact hG.s (by decide) rfl) (by exact hO.1) ?_
      first | (with_reducible refine E_isN2 ?_; refine E_icmp_gt 89 d_Ou_firmBits_9 rfl (nb_lt (by omega) (by omega) fun h9 => ?_) (nb_nlt (by omega) (by omega) fun h9 => ?_)) | refine E_icmp_gt 89 d_Ou_firmBits_9 rfl (fun h9 => ?_) (fun h9 => ?_)
      · exfalso; omega
      refine E_iload_n d_Ou_firmBits_12 rfl ?_
      first | (with_reducible refine E_isP ?_; refine E_if_eq 27 d_Ou_firmBits_13 rfl (pb_0 fun h13 => ?_) (pb_1 fun h13 => ?_)) | (with_reducible refine E_isN1 ?_; refine E_if_eq 27 d_Ou_firmBits_13 rfl (nz_eq (by omega) fun h13 => ?_) (nz_ne fun h13 => ?_)) | refine E_if_eq 27 d_Ou_firmBits_13 rfl (fun h13 => ?_) (fun h13 => ?_)
      · refine E_iconst (v := nI 1) d_Ou_firmBits_27 rfl ?_
        refine E_goto 32 d_Ou_firmBits_28 rfl ?_
        first | exact up2 1 (b1 h13) | exact up2 1 (b2 h24) | exact up2 0 (b3 h13 h24)
      · first | refine E_aload_n d_Ou_firmBits_16 rfl ?_ | refine E_aload_nN d_Ou_firmBits_16 rfl ?_
        refine E_iload_n d_Ou_firmBits_17 rfl ?_
        refine E_iconst (v := nI 1) d_Ou_firmBits_18 rfl ?_
        first | (with_reducible refine E_isN2 ?_; refine E_isubN d_Ou_firmBits_19 (by omega) ?_) | refine E_isub d_Ou_firmBits_19 ?_
        refine E_V1 (sp_Ou_comesOf h (by omega)) d_Ou_firmBits_20 ml_Ou_35 cb_Ou_comesOf cv_Ou_comesOf (by first | exact hG.s (by decide) rfl) ⟨by decide, rfl⟩ ⟨by decide, by decide⟩ rfl (Nat.le_of_ble_eq_true rfl) (Nat.le_of_ble_eq_true rfl) (kI fun r1 M1 hc => ?_)
        obtain ⟨rfl, rfl⟩ := hc
        refine E_iload_n d_Ou_firmBits_23 rfl ?_
        first | (with_reducible refine E_isN2 ?_; refine E_icmp_ne 31 d_Ou_firmBits_24 rfl (nb_ne fun h24 => ?_) (nb_eq (by omega) (by omega) fun h24 => ?_)) | refine E_icmp_ne 31 d_Ou_firmBits_24 rfl (fun h24 => ?_) (fun h24 => ?_)
        · refine E_iconst (v := nI 0) d_Ou_firmBits_31 rfl ?_
          first | exact up2 1 (b1 h13) | exact up2 1 (b2 h24) | exact up2 0 (b3 h13 h24)
        · refine E_iconst (v := nI 1) d_Ou_firmBits_27 rfl ?_
          refine E_goto 32 d_Ou_firmBits_28 rfl ?_
          first | exact up2 1 (b1 h13) | exact up2 1 (b2 h24) | exact up2 0 (b3 h13 h24)
  refine E_iconst (v := nI 0) d_Ou_firmBits_0 rfl ?_
  refine E_istore_1 d_Ou_firmBits_1 rfl ?_
  refine E_iconst (v := nI 0) d_Ou_firmBits_2 rfl ?_
  refine E_istore_2 d_Ou_firmBits_3 rfl ?_
  exact L (c.now.people + 1) 0 (Nat.zero_add _)
end OuA
