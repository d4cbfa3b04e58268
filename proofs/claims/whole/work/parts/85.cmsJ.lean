section CMj
variable {G : Geo} {M : Mem}
theorem lp_Ro_byHand {M0 : Mem} {n : Nat} (hn : n < 2147483648) : ∀ k i, i + k = n → ∀ c M, CM c G M → Sc CW M0 M → E 5 0 0 Y_Ro_passByHand 2 [some (.ref 214), some (.int (nI n)), some (.int (nI i))] [] G M (QI G fun r M' => r = pI ((passN k c).2 = true) ∧ CM (passN k c).1 G M' ∧ Sc CW M0 M') := by
  intro k
  induction k with
  | zero =>
    intro i hi c M hC hX
    have hG := hC.G
    have hi2 : i = n := by omega
    subst hi2
    refine E_iload_n d_Ro_passByHand_2 rfl ?_
    refine E_iload_n d_Ro_passByHand_3 rfl ?_
    first | (with_reducible refine E_isN2 ?_; refine E_icmp_ge 56 d_Ro_passByHand_4 rfl (nb_le (by omega) (by omega) fun h4 => ?_) (nb_nle (by omega) (by omega) fun h4 => ?_)) | refine E_icmp_ge 56 d_Ro_passByHand_4 rfl (fun h4 => ?_) (fun h4 => ?_)
    rotate_left
    · exfalso; omega
    refine E_iconst (v := nI 1) d_Ro_passByHand_56 rfl ?_
    refine E_retZ d_Ro_passByHand_57 rfl (by decide) ?_
    exact ⟨rfl, hC, hX⟩
  | succ k ih =>
    intro i hi c M hC hX
    have hG := hC.G
    have hR := hC.R
    have hm := hC.now
    have hw := hC.w
    have hr9 := hw.mo.round
    have hf8 := hw.fig8
    have hcp := sp_Mo_canPass hG ad2 hm hw.mo
    by_cases h9 : c.now.round = 9999
    · have e1 : passN (k + 1) c = (c, false) := if_pos h9
      rw [e1]
      refine E_iload_n d_Ro_passByHand_2 rfl ?_
      refine E_iload_n d_Ro_passByHand_3 rfl ?_
      first | (with_reducible refine E_isN2 ?_; refine E_icmp_ge 56 d_Ro_passByHand_4 rfl (nb_le (by omega) (by omega) fun h4 => ?_) (nb_nle (by omega) (by omega) fun h4 => ?_)) | refine E_icmp_ge 56 d_Ro_passByHand_4 rfl (fun h4 => ?_) (fun h4 => ?_)
      · exfalso; omega
      first | refine E_aload_n d_Ro_passByHand_7 rfl ?_ | refine E_aload_nN d_Ro_passByHand_7 rfl ?_
      refine E_getR d_Ro_passByHand_8 gf_Ro_15 (by first | exact hG.s (by decide) rfl) (by first | exact hR.o rfl | exact hR.c cr1 rfl | exact hR.m0 ad2) ?_
      refine E_getR d_Ro_passByHand_11 gf_Ro_93 (by first | exact hG.s (by decide) rfl) (by first | exact hR.o rfl | exact hR.c cr1 rfl | exact hR.m0 ad2) ?_
      refine E_V0 (hcp) d_Ro_passByHand_14 ml_Ro_85 cb_Mo_canPass cv_Mo_canPass (by first | exact hG.s (by decide) rfl) ⟨by decide, rfl⟩ ⟨by decide, by decide⟩ rfl (Nat.le_of_ble_eq_true rfl) (Nat.le_of_ble_eq_true rfl) (kI fun r1 M1 hc => ?_)
      obtain ⟨rfl, rfl⟩ := hc
      first | (with_reducible refine E_isP ?_; refine E_if_ne 22 d_Ro_passByHand_17 rfl (pb_1 fun h17 => ?_) (pb_0 fun h17 => ?_)) | (with_reducible refine E_isN1 ?_; refine E_if_ne 22 d_Ro_passByHand_17 rfl (nz_ne fun h17 => ?_) (nz_eq (by omega) fun h17 => ?_)) | refine E_if_ne 22 d_Ro_passByHand_17 rfl (fun h17 => ?_) (fun h17 => ?_)
      · exfalso; omega
      refine E_iconst (v := nI 0) d_Ro_passByHand_20 rfl ?_
      refine E_retZ d_Ro_passByHand_21 rfl (by decide) ?_
      exact ⟨rfl, hC, hX⟩
    · have e1 : passN (k + 1) c = passN k (tellS c c.now.figure) := if_neg h9
      rw [e1]
      refine E_iload_n d_Ro_passByHand_2 rfl ?_
      refine E_iload_n d_Ro_passByHand_3 rfl ?_
      first | (with_reducible refine E_isN2 ?_; refine E_icmp_ge 56 d_Ro_passByHand_4 rfl (nb_le (by omega) (by omega) fun h4 => ?_) (nb_nle (by omega) (by omega) fun h4 => ?_)) | refine E_icmp_ge 56 d_Ro_passByHand_4 rfl (fun h4 => ?_) (fun h4 => ?_)
      · exfalso; omega
      first | refine E_aload_n d_Ro_passByHand_7 rfl ?_ | refine E_aload_nN d_Ro_passByHand_7 rfl ?_
      refine E_getR d_Ro_passByHand_8 gf_Ro_15 (by first | exact hG.s (by decide) rfl) (by first | exact hR.o rfl | exact hR.c cr1 rfl | exact hR.m0 ad2) ?_
      refine E_getR d_Ro_passByHand_11 gf_Ro_93 (by first | exact hG.s (by decide) rfl) (by first | exact hR.o rfl | exact hR.c cr1 rfl | exact hR.m0 ad2) ?_
      refine E_V0 (hcp) d_Ro_passByHand_14 ml_Ro_85 cb_Mo_canPass cv_Mo_canPass (by first | exact hG.s (by decide) rfl) ⟨by decide, rfl⟩ ⟨by decide, by decide⟩ rfl (Nat.le_of_ble_eq_true rfl) (Nat.le_of_ble_eq_true rfl) (kI fun r1 M1 hc => ?_)
      obtain ⟨rfl, rfl⟩ := hc
      first | (with_reducible refine E_isP ?_; refine E_if_ne 22 d_Ro_passByHand_17 rfl (pb_1 fun h17 => ?_) (pb_0 fun h17 => ?_)) | (with_reducible refine E_isN1 ?_; refine E_if_ne 22 d_Ro_passByHand_17 rfl (nz_ne fun h17 => ?_) (nz_eq (by omega) fun h17 => ?_)) | refine E_if_ne 22 d_Ro_passByHand_17 rfl (fun h17 => ?_) (fun h17 => ?_)
      rotate_left
      · exfalso; omega
      first | refine E_aload_n d_Ro_passByHand_22 rfl ?_ | refine E_aload_nN d_Ro_passByHand_22 rfl ?_
      refine E_getR d_Ro_passByHand_23 gf_Ro_15 (by first | exact hG.s (by decide) rfl) (by first | exact hR.o rfl | exact hR.c cr1 rfl | exact hR.m0 ad2) ?_
      refine E_V0 (sp_Cr_keepStep hC) d_Ro_passByHand_26 ml_Ro_97 cb_Cr_keepStep cv_Cr_keepStep (by first | exact hG.s (by decide) rfl) ⟨by decide, rfl⟩ ⟨by decide, by decide⟩ rfl (Nat.le_of_ble_eq_true rfl) (Nat.le_of_ble_eq_true rfl) (kV fun M1 hc => ?_)
      obtain ⟨hC1, hS1⟩ := hc; have hR := hC1.R; have hm := hC1.now; have hmf : mI _ 2 4 = nI c.now.figure := hm.figure
      first | refine E_aload_n d_Ro_passByHand_29 rfl ?_ | refine E_aload_nN d_Ro_passByHand_29 rfl ?_
      first | refine E_aload_n d_Ro_passByHand_30 rfl ?_ | refine E_aload_nN d_Ro_passByHand_30 rfl ?_
      refine E_getR d_Ro_passByHand_31 gf_Ro_15 (by first | exact hG.s (by decide) rfl) (by first | exact hR.o rfl | exact hR.c cr1 rfl | exact hR.m0 ad2) ?_
      refine E_getR d_Ro_passByHand_34 gf_Ro_93 (by first | exact hG.s (by decide) rfl) (by first | exact hR.o rfl | exact hR.c cr1 rfl | exact hR.m0 ad2) ?_
      first | refine E_aload_n d_Ro_passByHand_37 rfl ?_ | refine E_aload_nN d_Ro_passByHand_37 rfl ?_
      refine E_getR d_Ro_passByHand_38 gf_Ro_15 (by first | exact hG.s (by decide) rfl) (by first | exact hR.o rfl | exact hR.c cr1 rfl | exact hR.m0 ad2) ?_
      refine E_getR d_Ro_passByHand_41 gf_Ro_93 (by first | exact hG.s (by decide) rfl) (by first | exact hR.o rfl | exact hR.c cr1 rfl | exact hR.m0 ad2) ?_
      refine E_getI d_Ro_passByHand_44 gf_Ro_75 (by first | exact hG.s (by decide) rfl) (by exact hmf) ?_
      refine E_V2 (sp_Ro_passNow hC1 hf8 (by show c.now.round < 9999; omega)) d_Ro_passByHand_47 ml_Ro_89 cb_Ro_pass cv_Ro_pass (by first | exact hG.s (by decide) rfl) ⟨by decide, rfl⟩ ⟨by decide, by decide⟩ rfl (Nat.le_of_ble_eq_true rfl) (Nat.le_of_ble_eq_true rfl) (kV fun M1 hc => ?_)
      obtain ⟨hC2, hS2⟩ := hc
      first | (with_reducible refine E_isL2 ?_; refine E_iincN2 (m := 1) d_Ro_passByHand_50 rfl rfl ?_) | refine E_iinc_2 d_Ro_passByHand_50 rfl rfl ?_
      refine E_goto 2 d_Ro_passByHand_53 rfl ?_
      exact ih (i + 1) (by omega) _ _ hC2 (hX.tr (hS1.tr hS2))
theorem sp_Ro_passByHand {c : Cr} {n : Nat} (hC : CM c G M) (hn : n < 2147483648) : E 5 0 0 Y_Ro_passByHand 0 [some (.ref 214), some (.int (nI n)), none] [] G M (QI G fun r M' => r = pI ((passN n c).2 = true) ∧ CM (passN n c).1 G M' ∧ Sc CW M M') := by
  refine E_iconst (v := nI 0) d_Ro_passByHand_0 rfl ?_
  refine E_istore_2 d_Ro_passByHand_1 rfl ?_
  exact lp_Ro_byHand hn n 0 (Nat.zero_add _) c M hC Sc.rf
theorem sp_TP_day {c : Cr} (hC : CM c G M) (x : Int32) : E 6 0 0 Y_TP_day 0 [some (.ref 0), some (.int x)] [] G M (QI G fun r M' => r = ans_day c x ∧ CM (st_day c x) G M' ∧ Sc CW M M') := by
  have hG := hC.G
  have hR := hC.R
  have hm := hC.now
  have hr9 := hC.w.mo.round
  have e1 : (nI 1).toInt = 1 := by decide
  have e60 : (nI 60).toInt = 60 := by decide
  revert x
  refine args1 61 (fun n hn hx ht => ?_) (fun x hx => ?_)
  · by_cases hP : dayP c (nI n)
    · have h1 := hP.2
      rw [ht] at h1
      rw [ans_day, st_day, if_pos hP, if_pos hP, ht]
      refine E_iload_n d_TP_day_0 rfl ?_
      refine E_iconst (v := nI 1) d_TP_day_1 rfl ?_
      first | (with_reducible refine E_isN2 ?_; refine E_icmp_lt 29 d_TP_day_2 rfl (nb_lt (by omega) (by omega) fun h2 => ?_) (nb_nlt (by omega) (by omega) fun h2 => ?_)) | refine E_icmp_lt 29 d_TP_day_2 rfl (fun h2 => ?_) (fun h2 => ?_)
      · exfalso; omega
      refine E_iload_n d_TP_day_5 rfl ?_
      refine E_bipush (v := nI 60) d_TP_day_6 (by decide) ?_
      first | (with_reducible refine E_isN2 ?_; refine E_icmp_gt 29 d_TP_day_8 rfl (nb_lt (by omega) (by omega) fun h8 => ?_) (nb_nlt (by omega) (by omega) fun h8 => ?_)) | refine E_icmp_gt 29 d_TP_day_8 rfl (fun h8 => ?_) (fun h8 => ?_)
      · exfalso; omega
      first | refine E_aload_n d_TP_day_11 rfl ?_ | refine E_aload_nN d_TP_day_11 rfl ?_
      refine E_getR d_TP_day_12 gf_TP_10 (by first | exact hG.s (by decide) rfl) (by first | exact hR.o rfl | exact hR.c cr1 rfl | exact hR.m0 ad2) ?_
      refine E_getR d_TP_day_15 gf_TP_128 (by first | exact hG.s (by decide) rfl) (by first | exact hR.o rfl | exact hR.c cr1 rfl | exact hR.m0 ad2) ?_
      refine E_getI d_TP_day_18 gf_TP_137 (by first | exact hG.s (by decide) rfl) (by first | exact hm.people | exact hm.figure | exact hm.round | rfl) ?_
      refine E_iload_n d_TP_day_21 rfl ?_
      first | (with_reducible refine E_isN2 ?_; refine E_iaddN d_TP_day_22 ?_) | refine E_iadd d_TP_day_22 ?_
      refine E_sipush (v := nI 9999) d_TP_day_23 (by decide) ?_
      first | (with_reducible refine E_isN2 ?_; refine E_icmp_le 31 d_TP_day_26 rfl (nb_le (by omega) (by omega) fun h26 => ?_) (nb_nle (by omega) (by omega) fun h26 => ?_)) | refine E_icmp_le 31 d_TP_day_26 rfl (fun h26 => ?_) (fun h26 => ?_)
      rotate_left
      · exfalso; omega
      first | refine E_aload_n d_TP_day_31 rfl ?_ | refine E_aload_nN d_TP_day_31 rfl ?_
      refine E_getR d_TP_day_32 gf_TP_40 (by first | exact hG.s (by decide) rfl) (by first | exact hR.o rfl | exact hR.c cr1 rfl | exact hR.m0 ad2) ?_
      refine E_iload_n d_TP_day_35 rfl ?_
      refine E_V1 (sp_Ro_passByHand hC (by omega)) d_TP_day_36 ml_TP_140 cb_Ro_passByHand cv_Ro_passByHand (by first | exact hG.s (by decide) rfl) ⟨by decide, rfl⟩ ⟨by decide, by decide⟩ rfl (Nat.le_of_ble_eq_true rfl) (Nat.le_of_ble_eq_true rfl) (kI fun r1 M1 hc => ?_)
      obtain ⟨rfl, hC1, hS1⟩ := hc; have hR := hC1.R; have hm := hC1.now
      refine E_pop d_TP_day_39 rfl ?_
      first | refine E_aload_n d_TP_day_40 rfl ?_ | refine E_aload_nN d_TP_day_40 rfl ?_
      refine E_getR d_TP_day_41 gf_TP_10 (by first | exact hG.s (by decide) rfl) (by first | exact hR.o rfl | exact hR.c cr1 rfl | exact hR.m0 ad2) ?_
      refine E_getR d_TP_day_44 gf_TP_128 (by first | exact hG.s (by decide) rfl) (by first | exact hR.o rfl | exact hR.c cr1 rfl | exact hR.m0 ad2) ?_
      refine E_getI d_TP_day_47 gf_TP_131 (by first | exact hG.s (by decide) rfl) (by first | exact hm.people | exact hm.figure | exact hm.round | rfl) ?_
      refine E_retI d_TP_day_50 rfl ?_
      exact ⟨rfl, hC1, hS1⟩
    · rw [ans_day, st_day, if_neg hP, if_neg hP]
      have no : 1 ≤ n → c.now.round + n ≤ 9999 → False := fun q1 q2 => hP ⟨hx, by rw [ht]; omega, by rw [ht]; exact q2⟩
      refine E_iload_n d_TP_day_0 rfl ?_
      refine E_iconst (v := nI 1) d_TP_day_1 rfl ?_
      first | (with_reducible refine E_isN2 ?_; refine E_icmp_lt 29 d_TP_day_2 rfl (nb_lt (by omega) (by omega) fun h2 => ?_) (nb_nlt (by omega) (by omega) fun h2 => ?_)) | refine E_icmp_lt 29 d_TP_day_2 rfl (fun h2 => ?_) (fun h2 => ?_)
      · refine E_iconst (v := (-1)) d_TP_day_29 rfl ?_
        refine E_retI d_TP_day_30 rfl ?_
        exact ⟨rfl, hC, Sc.rf⟩
      · refine E_iload_n d_TP_day_5 rfl ?_
        refine E_bipush (v := nI 60) d_TP_day_6 (by decide) ?_
        first | (with_reducible refine E_isN2 ?_; refine E_icmp_gt 29 d_TP_day_8 rfl (nb_lt (by omega) (by omega) fun h8 => ?_) (nb_nlt (by omega) (by omega) fun h8 => ?_)) | refine E_icmp_gt 29 d_TP_day_8 rfl (fun h8 => ?_) (fun h8 => ?_)
        · exfalso; omega
        first | refine E_aload_n d_TP_day_11 rfl ?_ | refine E_aload_nN d_TP_day_11 rfl ?_
        refine E_getR d_TP_day_12 gf_TP_10 (by first | exact hG.s (by decide) rfl) (by first | exact hR.o rfl | exact hR.c cr1 rfl | exact hR.m0 ad2) ?_
        refine E_getR d_TP_day_15 gf_TP_128 (by first | exact hG.s (by decide) rfl) (by first | exact hR.o rfl | exact hR.c cr1 rfl | exact hR.m0 ad2) ?_
        refine E_getI d_TP_day_18 gf_TP_137 (by first | exact hG.s (by decide) rfl) (by first | exact hm.people | exact hm.figure | exact hm.round | rfl) ?_
        refine E_iload_n d_TP_day_21 rfl ?_
        first | (with_reducible refine E_isN2 ?_; refine E_iaddN d_TP_day_22 ?_) | refine E_iadd d_TP_day_22 ?_
        refine E_sipush (v := nI 9999) d_TP_day_23 (by decide) ?_
        first | (with_reducible refine E_isN2 ?_; refine E_icmp_le 31 d_TP_day_26 rfl (nb_le (by omega) (by omega) fun h26 => ?_) (nb_nle (by omega) (by omega) fun h26 => ?_)) | refine E_icmp_le 31 d_TP_day_26 rfl (fun h26 => ?_) (fun h26 => ?_)
        · exfalso; exact no h2 h26
        refine E_iconst (v := (-1)) d_TP_day_29 rfl ?_
        refine E_retI d_TP_day_30 rfl ?_
        exact ⟨rfl, hC, Sc.rf⟩
  · have hP : ¬ dayP c x := fun q => hx q.1
    have no : ¬ x < nI 1 → ¬ nI 60 < x → False := fun q1 q2 => hx (by rw [lt_toInt, e1] at q1; rw [lt_toInt, e60] at q2; unfold inN; omega)
    rw [ans_day, st_day, if_neg hP, if_neg hP]
    refine E_iload_n d_TP_day_0 rfl ?_
    refine E_iconst (v := nI 1) d_TP_day_1 rfl ?_
    first | (with_reducible refine E_isN2 ?_; refine E_icmp_lt 29 d_TP_day_2 rfl (nb_lt (by omega) (by omega) fun h2 => ?_) (nb_nlt (by omega) (by omega) fun h2 => ?_)) | refine E_icmp_lt 29 d_TP_day_2 rfl (fun h2 => ?_) (fun h2 => ?_)
    · refine E_iconst (v := (-1)) d_TP_day_29 rfl ?_
      refine E_retI d_TP_day_30 rfl ?_
      exact ⟨rfl, hC, Sc.rf⟩
    · refine E_iload_n d_TP_day_5 rfl ?_
      refine E_bipush (v := nI 60) d_TP_day_6 (by decide) ?_
      first | (with_reducible refine E_isN2 ?_; refine E_icmp_gt 29 d_TP_day_8 rfl (nb_lt (by omega) (by omega) fun h8 => ?_) (nb_nlt (by omega) (by omega) fun h8 => ?_)) | refine E_icmp_gt 29 d_TP_day_8 rfl (fun h8 => ?_) (fun h8 => ?_)
      rotate_left
      · exfalso; exact no h2 h8
      refine E_iconst (v := (-1)) d_TP_day_29 rfl ?_
      refine E_retI d_TP_day_30 rfl ?_
      exact ⟨rfl, hC, Sc.rf⟩
end CMj
