theorem lp_TM_trues {c : Cr} {M0 : Mem} : ∀ (n f : Nat), f + n = c.now.people + 1 → ∀ M, HM c M → Sx SY M0 M → E 7 0 0 Y_TM_trues 4 [some (.ref 0), some (.int (nI (bset (fun f => decide (cm c f = f)) f))), some (.int (nI f))] [] GM M (QI GM fun r M' => r = ans_trues c ∧ Sx SY M0 M') := by
  intro n
  induction n with
  | zero =>
    intro f hn M hM hS
    have hR := hM.R
    have hA := hM.A
    have hp8 := hM.w.p8
    refine E_iload_n d_TM_trues_4 rfl ?_
    first | refine E_aload_n d_TM_trues_5 rfl ?_ | refine E_aload_nN d_TM_trues_5 rfl ?_
    refine E_getR (q := 1) d_TM_trues_6 gf_TM_7 (by exact ⟨by decide, rfl⟩) (by exact hR _ rfl) ?_
    refine E_iconst (v := nI 0) d_TM_trues_9 rfl ?_
    refine E_iald d_TM_trues_10 (by exact ⟨by decide, rfl⟩) (by exact ⟨by with_reducible rfl, by omega, by decide⟩) (by first | exact hA.people | exact hA.figure | exact hA.lean (by omega) | exact hN _ (by omega) | rfl) ?_
    first | (with_reducible refine E_isN2 ?_; refine E_icmp_gt 39 d_TM_trues_11 rfl (nb_lt (by omega) (by omega) fun h11 => ?_) (nb_nlt (by omega) (by omega) fun h11 => ?_)) | refine E_icmp_gt 39 d_TM_trues_11 rfl (fun h11 => ?_) (fun h11 => ?_)
    rotate_left
    · exfalso; omega
    refine E_iload_n d_TM_trues_39 rfl ?_
    refine E_retI d_TM_trues_40 rfl ?_
    exact ⟨by rw [ans_trues, ← hn, Nat.add_zero], hS⟩
  | succ n ih =>
    intro f hn M hM hS
    have hR := hM.R
    have hA := hM.A
    have hp8 := hM.w.p8
    have hc1 := cm_le c f
    refine E_iload_n d_TM_trues_4 rfl ?_
    first | refine E_aload_n d_TM_trues_5 rfl ?_ | refine E_aload_nN d_TM_trues_5 rfl ?_
    refine E_getR (q := 1) d_TM_trues_6 gf_TM_7 (by exact ⟨by decide, rfl⟩) (by exact hR _ rfl) ?_
    refine E_iconst (v := nI 0) d_TM_trues_9 rfl ?_
    refine E_iald d_TM_trues_10 (by exact ⟨by decide, rfl⟩) (by exact ⟨by with_reducible rfl, by omega, by decide⟩) (by first | exact hA.people | exact hA.figure | exact hA.lean (by omega) | exact hN _ (by omega) | rfl) ?_
    first | (with_reducible refine E_isN2 ?_; refine E_icmp_gt 39 d_TM_trues_11 rfl (nb_lt (by omega) (by omega) fun h11 => ?_) (nb_nlt (by omega) (by omega) fun h11 => ?_)) | refine E_icmp_gt 39 d_TM_trues_11 rfl (fun h11 => ?_) (fun h11 => ?_)
    · exfalso; omega
    refine E_iload_n d_TM_trues_14 rfl ?_
    first | refine E_aload_n d_TM_trues_15 rfl ?_ | refine E_aload_nN d_TM_trues_15 rfl ?_
    refine E_iload_n d_TM_trues_16 rfl ?_
    refine E_V1 (sp_TM_comesOf hM (by omega)) d_TM_trues_17 ml_TM_350 cb_TM_comesOf cv_TM_comesOf (by exact ⟨by decide, rfl⟩) ⟨by decide, rfl⟩ ⟨by decide, by decide⟩ rfl (Nat.le_of_ble_eq_true rfl) (Nat.le_of_ble_eq_true rfl) (kI fun r1 M1 hc => ?_)
    obtain ⟨rfl, hS1⟩ := hc
    refine E_iload_n d_TM_trues_20 rfl ?_
    first | (with_reducible refine E_isN2 ?_; refine E_icmp_ne 30 d_TM_trues_21 rfl (nb_ne fun h21 => ?_) (nb_eq (by omega) (by omega) fun h21 => ?_)) | refine E_icmp_ne 30 d_TM_trues_21 rfl (fun h21 => ?_) (fun h21 => ?_)
    · refine E_iconst (v := nI 0) d_TM_trues_30 rfl ?_
      first | (with_reducible refine E_isN2 ?_; refine E_iorN d_TM_trues_31 ?_) | refine E_ior d_TM_trues_31 ?_
      refine E_istore_1 d_TM_trues_32 rfl ?_
      first | (with_reducible refine E_isL2 ?_; refine E_iincN2 (m := 1) d_TM_trues_33 rfl rfl ?_) | refine E_iinc_2 d_TM_trues_33 rfl rfl ?_
      refine E_goto 4 d_TM_trues_36 rfl ?_
      first | (rw [bset_or1 (fun f => decide (cm c f = f)) f (decide_eq_true (by assumption))]; exact ih (f + 1) (by omega) _ (hM.sy hS1) (hS.tr hS1)) | (rw [Nat.or_zero, bset_or0 (fun f => decide (cm c f = f)) f (by simpa using h21)]; exact ih (f + 1) (by omega) _ (hM.sy hS1) (hS.tr hS1))
    · refine E_iconst (v := nI 1) d_TM_trues_24 rfl ?_
      refine E_iload_n d_TM_trues_25 rfl ?_
      first | (with_reducible refine E_isN2 ?_; first | refine E_ishl1 d_TM_trues_26 (by omega) ?_ | refine E_ishlN d_TM_trues_26 (by omega) (by omega) ?_) | refine E_ishl d_TM_trues_26 ?_
      refine E_goto 31 d_TM_trues_27 rfl ?_
      first | (with_reducible refine E_isN2 ?_; refine E_iorN d_TM_trues_31 ?_) | refine E_ior d_TM_trues_31 ?_
      refine E_istore_1 d_TM_trues_32 rfl ?_
      first | (with_reducible refine E_isL2 ?_; refine E_iincN2 (m := 1) d_TM_trues_33 rfl rfl ?_) | refine E_iinc_2 d_TM_trues_33 rfl rfl ?_
      refine E_goto 4 d_TM_trues_36 rfl ?_
      first | (rw [bset_or1 (fun f => decide (cm c f = f)) f (decide_eq_true (by assumption))]; exact ih (f + 1) (by omega) _ (hM.sy hS1) (hS.tr hS1)) | (rw [Nat.or_zero, bset_or0 (fun f => decide (cm c f = f)) f (by simpa using h21)]; exact ih (f + 1) (by omega) _ (hM.sy hS1) (hS.tr hS1))
theorem sp_TM_trues {c : Cr} {M : Mem} (hM : HM c M) : E 7 0 0 Y_TM_trues 0 [some (.ref 0), none, none] [] GM M (QI GM fun r M' => r = ans_trues c ∧ Sx SY M M') := by
  refine E_iconst (v := nI 0) d_TM_trues_0 rfl ?_
  refine E_istore_1 d_TM_trues_1 rfl ?_
  refine E_iconst (v := nI 0) d_TM_trues_2 rfl ?_
  refine E_istore_2 d_TM_trues_3 rfl ?_
  exact lp_TM_trues (c.now.people + 1) 0 (by omega) M hM Sx.rf
theorem sp_TM_isFirm {c : Cr} {M : Mem} (hM : HM c M) {f : Nat} (hf : f ≤ c.now.people) : E 7 0 0 Y_TM_isFirm 0 [some (.ref 0), some (.int (nI f))] [] GM M (QI GM fun r M' => r = pI (firmB c f = true) ∧ Sx SY M M') := by
  have hR := hM.R
  have hA := hM.A
  have hp8 := hM.w.p8
  have hc1 := cm_le c f
  have hc2 := cm_le c (f - 1)
  have hc3 := cm_le c (f + 1)
  first | refine E_aload_n d_TM_isFirm_0 rfl ?_ | refine E_aload_nN d_TM_isFirm_0 rfl ?_
  refine E_iload_n d_TM_isFirm_1 rfl ?_
  refine E_V1 (sp_TM_comesOf hM (by omega)) d_TM_isFirm_2 ml_TM_350 cb_TM_comesOf cv_TM_comesOf (by exact ⟨by decide, rfl⟩) ⟨by decide, rfl⟩ ⟨by decide, by decide⟩ rfl (Nat.le_of_ble_eq_true rfl) (Nat.le_of_ble_eq_true rfl) (kI fun r1 M1 hc => ?_)
  obtain ⟨rfl, hS1⟩ := hc
  have hM1 := hM.sy hS1
  have hR := hM1.R
  have hA := hM1.A
  refine E_iload_n d_TM_isFirm_5 rfl ?_
  first | (with_reducible refine E_isN2 ?_; refine E_icmp_ne 49 d_TM_isFirm_6 rfl (nb_ne fun h6 => ?_) (nb_eq (by omega) (by omega) fun h6 => ?_)) | refine E_icmp_ne 49 d_TM_isFirm_6 rfl (fun h6 => ?_) (fun h6 => ?_)
  · refine E_iconst (v := nI 0) d_TM_isFirm_49 rfl ?_
    refine E_retZ d_TM_isFirm_50 rfl (by first | exact pI_01 _ | decide) ?_
    exact ⟨by first | exact (pI_t (by simp only [firmB, Bool.and_eq_true, Bool.or_eq_true, decide_eq_true_eq]; omega)).symm | exact (pI_f (by simp only [firmB, Bool.and_eq_true, Bool.or_eq_true, decide_eq_true_eq]; omega)).symm, by assumption⟩
  · refine E_iload_n d_TM_isFirm_9 rfl ?_
    first | (with_reducible refine E_isP ?_; refine E_if_eq 24 d_TM_isFirm_10 rfl (pb_0 fun h10 => ?_) (pb_1 fun h10 => ?_)) | (with_reducible refine E_isN1 ?_; refine E_if_eq 24 d_TM_isFirm_10 rfl (nz_eq (by omega) fun h10 => ?_) (nz_ne fun h10 => ?_)) | refine E_if_eq 24 d_TM_isFirm_10 rfl (fun h10 => ?_) (fun h10 => ?_)
    · refine E_iload_n d_TM_isFirm_24 rfl ?_
      first | refine E_aload_n d_TM_isFirm_25 rfl ?_ | refine E_aload_nN d_TM_isFirm_25 rfl ?_
      refine E_getR (q := 1) d_TM_isFirm_26 gf_TM_7 (by exact ⟨by decide, rfl⟩) (by exact hR _ rfl) ?_
      refine E_iconst (v := nI 0) d_TM_isFirm_29 rfl ?_
      refine E_iald d_TM_isFirm_30 (by exact ⟨by decide, rfl⟩) (by exact ⟨by with_reducible rfl, by omega, by decide⟩) (by first | exact hA.people | exact hA.figure | exact hA.lean (by omega) | exact hN _ (by omega) | rfl) ?_
      first | (with_reducible refine E_isN2 ?_; refine E_icmp_eq 45 d_TM_isFirm_31 rfl (nb_eq (by omega) (by omega) fun h31 => ?_) (nb_ne fun h31 => ?_)) | refine E_icmp_eq 45 d_TM_isFirm_31 rfl (fun h31 => ?_) (fun h31 => ?_)
      · refine E_iconst (v := nI 1) d_TM_isFirm_45 rfl ?_
        refine E_goto 50 d_TM_isFirm_46 rfl ?_
        refine E_retZ d_TM_isFirm_50 rfl (by first | exact pI_01 _ | decide) ?_
        exact ⟨by first | exact (pI_t (by simp only [firmB, Bool.and_eq_true, Bool.or_eq_true, decide_eq_true_eq]; omega)).symm | exact (pI_f (by simp only [firmB, Bool.and_eq_true, Bool.or_eq_true, decide_eq_true_eq]; omega)).symm, by assumption⟩
      · first | refine E_aload_n d_TM_isFirm_34 rfl ?_ | refine E_aload_nN d_TM_isFirm_34 rfl ?_
        refine E_iload_n d_TM_isFirm_35 rfl ?_
        refine E_iconst (v := nI 1) d_TM_isFirm_36 rfl ?_
        first | (with_reducible refine E_isN2 ?_; refine E_iaddN d_TM_isFirm_37 ?_) | refine E_iadd d_TM_isFirm_37 ?_
        refine E_V1 (sp_TM_comesOf hM1 (by omega)) d_TM_isFirm_38 ml_TM_350 cb_TM_comesOf cv_TM_comesOf (by exact ⟨by decide, rfl⟩) ⟨by decide, rfl⟩ ⟨by decide, by decide⟩ rfl (Nat.le_of_ble_eq_true rfl) (Nat.le_of_ble_eq_true rfl) (kI fun r1 M1 hc => ?_)
        obtain ⟨rfl, hS2⟩ := hc
        replace hS1 := hS1.tr hS2
        refine E_iload_n d_TM_isFirm_41 rfl ?_
        first | (with_reducible refine E_isN2 ?_; refine E_icmp_ne 49 d_TM_isFirm_42 rfl (nb_ne fun h42 => ?_) (nb_eq (by omega) (by omega) fun h42 => ?_)) | refine E_icmp_ne 49 d_TM_isFirm_42 rfl (fun h42 => ?_) (fun h42 => ?_)
        · refine E_iconst (v := nI 0) d_TM_isFirm_49 rfl ?_
          refine E_retZ d_TM_isFirm_50 rfl (by first | exact pI_01 _ | decide) ?_
          exact ⟨by first | exact (pI_t (by simp only [firmB, Bool.and_eq_true, Bool.or_eq_true, decide_eq_true_eq]; omega)).symm | exact (pI_f (by simp only [firmB, Bool.and_eq_true, Bool.or_eq_true, decide_eq_true_eq]; omega)).symm, by assumption⟩
        · refine E_iconst (v := nI 1) d_TM_isFirm_45 rfl ?_
          refine E_goto 50 d_TM_isFirm_46 rfl ?_
          refine E_retZ d_TM_isFirm_50 rfl (by first | exact pI_01 _ | decide) ?_
          exact ⟨by first | exact (pI_t (by simp only [firmB, Bool.and_eq_true, Bool.or_eq_true, decide_eq_true_eq]; omega)).symm | exact (pI_f (by simp only [firmB, Bool.and_eq_true, Bool.or_eq_true, decide_eq_true_eq]; omega)).symm, by assumption⟩
    · first | refine E_aload_n d_TM_isFirm_13 rfl ?_ | refine E_aload_nN d_TM_isFirm_13 rfl ?_
      refine E_iload_n d_TM_isFirm_14 rfl ?_
      refine E_iconst (v := nI 1) d_TM_isFirm_15 rfl ?_
      first | (with_reducible refine E_isN2 ?_; refine E_isubN d_TM_isFirm_16 (by omega) ?_) | refine E_isub d_TM_isFirm_16 ?_
      refine E_V1 (sp_TM_comesOf hM1 (by omega)) d_TM_isFirm_17 ml_TM_350 cb_TM_comesOf cv_TM_comesOf (by exact ⟨by decide, rfl⟩) ⟨by decide, rfl⟩ ⟨by decide, by decide⟩ rfl (Nat.le_of_ble_eq_true rfl) (Nat.le_of_ble_eq_true rfl) (kI fun r1 M1 hc => ?_)
      obtain ⟨rfl, hS2⟩ := hc
      replace hS1 := hS1.tr hS2
      replace hM1 := hM.sy hS1
      have hR := hM1.R
      have hA := hM1.A
      refine E_iload_n d_TM_isFirm_20 rfl ?_
      first | (with_reducible refine E_isN2 ?_; refine E_icmp_ne 49 d_TM_isFirm_21 rfl (nb_ne fun h21 => ?_) (nb_eq (by omega) (by omega) fun h21 => ?_)) | refine E_icmp_ne 49 d_TM_isFirm_21 rfl (fun h21 => ?_) (fun h21 => ?_)
      · refine E_iconst (v := nI 0) d_TM_isFirm_49 rfl ?_
        refine E_retZ d_TM_isFirm_50 rfl (by first | exact pI_01 _ | decide) ?_
        exact ⟨by first | exact (pI_t (by simp only [firmB, Bool.and_eq_true, Bool.or_eq_true, decide_eq_true_eq]; omega)).symm | exact (pI_f (by simp only [firmB, Bool.and_eq_true, Bool.or_eq_true, decide_eq_true_eq]; omega)).symm, by assumption⟩
      · refine E_iload_n d_TM_isFirm_24 rfl ?_
        first | refine E_aload_n d_TM_isFirm_25 rfl ?_ | refine E_aload_nN d_TM_isFirm_25 rfl ?_
        refine E_getR (q := 1) d_TM_isFirm_26 gf_TM_7 (by exact ⟨by decide, rfl⟩) (by exact hR _ rfl) ?_
        refine E_iconst (v := nI 0) d_TM_isFirm_29 rfl ?_
        refine E_iald d_TM_isFirm_30 (by exact ⟨by decide, rfl⟩) (by exact ⟨by with_reducible rfl, by omega, by decide⟩) (by first | exact hA.people | exact hA.figure | exact hA.lean (by omega) | exact hN _ (by omega) | rfl) ?_
        first | (with_reducible refine E_isN2 ?_; refine E_icmp_eq 45 d_TM_isFirm_31 rfl (nb_eq (by omega) (by omega) fun h31 => ?_) (nb_ne fun h31 => ?_)) | refine E_icmp_eq 45 d_TM_isFirm_31 rfl (fun h31 => ?_) (fun h31 => ?_)
        · refine E_iconst (v := nI 1) d_TM_isFirm_45 rfl ?_
          refine E_goto 50 d_TM_isFirm_46 rfl ?_
          refine E_retZ d_TM_isFirm_50 rfl (by first | exact pI_01 _ | decide) ?_
          exact ⟨by first | exact (pI_t (by simp only [firmB, Bool.and_eq_true, Bool.or_eq_true, decide_eq_true_eq]; omega)).symm | exact (pI_f (by simp only [firmB, Bool.and_eq_true, Bool.or_eq_true, decide_eq_true_eq]; omega)).symm, by assumption⟩
        · first | refine E_aload_n d_TM_isFirm_34 rfl ?_ | refine E_aload_nN d_TM_isFirm_34 rfl ?_
          refine E_iload_n d_TM_isFirm_35 rfl ?_
          refine E_iconst (v := nI 1) d_TM_isFirm_36 rfl ?_
          first | (with_reducible refine E_isN2 ?_; refine E_iaddN d_TM_isFirm_37 ?_) | refine E_iadd d_TM_isFirm_37 ?_
          refine E_V1 (sp_TM_comesOf hM1 (by omega)) d_TM_isFirm_38 ml_TM_350 cb_TM_comesOf cv_TM_comesOf (by exact ⟨by decide, rfl⟩) ⟨by decide, rfl⟩ ⟨by decide, by decide⟩ rfl (Nat.le_of_ble_eq_true rfl) (Nat.le_of_ble_eq_true rfl) (kI fun r1 M1 hc => ?_)
          obtain ⟨rfl, hS2⟩ := hc
          replace hS1 := hS1.tr hS2
          refine E_iload_n d_TM_isFirm_41 rfl ?_
          first | (with_reducible refine E_isN2 ?_; refine E_icmp_ne 49 d_TM_isFirm_42 rfl (nb_ne fun h42 => ?_) (nb_eq (by omega) (by omega) fun h42 => ?_)) | refine E_icmp_ne 49 d_TM_isFirm_42 rfl (fun h42 => ?_) (fun h42 => ?_)
          · refine E_iconst (v := nI 0) d_TM_isFirm_49 rfl ?_
            refine E_retZ d_TM_isFirm_50 rfl (by first | exact pI_01 _ | decide) ?_
            exact ⟨by first | exact (pI_t (by simp only [firmB, Bool.and_eq_true, Bool.or_eq_true, decide_eq_true_eq]; omega)).symm | exact (pI_f (by simp only [firmB, Bool.and_eq_true, Bool.or_eq_true, decide_eq_true_eq]; omega)).symm, by assumption⟩
          · refine E_iconst (v := nI 1) d_TM_isFirm_45 rfl ?_
            refine E_goto 50 d_TM_isFirm_46 rfl ?_
            refine E_retZ d_TM_isFirm_50 rfl (by first | exact pI_01 _ | decide) ?_
            exact ⟨by first | exact (pI_t (by simp only [firmB, Bool.and_eq_true, Bool.or_eq_true, decide_eq_true_eq]; omega)).symm | exact (pI_f (by simp only [firmB, Bool.and_eq_true, Bool.or_eq_true, decide_eq_true_eq]; omega)).symm, by assumption⟩
theorem lp_TM_firm {c : Cr} {M0 : Mem} : ∀ (n f : Nat), f + n = c.now.people + 1 → ∀ M, HM c M → Sx SY M0 M → E 8 0 0 Y_TM_firm 4 [some (.ref 0), some (.int (nI (bset (fun f => firmB c f) f))), some (.int (nI f))] [] GM M (QI GM fun r M' => r = ans_firm c ∧ Sx SY M0 M') := by
  intro n
  induction n with
  | zero =>
    intro f hn M hM hS
    have hR := hM.R
    have hA := hM.A
    have hp8 := hM.w.p8
    refine E_iload_n d_TM_firm_4 rfl ?_
    first | refine E_aload_n d_TM_firm_5 rfl ?_ | refine E_aload_nN d_TM_firm_5 rfl ?_
    refine E_getR (q := 1) d_TM_firm_6 gf_TM_7 (by exact ⟨by decide, rfl⟩) (by exact hR _ rfl) ?_
    refine E_iconst (v := nI 0) d_TM_firm_9 rfl ?_
    refine E_iald d_TM_firm_10 (by exact ⟨by decide, rfl⟩) (by exact ⟨by with_reducible rfl, by omega, by decide⟩) (by first | exact hA.people | exact hA.figure | exact hA.lean (by omega) | exact hN _ (by omega) | rfl) ?_
    first | (with_reducible refine E_isN2 ?_; refine E_icmp_gt 38 d_TM_firm_11 rfl (nb_lt (by omega) (by omega) fun h11 => ?_) (nb_nlt (by omega) (by omega) fun h11 => ?_)) | refine E_icmp_gt 38 d_TM_firm_11 rfl (fun h11 => ?_) (fun h11 => ?_)
    rotate_left
    · exfalso; omega
    refine E_iload_n d_TM_firm_38 rfl ?_
    refine E_retI d_TM_firm_39 rfl ?_
    exact ⟨by rw [ans_firm, ← hn, Nat.add_zero], hS⟩
  | succ n ih =>
    intro f hn M hM hS
    have hR := hM.R
    have hA := hM.A
    have hp8 := hM.w.p8
    refine E_iload_n d_TM_firm_4 rfl ?_
    first | refine E_aload_n d_TM_firm_5 rfl ?_ | refine E_aload_nN d_TM_firm_5 rfl ?_
    refine E_getR (q := 1) d_TM_firm_6 gf_TM_7 (by exact ⟨by decide, rfl⟩) (by exact hR _ rfl) ?_
    refine E_iconst (v := nI 0) d_TM_firm_9 rfl ?_
    refine E_iald d_TM_firm_10 (by exact ⟨by decide, rfl⟩) (by exact ⟨by with_reducible rfl, by omega, by decide⟩) (by first | exact hA.people | exact hA.figure | exact hA.lean (by omega) | exact hN _ (by omega) | rfl) ?_
    first | (with_reducible refine E_isN2 ?_; refine E_icmp_gt 38 d_TM_firm_11 rfl (nb_lt (by omega) (by omega) fun h11 => ?_) (nb_nlt (by omega) (by omega) fun h11 => ?_)) | refine E_icmp_gt 38 d_TM_firm_11 rfl (fun h11 => ?_) (fun h11 => ?_)
    · exfalso; omega
    refine E_iload_n d_TM_firm_14 rfl ?_
    first | refine E_aload_n d_TM_firm_15 rfl ?_ | refine E_aload_nN d_TM_firm_15 rfl ?_
    refine E_iload_n d_TM_firm_16 rfl ?_
    refine E_V1 (sp_TM_isFirm hM (by omega)) d_TM_firm_17 ml_TM_353 cb_TM_isFirm cv_TM_isFirm (by exact ⟨by decide, rfl⟩) ⟨by decide, rfl⟩ ⟨by decide, by decide⟩ rfl (Nat.le_of_ble_eq_true rfl) (Nat.le_of_ble_eq_true rfl) (kI fun r1 M1 hc => ?_)
    obtain ⟨rfl, hS1⟩ := hc
    first | (with_reducible refine E_isP ?_; refine E_if_eq 29 d_TM_firm_20 rfl (pb_0 fun h20 => ?_) (pb_1 fun h20 => ?_)) | (with_reducible refine E_isN1 ?_; refine E_if_eq 29 d_TM_firm_20 rfl (nz_eq (by omega) fun h20 => ?_) (nz_ne fun h20 => ?_)) | refine E_if_eq 29 d_TM_firm_20 rfl (fun h20 => ?_) (fun h20 => ?_)
    · refine E_iconst (v := nI 0) d_TM_firm_29 rfl ?_
      first | (with_reducible refine E_isN2 ?_; refine E_iorN d_TM_firm_30 ?_) | refine E_ior d_TM_firm_30 ?_
      refine E_istore_1 d_TM_firm_31 rfl ?_
      first | (with_reducible refine E_isL2 ?_; refine E_iincN2 (m := 1) d_TM_firm_32 rfl rfl ?_) | refine E_iinc_2 d_TM_firm_32 rfl rfl ?_
      refine E_goto 4 d_TM_firm_35 rfl ?_
      first | (rw [bset_or1 (fun f => firmB c f) f (by assumption)]; exact ih (f + 1) (by omega) _ (hM.sy hS1) (hS.tr hS1)) | (rw [Nat.or_zero, bset_or0 (fun f => firmB c f) f (by assumption)]; exact ih (f + 1) (by omega) _ (hM.sy hS1) (hS.tr hS1))
    · refine E_iconst (v := nI 1) d_TM_firm_23 rfl ?_
      refine E_iload_n d_TM_firm_24 rfl ?_
      first | (with_reducible refine E_isN2 ?_; first | refine E_ishl1 d_TM_firm_25 (by omega) ?_ | refine E_ishlN d_TM_firm_25 (by omega) (by omega) ?_) | refine E_ishl d_TM_firm_25 ?_
      refine E_goto 30 d_TM_firm_26 rfl ?_
      first | (with_reducible refine E_isN2 ?_; refine E_iorN d_TM_firm_30 ?_) | refine E_ior d_TM_firm_30 ?_
      refine E_istore_1 d_TM_firm_31 rfl ?_
      first | (with_reducible refine E_isL2 ?_; refine E_iincN2 (m := 1) d_TM_firm_32 rfl rfl ?_) | refine E_iinc_2 d_TM_firm_32 rfl rfl ?_
      refine E_goto 4 d_TM_firm_35 rfl ?_
      first | (rw [bset_or1 (fun f => firmB c f) f (by assumption)]; exact ih (f + 1) (by omega) _ (hM.sy hS1) (hS.tr hS1)) | (rw [Nat.or_zero, bset_or0 (fun f => firmB c f) f (by assumption)]; exact ih (f + 1) (by omega) _ (hM.sy hS1) (hS.tr hS1))
theorem sp_TM_firm {c : Cr} {M : Mem} (hM : HM c M) : E 8 0 0 Y_TM_firm 0 [some (.ref 0), none, none] [] GM M (QI GM fun r M' => r = ans_firm c ∧ Sx SY M M') := by
  refine E_iconst (v := nI 0) d_TM_firm_0 rfl ?_
  refine E_istore_1 d_TM_firm_1 rfl ?_
  refine E_iconst (v := nI 0) d_TM_firm_2 rfl ?_
  refine E_istore_2 d_TM_firm_3 rfl ?_
  exact lp_TM_firm (c.now.people + 1) 0 (by omega) M hM Sx.rf
def HN (c : Cr) (M : Mem) : Prop := ∀ f, f ≤ c.now.people → mI M 11 f = nI (cm c f)
theorem lp_TM_layNext {c : Cr} {M0 : Mem} : ∀ (n f : Nat), f + n = c.now.people + 1 → ∀ M, HM c M → Sx SQ M0 M → (∀ i, i < f → mI M 11 i = nI (cm c i)) → E 7 0 0 Y_TM_layNext 2 [some (.ref 0), some (.int (nI f))] [] GM M (QV GM fun M' => HN c M' ∧ Sx SQ M0 M') := by
  intro n
  induction n with
  | zero =>
    intro f hn M hM hS hI
    have hR := hM.R
    have hA := hM.A
    have hp8 := hM.w.p8
    refine E_iload_n d_TM_layNext_2 rfl ?_
    first | refine E_aload_n d_TM_layNext_3 rfl ?_ | refine E_aload_nN d_TM_layNext_3 rfl ?_
    refine E_getR (q := 1) d_TM_layNext_4 gf_TM_7 (by exact ⟨by decide, rfl⟩) (by exact hR _ rfl) ?_
    refine E_iconst (v := nI 0) d_TM_layNext_7 rfl ?_
    refine E_iald d_TM_layNext_8 (by exact ⟨by decide, rfl⟩) (by exact ⟨by with_reducible rfl, by omega, by decide⟩) (by first | exact hA.people | exact hA.figure | exact hA.lean (by omega) | exact hN _ (by omega) | rfl) ?_
    first | (with_reducible refine E_isN2 ?_; refine E_icmp_gt 29 d_TM_layNext_9 rfl (nb_lt (by omega) (by omega) fun h9 => ?_) (nb_nlt (by omega) (by omega) fun h9 => ?_)) | refine E_icmp_gt 29 d_TM_layNext_9 rfl (fun h9 => ?_) (fun h9 => ?_)
    rotate_left
    · exfalso; omega
    refine E_retV d_TM_layNext_29 rfl ?_
    exact ⟨fun i hi => hI i (by omega), hS⟩
  | succ n ih =>
    intro f hn M hM hS hI
    have hR := hM.R
    have hA := hM.A
    have hp8 := hM.w.p8
    refine E_iload_n d_TM_layNext_2 rfl ?_
    first | refine E_aload_n d_TM_layNext_3 rfl ?_ | refine E_aload_nN d_TM_layNext_3 rfl ?_
    refine E_getR (q := 1) d_TM_layNext_4 gf_TM_7 (by exact ⟨by decide, rfl⟩) (by exact hR _ rfl) ?_
    refine E_iconst (v := nI 0) d_TM_layNext_7 rfl ?_
    refine E_iald d_TM_layNext_8 (by exact ⟨by decide, rfl⟩) (by exact ⟨by with_reducible rfl, by omega, by decide⟩) (by first | exact hA.people | exact hA.figure | exact hA.lean (by omega) | exact hN _ (by omega) | rfl) ?_
    first | (with_reducible refine E_isN2 ?_; refine E_icmp_gt 29 d_TM_layNext_9 rfl (nb_lt (by omega) (by omega) fun h9 => ?_) (nb_nlt (by omega) (by omega) fun h9 => ?_)) | refine E_icmp_gt 29 d_TM_layNext_9 rfl (fun h9 => ?_) (fun h9 => ?_)
    · exfalso; omega
    first | refine E_aload_n d_TM_layNext_12 rfl ?_ | refine E_aload_nN d_TM_layNext_12 rfl ?_
    refine E_getR (q := 11) d_TM_layNext_13 gf_TM_53 (by exact ⟨by decide, rfl⟩) (by exact hR _ rfl) ?_
    refine E_iload_n d_TM_layNext_16 rfl ?_
    first | refine E_aload_n d_TM_layNext_17 rfl ?_ | refine E_aload_nN d_TM_layNext_17 rfl ?_
    refine E_iload_n d_TM_layNext_18 rfl ?_
    refine E_V1 (sp_TM_comesOf hM (by omega)) d_TM_layNext_19 ml_TM_350 cb_TM_comesOf cv_TM_comesOf (by exact ⟨by decide, rfl⟩) ⟨by decide, rfl⟩ ⟨by decide, by decide⟩ rfl (Nat.le_of_ble_eq_true rfl) (Nat.le_of_ble_eq_true rfl) (kI fun r1 M1 hc => ?_)
    obtain ⟨rfl, hS1⟩ := hc
    have hR := hM.R.sx hS1
    refine E_iast d_TM_layNext_22 (by exact ⟨by decide, rfl⟩) (by exact ⟨by with_reducible rfl, by omega, by decide⟩) ?_
    first | (with_reducible refine E_isL1 ?_; refine E_iincN1 (m := 1) d_TM_layNext_23 rfl rfl ?_) | refine E_iinc_1 d_TM_layNext_23 rfl rfl ?_
    refine E_goto 2 d_TM_layNext_26 rfl ?_
    exact ih (f + 1) (by omega) _ (hM.sx ((hS1.wk fun _ => SY.q).wI (by unfold SQ; decide))) (hS.tr ((hS1.wk fun _ => SY.q).wI (by unfold SQ; decide))) (fun i hi => by
      rw [mI_wI]
      by_cases e : i = f
      · rw [if_pos ⟨rfl, e⟩, e]
      · rw [if_neg (fun q => e q.2), (hS1.2 11 (by unfold SY; decide)).1]
        exact hI i (by omega))
theorem sp_TM_layNext {c : Cr} {M : Mem} (hM : HM c M) : E 7 0 0 Y_TM_layNext 0 [some (.ref 0), none] [] GM M (QV GM fun M' => HN c M' ∧ Sx SQ M M') := by
  refine E_iconst (v := nI 0) d_TM_layNext_0 rfl ?_
  refine E_istore_1 d_TM_layNext_1 rfl ?_
  exact lp_TM_layNext (c.now.people + 1) 0 (by omega) M hM Sx.rf (fun i hi => absurd hi (Nat.not_lt_zero i))
theorem lp_TM_behind {c : Cr} {M : Mem} (hR : MR M) (hN : HN c M) (hp8 : c.now.people ≤ 8) {f : Nat} (hf : f ≤ c.now.people) {n : Nat} (hn : n ≤ 100) : ∀ (j k : Nat), k + j = n → E 0 0 0 Y_TM_behind 5 [some (.ref 0), some (.int (nI f)), some (.int (nI n)), some (.int (nI (itn (cm c) k f))), some (.int (nI k))] [] GM M (QI GM fun r M' => r = nI (itn (cm c) n f) ∧ M' = M) := by
  intro j
  induction j with
  | zero =>
    intro k hk
    refine E_iload d_TM_behind_5 rfl ?_
    refine E_iload_n d_TM_behind_7 rfl ?_
    first | (with_reducible refine E_isN2 ?_; refine E_icmp_ge 24 d_TM_behind_8 rfl (nb_le (by omega) (by omega) fun h8 => ?_) (nb_nle (by omega) (by omega) fun h8 => ?_)) | refine E_icmp_ge 24 d_TM_behind_8 rfl (fun h8 => ?_) (fun h8 => ?_)
    rotate_left
    · exfalso; omega
    refine E_iload_n d_TM_behind_24 rfl ?_
    refine E_retI d_TM_behind_25 rfl ?_
    exact ⟨by rw [← hk, Nat.add_zero], rfl⟩
  | succ j ih =>
    intro k hk
    have hi := itn_le (cm_le c) hf k
    refine E_iload d_TM_behind_5 rfl ?_
    refine E_iload_n d_TM_behind_7 rfl ?_
    first | (with_reducible refine E_isN2 ?_; refine E_icmp_ge 24 d_TM_behind_8 rfl (nb_le (by omega) (by omega) fun h8 => ?_) (nb_nle (by omega) (by omega) fun h8 => ?_)) | refine E_icmp_ge 24 d_TM_behind_8 rfl (fun h8 => ?_) (fun h8 => ?_)
    · exfalso; omega
    first | refine E_aload_n d_TM_behind_11 rfl ?_ | refine E_aload_nN d_TM_behind_11 rfl ?_
    refine E_getR (q := 11) d_TM_behind_12 gf_TM_53 (by exact ⟨by decide, rfl⟩) (by exact hR _ rfl) ?_
    refine E_iload_n d_TM_behind_15 rfl ?_
    refine E_iald d_TM_behind_16 (by exact ⟨by decide, rfl⟩) (by exact ⟨by with_reducible rfl, by omega, by decide⟩) (by first | exact hA.people | exact hA.figure | exact hA.lean (by omega) | exact hN _ (by omega) | rfl) ?_
    refine E_istore_3 d_TM_behind_17 rfl ?_
    first | (with_reducible refine E_isL4 ?_; refine E_iincN4 (m := 1) d_TM_behind_18 rfl rfl ?_) | refine E_iinc_4 d_TM_behind_18 rfl rfl ?_
    refine E_goto 5 d_TM_behind_21 rfl ?_
    exact ih (k + 1) (by omega)
theorem sp_TM_behind {c : Cr} {M : Mem} (hR : MR M) (hN : HN c M) (hp8 : c.now.people ≤ 8) {f : Nat} (hf : f ≤ c.now.people) {n : Nat} (hn : n ≤ 100) : E 0 0 0 Y_TM_behind 0 [some (.ref 0), some (.int (nI f)), some (.int (nI n)), none, none] [] GM M (QI GM fun r M' => r = nI (itn (cm c) n f) ∧ M' = M) := by
  refine E_iload_n d_TM_behind_0 rfl ?_
  refine E_istore_3 d_TM_behind_1 rfl ?_
  refine E_iconst (v := nI 0) d_TM_behind_2 rfl ?_
  refine E_istore_4 d_TM_behind_3 rfl ?_
  exact lp_TM_behind hR hN hp8 hf hn n 0 (by omega)
theorem lp_TM_ringOf {c : Cr} {M : Mem} (hR : MR M) (hN : HN c M) (hp8 : c.now.people ≤ 8) {f : Nat} (hf : f ≤ c.now.people) : ∀ (k n : Nat), n + k = 10 → 1 ≤ n → E 1 0 0 Y_TM_ringOf 2 [some (.ref 0), some (.int (nI f)), some (.int (nI n))] [] GM M (QI GM fun r M' => r = enZ (ringA (cm c) f k n) ∧ M' = M) := by
  intro k
  induction k with
  | zero =>
    intro n hn h1
    refine E_iload_n d_TM_ringOf_2 rfl ?_
    refine E_bipush (v := nI 9) d_TM_ringOf_3 (by decide) ?_
    first | (with_reducible refine E_isN2 ?_; refine E_icmp_gt 26 d_TM_ringOf_5 rfl (nb_lt (by omega) (by omega) fun h5 => ?_) (nb_nlt (by omega) (by omega) fun h5 => ?_)) | refine E_icmp_gt 26 d_TM_ringOf_5 rfl (fun h5 => ?_) (fun h5 => ?_)
    rotate_left
    · exfalso; omega
    refine E_iconst (v := (-1)) d_TM_ringOf_26 rfl ?_
    refine E_retI d_TM_ringOf_27 rfl ?_
    exact ⟨rfl, rfl⟩
  | succ k ih =>
    intro n hn h1
    have hi := itn_le (cm_le c) hf n
    rw [ringA]
    refine E_iload_n d_TM_ringOf_2 rfl ?_
    refine E_bipush (v := nI 9) d_TM_ringOf_3 (by decide) ?_
    first | (with_reducible refine E_isN2 ?_; refine E_icmp_gt 26 d_TM_ringOf_5 rfl (nb_lt (by omega) (by omega) fun h5 => ?_) (nb_nlt (by omega) (by omega) fun h5 => ?_)) | refine E_icmp_gt 26 d_TM_ringOf_5 rfl (fun h5 => ?_) (fun h5 => ?_)
    · exfalso; omega
    first | refine E_aload_n d_TM_ringOf_8 rfl ?_ | refine E_aload_nN d_TM_ringOf_8 rfl ?_
    refine E_iload_n d_TM_ringOf_9 rfl ?_
    refine E_iload_n d_TM_ringOf_10 rfl ?_
    refine E_V2 (sp_TM_behind hR hN hp8 hf (by omega)) d_TM_ringOf_11 ml_TM_356 cb_TM_behind cv_TM_behind (by exact ⟨by decide, rfl⟩) ⟨by decide, rfl⟩ ⟨by decide, by decide⟩ rfl (Nat.le_of_ble_eq_true rfl) (Nat.le_of_ble_eq_true rfl) (kI fun r1 M1 hc => ?_)
    obtain ⟨rfl, rfl⟩ := hc
    refine E_iload_n d_TM_ringOf_14 rfl ?_
    first | (with_reducible refine E_isN2 ?_; refine E_icmp_ne 20 d_TM_ringOf_15 rfl (nb_ne fun h15 => ?_) (nb_eq (by omega) (by omega) fun h15 => ?_)) | refine E_icmp_ne 20 d_TM_ringOf_15 rfl (fun h15 => ?_) (fun h15 => ?_)
    · first | (with_reducible refine E_isL2 ?_; refine E_iincN2 (m := 1) d_TM_ringOf_20 rfl rfl ?_) | refine E_iinc_2 d_TM_ringOf_20 rfl rfl ?_
      refine E_goto 2 d_TM_ringOf_23 rfl ?_
      rw [if_neg h15]; exact ih (n + 1) (by omega) (by omega)
    · refine E_iload_n d_TM_ringOf_18 rfl ?_
      refine E_retI d_TM_ringOf_19 rfl ?_
      exact ⟨by rw [if_pos h15, enZ, if_neg (by omega)], rfl⟩
theorem sp_TM_ringOf {c : Cr} {M : Mem} (hR : MR M) (hN : HN c M) (hp8 : c.now.people ≤ 8) {f : Nat} (hf : f ≤ c.now.people) : E 1 0 0 Y_TM_ringOf 0 [some (.ref 0), some (.int (nI f)), none] [] GM M (QI GM fun r M' => r = enZ (ringSz (cm c) f) ∧ M' = M) := by
  refine E_iconst (v := nI 1) d_TM_ringOf_0 rfl ?_
  refine E_istore_2 d_TM_ringOf_1 rfl ?_
  exact lp_TM_ringOf hR hN hp8 hf 9 1 (by omega) (by omega)
theorem lp_TM_tillRing {c : Cr} {M : Mem} (hR : MR M) (hN : HN c M) (hp8 : c.now.people ≤ 8) {f : Nat} (hf : f ≤ c.now.people) (hex : ∃ n, n ≤ 9 ∧ ringSz (cm c) (itn (cm c) n f) ≠ 0) : ∀ (k n : Nat), n + k = 10 → (∀ i, i < n → ringSz (cm c) (itn (cm c) i f) = 0) → E 2 0 0 Y_TM_tillRing 2 [some (.ref 0), some (.int (nI f)), some (.int (nI n))] [] GM M (QI GM fun r M' => r = nI (tillA (cm c) f k n) ∧ M' = M) := by
  intro k
  induction k with
  | zero =>
    intro n hn h1
    obtain ⟨i, hi, h2⟩ := hex
    exact absurd (h1 i (by omega)) h2
  | succ k ih =>
    intro n hn h1
    have hi := itn_le (cm_le c) hf n
    have hz := ringSz_le (cm c) (itn (cm c) n f)
    rw [tillA]
    first | refine E_aload_n d_TM_tillRing_2 rfl ?_ | refine E_aload_nN d_TM_tillRing_2 rfl ?_
    first | refine E_aload_n d_TM_tillRing_3 rfl ?_ | refine E_aload_nN d_TM_tillRing_3 rfl ?_
    refine E_iload_n d_TM_tillRing_4 rfl ?_
    refine E_iload_n d_TM_tillRing_5 rfl ?_
    refine E_V2 (sp_TM_behind hR hN hp8 hf (by omega)) d_TM_tillRing_6 ml_TM_356 cb_TM_behind cv_TM_behind (by exact ⟨by decide, rfl⟩) ⟨by decide, rfl⟩ ⟨by decide, by decide⟩ rfl (Nat.le_of_ble_eq_true rfl) (Nat.le_of_ble_eq_true rfl) (kI fun r1 M1 hc => ?_)
    obtain ⟨rfl, rfl⟩ := hc
    refine E_V1 (sp_TM_ringOf hR hN hp8 hi) d_TM_tillRing_9 ml_TM_359 cb_TM_ringOf cv_TM_ringOf (by exact ⟨by decide, rfl⟩) ⟨by decide, rfl⟩ ⟨by decide, by decide⟩ rfl (Nat.le_of_ble_eq_true rfl) (Nat.le_of_ble_eq_true rfl) (kI fun r1 M1 hc => ?_)
    obtain ⟨rfl, rfl⟩ := hc
    refine E_iconst (v := (-1)) d_TM_tillRing_12 rfl ?_
    first | (with_reducible refine E_isN2 ?_; refine E_icmp_ne 22 d_TM_tillRing_13 rfl (nb_ne fun h13 => ?_) (nb_eq (by omega) (by omega) fun h13 => ?_)) | refine E_icmp_ne 22 d_TM_tillRing_13 rfl (fun h13 => ?_) (fun h13 => ?_)
    · refine E_iload_n d_TM_tillRing_22 rfl ?_
      refine E_retI d_TM_tillRing_23 rfl ?_
      exact ⟨by rw [if_neg (fun q => h13 ((enZ_m1 (by omega)).mpr q))], rfl⟩
    · first | (with_reducible refine E_isL2 ?_; refine E_iincN2 (m := 1) d_TM_tillRing_16 rfl rfl ?_) | refine E_iinc_2 d_TM_tillRing_16 rfl rfl ?_
      refine E_goto 2 d_TM_tillRing_19 rfl ?_
      rw [if_pos ((enZ_m1 (by omega)).mp h13)]; exact ih (n + 1) (by omega) (fun i hi => (Nat.lt_or_ge i n).elim (h1 i) (fun q => by rw [show i = n by omega]; exact (enZ_m1 (by omega)).mp h13))
theorem lp_TM_lowest {c : Cr} {M : Mem} (hR : MR M) (hN : HN c M) (hp8 : c.now.people ≤ 8) {f : Nat} (hf : f ≤ c.now.people) : ∀ (k n w : Nat), n + k = 10 → w ≤ 8 → E 1 0 0 Y_TM_lowestOfRing 4 [some (.ref 0), some (.int (nI f)), some (.int (nI w)), some (.int (nI n))] [] GM M (QI GM fun r M' => r = nI (lowA (cm c) f k n w) ∧ M' = M) := by
  intro k
  induction k with
  | zero =>
    intro n w hn hw
    refine E_iload_n d_TM_lowestOfRing_4 rfl ?_
    refine E_bipush (v := nI 9) d_TM_lowestOfRing_5 (by decide) ?_
    first | (with_reducible refine E_isN2 ?_; refine E_icmp_gt 33 d_TM_lowestOfRing_7 rfl (nb_lt (by omega) (by omega) fun h7 => ?_) (nb_nlt (by omega) (by omega) fun h7 => ?_)) | refine E_icmp_gt 33 d_TM_lowestOfRing_7 rfl (fun h7 => ?_) (fun h7 => ?_)
    rotate_left
    · exfalso; omega
    refine E_iload_n d_TM_lowestOfRing_33 rfl ?_
    refine E_retI d_TM_lowestOfRing_34 rfl ?_
    exact ⟨rfl, rfl⟩
  | succ k ih =>
    intro n w hn hw
    have hi := itn_le (cm_le c) hf n
    rw [lowA]
    refine E_iload_n d_TM_lowestOfRing_4 rfl ?_
    refine E_bipush (v := nI 9) d_TM_lowestOfRing_5 (by decide) ?_
    first | (with_reducible refine E_isN2 ?_; refine E_icmp_gt 33 d_TM_lowestOfRing_7 rfl (nb_lt (by omega) (by omega) fun h7 => ?_) (nb_nlt (by omega) (by omega) fun h7 => ?_)) | refine E_icmp_gt 33 d_TM_lowestOfRing_7 rfl (fun h7 => ?_) (fun h7 => ?_)
    · exfalso; omega
    first | refine E_aload_n d_TM_lowestOfRing_10 rfl ?_ | refine E_aload_nN d_TM_lowestOfRing_10 rfl ?_
    refine E_iload_n d_TM_lowestOfRing_11 rfl ?_
    refine E_iload_n d_TM_lowestOfRing_12 rfl ?_
    refine E_V2 (sp_TM_behind hR hN hp8 hf (by omega)) d_TM_lowestOfRing_13 ml_TM_356 cb_TM_behind cv_TM_behind (by exact ⟨by decide, rfl⟩) ⟨by decide, rfl⟩ ⟨by decide, by decide⟩ rfl (Nat.le_of_ble_eq_true rfl) (Nat.le_of_ble_eq_true rfl) (kI fun r1 M1 hc => ?_)
    obtain ⟨rfl, rfl⟩ := hc
    refine E_iload_n d_TM_lowestOfRing_16 rfl ?_
    first | (with_reducible refine E_isN2 ?_; refine E_icmp_ge 27 d_TM_lowestOfRing_17 rfl (nb_le (by omega) (by omega) fun h17 => ?_) (nb_nle (by omega) (by omega) fun h17 => ?_)) | refine E_icmp_ge 27 d_TM_lowestOfRing_17 rfl (fun h17 => ?_) (fun h17 => ?_)
    · first | (with_reducible refine E_isL3 ?_; refine E_iincN3 (m := 1) d_TM_lowestOfRing_27 rfl rfl ?_) | refine E_iinc_3 d_TM_lowestOfRing_27 rfl rfl ?_
      refine E_goto 4 d_TM_lowestOfRing_30 rfl ?_
      first | (rw [if_pos h17]; exact ih (n + 1) _ (by omega) (by omega)) | (rw [if_neg (by omega)]; exact ih (n + 1) _ (by omega) hw)
    · first | refine E_aload_n d_TM_lowestOfRing_20 rfl ?_ | refine E_aload_nN d_TM_lowestOfRing_20 rfl ?_
      refine E_iload_n d_TM_lowestOfRing_21 rfl ?_
      refine E_iload_n d_TM_lowestOfRing_22 rfl ?_
      refine E_V2 (sp_TM_behind hR hN hp8 hf (by omega)) d_TM_lowestOfRing_23 ml_TM_356 cb_TM_behind cv_TM_behind (by exact ⟨by decide, rfl⟩) ⟨by decide, rfl⟩ ⟨by decide, by decide⟩ rfl (Nat.le_of_ble_eq_true rfl) (Nat.le_of_ble_eq_true rfl) (kI fun r1 M1 hc => ?_)
      obtain ⟨rfl, rfl⟩ := hc
      refine E_istore_2 d_TM_lowestOfRing_26 rfl ?_
      first | (with_reducible refine E_isL3 ?_; refine E_iincN3 (m := 1) d_TM_lowestOfRing_27 rfl rfl ?_) | refine E_iinc_3 d_TM_lowestOfRing_27 rfl rfl ?_
      refine E_goto 4 d_TM_lowestOfRing_30 rfl ?_
      first | (rw [if_pos h17]; exact ih (n + 1) _ (by omega) (by omega)) | (rw [if_neg (by omega)]; exact ih (n + 1) _ (by omega) hw)
theorem sp_TM_lowest {c : Cr} {M : Mem} (hR : MR M) (hN : HN c M) (hp8 : c.now.people ≤ 8) {f : Nat} (hf : f ≤ c.now.people) : E 1 0 0 Y_TM_lowestOfRing 0 [some (.ref 0), some (.int (nI f)), none, none] [] GM M (QI GM fun r M' => r = nI (lowN (cm c) f) ∧ M' = M) := by
  refine E_iload_n d_TM_lowestOfRing_0 rfl ?_
  refine E_istore_2 d_TM_lowestOfRing_1 rfl ?_
  refine E_iconst (v := nI 1) d_TM_lowestOfRing_2 rfl ?_
  refine E_istore_3 d_TM_lowestOfRing_3 rfl ?_
  exact lp_TM_lowest hR hN hp8 hf 9 1 f (by omega) (by omega)
