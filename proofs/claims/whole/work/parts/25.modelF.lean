theorem inN_le {x : Int32} {n : Nat} (hn : n < 2147483648) : (nI 0 ≤ x ∧ x ≤ nI n) ↔ inN x (n + 1) := isIn_0 hn
theorem sp_TM_in {G : Geo} {M : Mem} (v : Int32) (n : Nat) (hn : n < 2147483648) : E 0 0 0 Y_TM_isIn 0 [some (.int v), some (.int (nI 0)), some (.int (nI n))] [] G M (QI G fun r M' => r = pI (inN v (n + 1)) ∧ M' = M) :=
  E_mono (sp_TM_isIn v (nI 0) (nI n)) (fun _ _ _ h => ⟨h.1, h.2.choose, h.2.choose_spec.1, h.2.choose_spec.2.1.trans (pI_congr (isIn_0 hn)), h.2.choose_spec.2.2⟩)
theorem sp_TM_two {c : Cr} {M : Mem} (hM : HM c M) (x y z : Int32) : E 6 0 0 Y_TM_two 0 [some (.ref 0), some (.int x), some (.int y), some (.int z), none, none, none, none, none, none, none] [] GM M (QI GM fun r M' => r = ans_two c x y z ∧ Sx SQ M M') := by
  have hp8 := hM.w.p8
  by_cases hz : inN z 3
  · revert x y
    refine args2 (c.now.people + 1) (c.now.people + 1) (fun k j hk hx ht hj hy ht2 => ?_) (fun x y hx => ?_) (fun x y hx hy => ?_)
    · first | refine E_aload_n d_TM_two_0 rfl ?_ | refine E_aload_nN d_TM_two_0 rfl ?_
      refine E_iload_n d_TM_two_1 rfl ?_
      refine E_V1 (sp_TM_canBeTold hM.R hM.A hM.w _) d_TM_two_2 ml_TM_311 cb_TM_canBeTold cv_TM_canBeTold (by exact ⟨by decide, rfl⟩) ⟨by decide, rfl⟩ ⟨by decide, by decide⟩ rfl (Nat.le_of_ble_eq_true rfl) (Nat.le_of_ble_eq_true rfl) (kI fun r1 M1 hc => ?_)
      obtain ⟨rfl, rfl⟩ := hc
      first | (with_reducible refine E_isP ?_; refine E_if_eq 25 d_TM_two_5 rfl (pb_0 fun h5 => ?_) (pb_1 fun h5 => ?_)) | (with_reducible refine E_isN1 ?_; refine E_if_eq 25 d_TM_two_5 rfl (nz_eq (by omega) fun h5 => ?_) (nz_ne fun h5 => ?_)) | refine E_if_eq 25 d_TM_two_5 rfl (fun h5 => ?_) (fun h5 => ?_)
      · exfalso; exact h5 hx
      first | refine E_aload_n d_TM_two_8 rfl ?_ | refine E_aload_nN d_TM_two_8 rfl ?_
      refine E_iload_n d_TM_two_9 rfl ?_
      refine E_V1 (sp_TM_canBeTold hM.R hM.A hM.w _) d_TM_two_10 ml_TM_311 cb_TM_canBeTold cv_TM_canBeTold (by exact ⟨by decide, rfl⟩) ⟨by decide, rfl⟩ ⟨by decide, by decide⟩ rfl (Nat.le_of_ble_eq_true rfl) (Nat.le_of_ble_eq_true rfl) (kI fun r1 M1 hc => ?_)
      obtain ⟨rfl, rfl⟩ := hc
      first | (with_reducible refine E_isP ?_; refine E_if_eq 25 d_TM_two_13 rfl (pb_0 fun h13 => ?_) (pb_1 fun h13 => ?_)) | (with_reducible refine E_isN1 ?_; refine E_if_eq 25 d_TM_two_13 rfl (nz_eq (by omega) fun h13 => ?_) (nz_ne fun h13 => ?_)) | refine E_if_eq 25 d_TM_two_13 rfl (fun h13 => ?_) (fun h13 => ?_)
      · exfalso; exact h13 hy
      refine E_iload_n d_TM_two_16 rfl ?_
      refine E_iconst (v := nI 0) d_TM_two_17 rfl ?_
      refine E_iconst (v := nI 2) d_TM_two_18 rfl ?_
      refine E_S3 (sp_TM_in _ 2 (by decide)) d_TM_two_19 ml_TM_69 cb_TM_isIn cs_TM_isIn ⟨by decide, by decide⟩ rfl (Nat.le_of_ble_eq_true rfl) (Nat.le_of_ble_eq_true rfl) (kI fun r1 M1 hc => ?_)
      obtain ⟨rfl, rfl⟩ := hc
      first | (with_reducible refine E_isP ?_; refine E_if_ne 27 d_TM_two_22 rfl (pb_1 fun h22 => ?_) (pb_0 fun h22 => ?_)) | (with_reducible refine E_isN1 ?_; refine E_if_ne 27 d_TM_two_22 rfl (nz_ne fun h22 => ?_) (nz_eq (by omega) fun h22 => ?_)) | refine E_if_ne 27 d_TM_two_22 rfl (fun h22 => ?_) (fun h22 => ?_)
      rotate_left
      · exfalso; exact h22 hz
      first | refine E_aload_n d_TM_two_27 rfl ?_ | refine E_aload_nN d_TM_two_27 rfl ?_
      refine E_iload_n d_TM_two_28 rfl ?_
      refine E_V1 (sp_TM_yesTo hM (by omega)) d_TM_two_29 ml_TM_347 cb_TM_yesTo cv_TM_yesTo (by exact ⟨by decide, rfl⟩) ⟨by decide, rfl⟩ ⟨by decide, by decide⟩ rfl (Nat.le_of_ble_eq_true rfl) (Nat.le_of_ble_eq_true rfl) (kI fun r1 M1 hc => ?_)
      obtain ⟨rfl, hS1⟩ := hc
      have hS1 := hS1.wk fun _ => SY.q
      have hM1 := hM.sx hS1
      refine E_istore_4 d_TM_two_32 rfl ?_
      first | refine E_aload_n d_TM_two_34 rfl ?_ | refine E_aload_nN d_TM_two_34 rfl ?_
      refine E_iload_n d_TM_two_35 rfl ?_
      refine E_V1 (sp_TM_yesTo hM1 (by omega)) d_TM_two_36 ml_TM_347 cb_TM_yesTo cv_TM_yesTo (by exact ⟨by decide, rfl⟩) ⟨by decide, rfl⟩ ⟨by decide, by decide⟩ rfl (Nat.le_of_ble_eq_true rfl) (Nat.le_of_ble_eq_true rfl) (kI fun r1 M1 hc => ?_)
      obtain ⟨rfl, hS2⟩ := hc
      have hS1 := hS1.tr (hS2.wk fun _ => SY.q)
      have hM1 := hM.sx hS1
      refine E_istore_5 d_TM_two_39 rfl ?_
      refine E_ldcw d_TM_two_41 kc_TM_377 ?_
      refine E_istore_6 d_TM_two_44 rfl ?_
      refine E_iconst (v := nI 0) d_TM_two_46 rfl ?_
      refine E_istore_7 d_TM_two_47 rfl ?_
      refine E_iconst (v := nI 0) d_TM_two_49 rfl ?_
      refine E_istore_8 d_TM_two_50 rfl ?_
      refine E_iconst (v := nI 0) d_TM_two_52 rfl ?_
      refine E_istore_9 d_TM_two_53 rfl ?_
      exact lp_TM_two hM1 hS1 (by omega) (by omega) hz (2 ^ c.now.people) 0 (by omega) _
    · first | refine E_aload_n d_TM_two_0 rfl ?_ | refine E_aload_nN d_TM_two_0 rfl ?_
      refine E_iload_n d_TM_two_1 rfl ?_
      refine E_V1 (sp_TM_canBeTold hM.R hM.A hM.w _) d_TM_two_2 ml_TM_311 cb_TM_canBeTold cv_TM_canBeTold (by exact ⟨by decide, rfl⟩) ⟨by decide, rfl⟩ ⟨by decide, by decide⟩ rfl (Nat.le_of_ble_eq_true rfl) (Nat.le_of_ble_eq_true rfl) (kI fun r1 M1 hc => ?_)
      obtain ⟨rfl, rfl⟩ := hc
      first | (with_reducible refine E_isP ?_; refine E_if_eq 25 d_TM_two_5 rfl (pb_0 fun h5 => ?_) (pb_1 fun h5 => ?_)) | (with_reducible refine E_isN1 ?_; refine E_if_eq 25 d_TM_two_5 rfl (nz_eq (by omega) fun h5 => ?_) (nz_ne fun h5 => ?_)) | refine E_if_eq 25 d_TM_two_5 rfl (fun h5 => ?_) (fun h5 => ?_)
      rotate_left
      · exfalso; exact hx h5
      refine E_iconst (v := (-1)) d_TM_two_25 rfl ?_
      refine E_retI d_TM_two_26 rfl ?_
      exact ⟨by rw [ans_two, if_neg (fun q => hx q.1)], Sx.rf⟩
    · first | refine E_aload_n d_TM_two_0 rfl ?_ | refine E_aload_nN d_TM_two_0 rfl ?_
      refine E_iload_n d_TM_two_1 rfl ?_
      refine E_V1 (sp_TM_canBeTold hM.R hM.A hM.w _) d_TM_two_2 ml_TM_311 cb_TM_canBeTold cv_TM_canBeTold (by exact ⟨by decide, rfl⟩) ⟨by decide, rfl⟩ ⟨by decide, by decide⟩ rfl (Nat.le_of_ble_eq_true rfl) (Nat.le_of_ble_eq_true rfl) (kI fun r1 M1 hc => ?_)
      obtain ⟨rfl, rfl⟩ := hc
      first | (with_reducible refine E_isP ?_; refine E_if_eq 25 d_TM_two_5 rfl (pb_0 fun h5 => ?_) (pb_1 fun h5 => ?_)) | (with_reducible refine E_isN1 ?_; refine E_if_eq 25 d_TM_two_5 rfl (nz_eq (by omega) fun h5 => ?_) (nz_ne fun h5 => ?_)) | refine E_if_eq 25 d_TM_two_5 rfl (fun h5 => ?_) (fun h5 => ?_)
      · exfalso; exact h5 hx
      first | refine E_aload_n d_TM_two_8 rfl ?_ | refine E_aload_nN d_TM_two_8 rfl ?_
      refine E_iload_n d_TM_two_9 rfl ?_
      refine E_V1 (sp_TM_canBeTold hM.R hM.A hM.w _) d_TM_two_10 ml_TM_311 cb_TM_canBeTold cv_TM_canBeTold (by exact ⟨by decide, rfl⟩) ⟨by decide, rfl⟩ ⟨by decide, by decide⟩ rfl (Nat.le_of_ble_eq_true rfl) (Nat.le_of_ble_eq_true rfl) (kI fun r1 M1 hc => ?_)
      obtain ⟨rfl, rfl⟩ := hc
      first | (with_reducible refine E_isP ?_; refine E_if_eq 25 d_TM_two_13 rfl (pb_0 fun h13 => ?_) (pb_1 fun h13 => ?_)) | (with_reducible refine E_isN1 ?_; refine E_if_eq 25 d_TM_two_13 rfl (nz_eq (by omega) fun h13 => ?_) (nz_ne fun h13 => ?_)) | refine E_if_eq 25 d_TM_two_13 rfl (fun h13 => ?_) (fun h13 => ?_)
      rotate_left
      · exfalso; exact hy h13
      refine E_iconst (v := (-1)) d_TM_two_25 rfl ?_
      refine E_retI d_TM_two_26 rfl ?_
      exact ⟨by rw [ans_two, if_neg (fun q => hy q.2.1)], Sx.rf⟩
  · first | refine E_aload_n d_TM_two_0 rfl ?_ | refine E_aload_nN d_TM_two_0 rfl ?_
    refine E_iload_n d_TM_two_1 rfl ?_
    refine E_V1 (sp_TM_canBeTold hM.R hM.A hM.w _) d_TM_two_2 ml_TM_311 cb_TM_canBeTold cv_TM_canBeTold (by exact ⟨by decide, rfl⟩) ⟨by decide, rfl⟩ ⟨by decide, by decide⟩ rfl (Nat.le_of_ble_eq_true rfl) (Nat.le_of_ble_eq_true rfl) (kI fun r1 M1 hc => ?_)
    obtain ⟨rfl, rfl⟩ := hc
    first | (with_reducible refine E_isP ?_; refine E_if_eq 25 d_TM_two_5 rfl (pb_0 fun h5 => ?_) (pb_1 fun h5 => ?_)) | (with_reducible refine E_isN1 ?_; refine E_if_eq 25 d_TM_two_5 rfl (nz_eq (by omega) fun h5 => ?_) (nz_ne fun h5 => ?_)) | refine E_if_eq 25 d_TM_two_5 rfl (fun h5 => ?_) (fun h5 => ?_)
    · refine E_iconst (v := (-1)) d_TM_two_25 rfl ?_
      refine E_retI d_TM_two_26 rfl ?_
      exact ⟨by rw [ans_two, if_neg (fun q => hz q.2.2)], Sx.rf⟩
    · first | refine E_aload_n d_TM_two_8 rfl ?_ | refine E_aload_nN d_TM_two_8 rfl ?_
      refine E_iload_n d_TM_two_9 rfl ?_
      refine E_V1 (sp_TM_canBeTold hM.R hM.A hM.w _) d_TM_two_10 ml_TM_311 cb_TM_canBeTold cv_TM_canBeTold (by exact ⟨by decide, rfl⟩) ⟨by decide, rfl⟩ ⟨by decide, by decide⟩ rfl (Nat.le_of_ble_eq_true rfl) (Nat.le_of_ble_eq_true rfl) (kI fun r1 M1 hc => ?_)
      obtain ⟨rfl, rfl⟩ := hc
      first | (with_reducible refine E_isP ?_; refine E_if_eq 25 d_TM_two_13 rfl (pb_0 fun h13 => ?_) (pb_1 fun h13 => ?_)) | (with_reducible refine E_isN1 ?_; refine E_if_eq 25 d_TM_two_13 rfl (nz_eq (by omega) fun h13 => ?_) (nz_ne fun h13 => ?_)) | refine E_if_eq 25 d_TM_two_13 rfl (fun h13 => ?_) (fun h13 => ?_)
      · refine E_iconst (v := (-1)) d_TM_two_25 rfl ?_
        refine E_retI d_TM_two_26 rfl ?_
        exact ⟨by rw [ans_two, if_neg (fun q => hz q.2.2)], Sx.rf⟩
      · refine E_iload_n d_TM_two_16 rfl ?_
        refine E_iconst (v := nI 0) d_TM_two_17 rfl ?_
        refine E_iconst (v := nI 2) d_TM_two_18 rfl ?_
        refine E_S3 (sp_TM_in _ 2 (by decide)) d_TM_two_19 ml_TM_69 cb_TM_isIn cs_TM_isIn ⟨by decide, by decide⟩ rfl (Nat.le_of_ble_eq_true rfl) (Nat.le_of_ble_eq_true rfl) (kI fun r1 M1 hc => ?_)
        obtain ⟨rfl, rfl⟩ := hc
        first | (with_reducible refine E_isP ?_; refine E_if_ne 27 d_TM_two_22 rfl (pb_1 fun h22 => ?_) (pb_0 fun h22 => ?_)) | (with_reducible refine E_isN1 ?_; refine E_if_ne 27 d_TM_two_22 rfl (nz_ne fun h22 => ?_) (nz_eq (by omega) fun h22 => ?_)) | refine E_if_ne 27 d_TM_two_22 rfl (fun h22 => ?_) (fun h22 => ?_)
        · exfalso; exact hz h22
        refine E_iconst (v := (-1)) d_TM_two_25 rfl ?_
        refine E_retI d_TM_two_26 rfl ?_
        exact ⟨by rw [ans_two, if_neg (fun q => hz q.2.2)], Sx.rf⟩
theorem lp_TM_split {c : Cr} {M M0 : Mem} {f g : Nat} (hM : HM c M) (hS : Sx SQ M0 M) (hf : f ≤ c.now.people) (hg : g ≤ c.now.people) :
    ∀ (j k : Nat), k + j = 2 ^ c.now.people → findA (truB f g (yesN c f) (yesN c g)) j k = ans_split c (nI f) (nI g) → E 6 0 0 Y_TM_split 34 [some (.ref 0), some (.int (nI f)), some (.int (nI g)), some (.int (nI (yesN c f))), some (.int (nI (yesN c g))), some (.int (nI k))] [] GM M (QI GM fun r M' => r = ans_split c (nI f) (nI g) ∧ Sx SQ M0 M') := by
  have hR := hM.R
  have hA := hM.A
  have hp8 := hM.w.p8
  have h256 := pow256 hp8
  have y1 := yes512 hp8 f
  have y2 := yes512 hp8 g
  have hpos : 1 ≤ 2 ^ c.now.people := Nat.one_le_two_pow
  intro j
  induction j with
  | zero =>
    intro k hk hv
    refine E_iload d_TM_split_34 rfl ?_
    first | refine E_aload_n d_TM_split_36 rfl ?_ | refine E_aload_nN d_TM_split_36 rfl ?_
    refine E_V0 (sp_TM_everyone hM.R hM.A hM.w) d_TM_split_37 ml_TM_374 cb_TM_everyone cv_TM_everyone (by exact ⟨by decide, rfl⟩) ⟨by decide, rfl⟩ ⟨by decide, by decide⟩ rfl (Nat.le_of_ble_eq_true rfl) (Nat.le_of_ble_eq_true rfl) (kI fun r1 M1 hc => ?_)
    obtain ⟨rfl, rfl⟩ := hc
    first | (with_reducible refine E_isN2 ?_; refine E_icmp_gt 65 d_TM_split_40 rfl (nb_lt (by omega) (by omega) fun h40 => ?_) (nb_nlt (by omega) (by omega) fun h40 => ?_)) | refine E_icmp_gt 65 d_TM_split_40 rfl (fun h40 => ?_) (fun h40 => ?_)
    rotate_left
    · exfalso; omega
    refine E_iconst (v := (-1)) d_TM_split_65 rfl ?_
    refine E_retI d_TM_split_66 rfl ?_
    exact ⟨hv, hS⟩
  | succ j ih =>
    intro k hk hv
    rw [findA] at hv
    refine E_iload d_TM_split_34 rfl ?_
    first | refine E_aload_n d_TM_split_36 rfl ?_ | refine E_aload_nN d_TM_split_36 rfl ?_
    refine E_V0 (sp_TM_everyone hM.R hM.A hM.w) d_TM_split_37 ml_TM_374 cb_TM_everyone cv_TM_everyone (by exact ⟨by decide, rfl⟩) ⟨by decide, rfl⟩ ⟨by decide, by decide⟩ rfl (Nat.le_of_ble_eq_true rfl) (Nat.le_of_ble_eq_true rfl) (kI fun r1 M1 hc => ?_)
    obtain ⟨rfl, rfl⟩ := hc
    first | (with_reducible refine E_isN2 ?_; refine E_icmp_gt 65 d_TM_split_40 rfl (nb_lt (by omega) (by omega) fun h40 => ?_) (nb_nlt (by omega) (by omega) fun h40 => ?_)) | refine E_icmp_gt 65 d_TM_split_40 rfl (fun h40 => ?_) (fun h40 => ?_)
    · exfalso; omega
    refine E_iload d_TM_split_43 rfl ?_
    refine E_iload_n d_TM_split_45 rfl ?_
    refine E_iload d_TM_split_46 rfl ?_
    refine E_iload_n d_TM_split_48 rfl ?_
    refine E_iload_n d_TM_split_49 rfl ?_
    refine E_S5 (sp_TM_areTrue (by omega) (by omega) (by omega) (by omega)) d_TM_split_50 ml_TM_378 cb_TM_areTrue cs_TM_areTrue ⟨by decide, by decide⟩ rfl (Nat.le_of_ble_eq_true rfl) (Nat.le_of_ble_eq_true rfl) (kI fun r1 M1 hc => ?_)
    obtain ⟨rfl, rfl⟩ := hc
    first | (with_reducible refine E_isP ?_; refine E_if_eq 59 d_TM_split_53 rfl (pb_0 fun h53 => ?_) (pb_1 fun h53 => ?_)) | (with_reducible refine E_isN1 ?_; refine E_if_eq 59 d_TM_split_53 rfl (nz_eq (by omega) fun h53 => ?_) (nz_ne fun h53 => ?_)) | refine E_if_eq 59 d_TM_split_53 rfl (fun h53 => ?_) (fun h53 => ?_)
    · first | (with_reducible refine E_isL5 ?_; refine E_iincN5 (m := 1) d_TM_split_59 rfl rfl ?_) | refine E_iinc_5 d_TM_split_59 rfl rfl ?_
      refine E_goto 34 d_TM_split_62 rfl ?_
      rw [if_neg h53] at hv; exact ih (k + 1) (by omega) hv
    · refine E_iload d_TM_split_56 rfl ?_
      refine E_retI d_TM_split_58 rfl ?_
      rw [if_pos h53] at hv; exact ⟨hv, hS⟩
theorem sp_TM_split {c : Cr} {M : Mem} (hM : HM c M) (x y : Int32) : E 6 0 0 Y_TM_split 0 [some (.ref 0), some (.int x), some (.int y), none, none, none] [] GM M (QI GM fun r M' => r = ans_split c x y ∧ Sx SQ M M') := by
  have hp8 := hM.w.p8
  revert x y
  refine args2 (c.now.people + 1) (c.now.people + 1) (fun k j hk hx ht hj hy ht2 => ?_) (fun x y hx => ?_) (fun x y hx hy => ?_)
  · first | refine E_aload_n d_TM_split_0 rfl ?_ | refine E_aload_nN d_TM_split_0 rfl ?_
    refine E_iload_n d_TM_split_1 rfl ?_
    refine E_V1 (sp_TM_canBeTold hM.R hM.A hM.w _) d_TM_split_2 ml_TM_311 cb_TM_canBeTold cv_TM_canBeTold (by exact ⟨by decide, rfl⟩) ⟨by decide, rfl⟩ ⟨by decide, by decide⟩ rfl (Nat.le_of_ble_eq_true rfl) (Nat.le_of_ble_eq_true rfl) (kI fun r1 M1 hc => ?_)
    obtain ⟨rfl, rfl⟩ := hc
    first | (with_reducible refine E_isP ?_; refine E_if_eq 16 d_TM_split_5 rfl (pb_0 fun h5 => ?_) (pb_1 fun h5 => ?_)) | (with_reducible refine E_isN1 ?_; refine E_if_eq 16 d_TM_split_5 rfl (nz_eq (by omega) fun h5 => ?_) (nz_ne fun h5 => ?_)) | refine E_if_eq 16 d_TM_split_5 rfl (fun h5 => ?_) (fun h5 => ?_)
    · exfalso; exact h5 hx
    first | refine E_aload_n d_TM_split_8 rfl ?_ | refine E_aload_nN d_TM_split_8 rfl ?_
    refine E_iload_n d_TM_split_9 rfl ?_
    refine E_V1 (sp_TM_canBeTold hM.R hM.A hM.w _) d_TM_split_10 ml_TM_311 cb_TM_canBeTold cv_TM_canBeTold (by exact ⟨by decide, rfl⟩) ⟨by decide, rfl⟩ ⟨by decide, by decide⟩ rfl (Nat.le_of_ble_eq_true rfl) (Nat.le_of_ble_eq_true rfl) (kI fun r1 M1 hc => ?_)
    obtain ⟨rfl, rfl⟩ := hc
    first | (with_reducible refine E_isP ?_; refine E_if_ne 18 d_TM_split_13 rfl (pb_1 fun h13 => ?_) (pb_0 fun h13 => ?_)) | (with_reducible refine E_isN1 ?_; refine E_if_ne 18 d_TM_split_13 rfl (nz_ne fun h13 => ?_) (nz_eq (by omega) fun h13 => ?_)) | refine E_if_ne 18 d_TM_split_13 rfl (fun h13 => ?_) (fun h13 => ?_)
    rotate_left
    · exfalso; exact h13 hy
    first | refine E_aload_n d_TM_split_18 rfl ?_ | refine E_aload_nN d_TM_split_18 rfl ?_
    refine E_iload_n d_TM_split_19 rfl ?_
    refine E_V1 (sp_TM_yesTo hM (by omega)) d_TM_split_20 ml_TM_347 cb_TM_yesTo cv_TM_yesTo (by exact ⟨by decide, rfl⟩) ⟨by decide, rfl⟩ ⟨by decide, by decide⟩ rfl (Nat.le_of_ble_eq_true rfl) (Nat.le_of_ble_eq_true rfl) (kI fun r1 M1 hc => ?_)
    obtain ⟨rfl, hS1⟩ := hc
    have hS1 := hS1.wk fun _ => SY.q
    have hM1 := hM.sx hS1
    refine E_istore_3 d_TM_split_23 rfl ?_
    first | refine E_aload_n d_TM_split_24 rfl ?_ | refine E_aload_nN d_TM_split_24 rfl ?_
    refine E_iload_n d_TM_split_25 rfl ?_
    refine E_V1 (sp_TM_yesTo hM1 (by omega)) d_TM_split_26 ml_TM_347 cb_TM_yesTo cv_TM_yesTo (by exact ⟨by decide, rfl⟩) ⟨by decide, rfl⟩ ⟨by decide, by decide⟩ rfl (Nat.le_of_ble_eq_true rfl) (Nat.le_of_ble_eq_true rfl) (kI fun r1 M1 hc => ?_)
    obtain ⟨rfl, hS2⟩ := hc
    have hS1 := hS1.tr (hS2.wk fun _ => SY.q)
    have hM1 := hM.sx hS1
    refine E_istore_4 d_TM_split_29 rfl ?_
    refine E_iconst (v := nI 0) d_TM_split_31 rfl ?_
    refine E_istore_5 d_TM_split_32 rfl ?_
    exact lp_TM_split hM1 hS1 (by omega) (by omega) (2 ^ c.now.people) 0 (by omega) (by rw [ans_split, if_pos ⟨hx, hy⟩, ht, ht2])
  · first | refine E_aload_n d_TM_split_0 rfl ?_ | refine E_aload_nN d_TM_split_0 rfl ?_
    refine E_iload_n d_TM_split_1 rfl ?_
    refine E_V1 (sp_TM_canBeTold hM.R hM.A hM.w _) d_TM_split_2 ml_TM_311 cb_TM_canBeTold cv_TM_canBeTold (by exact ⟨by decide, rfl⟩) ⟨by decide, rfl⟩ ⟨by decide, by decide⟩ rfl (Nat.le_of_ble_eq_true rfl) (Nat.le_of_ble_eq_true rfl) (kI fun r1 M1 hc => ?_)
    obtain ⟨rfl, rfl⟩ := hc
    first | (with_reducible refine E_isP ?_; refine E_if_eq 16 d_TM_split_5 rfl (pb_0 fun h5 => ?_) (pb_1 fun h5 => ?_)) | (with_reducible refine E_isN1 ?_; refine E_if_eq 16 d_TM_split_5 rfl (nz_eq (by omega) fun h5 => ?_) (nz_ne fun h5 => ?_)) | refine E_if_eq 16 d_TM_split_5 rfl (fun h5 => ?_) (fun h5 => ?_)
    rotate_left
    · exfalso; exact hx h5
    refine E_iconst (v := (-1)) d_TM_split_16 rfl ?_
    refine E_retI d_TM_split_17 rfl ?_
    exact ⟨by rw [ans_split, if_neg (fun q => hx q.1)], Sx.rf⟩
  · first | refine E_aload_n d_TM_split_0 rfl ?_ | refine E_aload_nN d_TM_split_0 rfl ?_
    refine E_iload_n d_TM_split_1 rfl ?_
    refine E_V1 (sp_TM_canBeTold hM.R hM.A hM.w _) d_TM_split_2 ml_TM_311 cb_TM_canBeTold cv_TM_canBeTold (by exact ⟨by decide, rfl⟩) ⟨by decide, rfl⟩ ⟨by decide, by decide⟩ rfl (Nat.le_of_ble_eq_true rfl) (Nat.le_of_ble_eq_true rfl) (kI fun r1 M1 hc => ?_)
    obtain ⟨rfl, rfl⟩ := hc
    first | (with_reducible refine E_isP ?_; refine E_if_eq 16 d_TM_split_5 rfl (pb_0 fun h5 => ?_) (pb_1 fun h5 => ?_)) | (with_reducible refine E_isN1 ?_; refine E_if_eq 16 d_TM_split_5 rfl (nz_eq (by omega) fun h5 => ?_) (nz_ne fun h5 => ?_)) | refine E_if_eq 16 d_TM_split_5 rfl (fun h5 => ?_) (fun h5 => ?_)
    · exfalso; exact h5 hx
    first | refine E_aload_n d_TM_split_8 rfl ?_ | refine E_aload_nN d_TM_split_8 rfl ?_
    refine E_iload_n d_TM_split_9 rfl ?_
    refine E_V1 (sp_TM_canBeTold hM.R hM.A hM.w _) d_TM_split_10 ml_TM_311 cb_TM_canBeTold cv_TM_canBeTold (by exact ⟨by decide, rfl⟩) ⟨by decide, rfl⟩ ⟨by decide, by decide⟩ rfl (Nat.le_of_ble_eq_true rfl) (Nat.le_of_ble_eq_true rfl) (kI fun r1 M1 hc => ?_)
    obtain ⟨rfl, rfl⟩ := hc
    first | (with_reducible refine E_isP ?_; refine E_if_ne 18 d_TM_split_13 rfl (pb_1 fun h13 => ?_) (pb_0 fun h13 => ?_)) | (with_reducible refine E_isN1 ?_; refine E_if_ne 18 d_TM_split_13 rfl (nz_ne fun h13 => ?_) (nz_eq (by omega) fun h13 => ?_)) | refine E_if_ne 18 d_TM_split_13 rfl (fun h13 => ?_) (fun h13 => ?_)
    · exfalso; exact hy h13
    refine E_iconst (v := (-1)) d_TM_split_16 rfl ?_
    refine E_retI d_TM_split_17 rfl ?_
    exact ⟨by rw [ans_split, if_neg (fun q => hy q.2)], Sx.rf⟩
theorem sp_TM_mind {c : Cr} {M : Mem} (hM : HM c M) (x y : Int32) : E 6 0 0 Y_TM_mind 0 [some (.ref 0), some (.int x), some (.int y)] [] GM M (QI GM fun r M' => r = ans_mind c x y ∧ Sx SQ M M') := by
  have hp8 := hM.w.p8
  revert x y
  refine args2 (c.now.people + 1) (c.now.people + 1) (fun k j hk hx ht hj hy ht2 => ?_) (fun x y hx => ?_) (fun x y hx hy => ?_)
  · first | refine E_aload_n d_TM_mind_0 rfl ?_ | refine E_aload_nN d_TM_mind_0 rfl ?_
    refine E_iload_n d_TM_mind_1 rfl ?_
    refine E_V1 (sp_TM_canBeTold hM.R hM.A hM.w _) d_TM_mind_2 ml_TM_311 cb_TM_canBeTold cv_TM_canBeTold (by exact ⟨by decide, rfl⟩) ⟨by decide, rfl⟩ ⟨by decide, by decide⟩ rfl (Nat.le_of_ble_eq_true rfl) (Nat.le_of_ble_eq_true rfl) (kI fun r1 M1 hc => ?_)
    obtain ⟨rfl, rfl⟩ := hc
    first | (with_reducible refine E_isP ?_; refine E_if_eq 30 d_TM_mind_5 rfl (pb_0 fun h5 => ?_) (pb_1 fun h5 => ?_)) | (with_reducible refine E_isN1 ?_; refine E_if_eq 30 d_TM_mind_5 rfl (nz_eq (by omega) fun h5 => ?_) (nz_ne fun h5 => ?_)) | refine E_if_eq 30 d_TM_mind_5 rfl (fun h5 => ?_) (fun h5 => ?_)
    · exfalso; exact h5 hx
    first | refine E_aload_n d_TM_mind_8 rfl ?_ | refine E_aload_nN d_TM_mind_8 rfl ?_
    refine E_iload_n d_TM_mind_9 rfl ?_
    refine E_V1 (sp_TM_canBeTold hM.R hM.A hM.w _) d_TM_mind_10 ml_TM_311 cb_TM_canBeTold cv_TM_canBeTold (by exact ⟨by decide, rfl⟩) ⟨by decide, rfl⟩ ⟨by decide, by decide⟩ rfl (Nat.le_of_ble_eq_true rfl) (Nat.le_of_ble_eq_true rfl) (kI fun r1 M1 hc => ?_)
    obtain ⟨rfl, rfl⟩ := hc
    first | (with_reducible refine E_isP ?_; refine E_if_eq 30 d_TM_mind_13 rfl (pb_0 fun h13 => ?_) (pb_1 fun h13 => ?_)) | (with_reducible refine E_isN1 ?_; refine E_if_eq 30 d_TM_mind_13 rfl (nz_eq (by omega) fun h13 => ?_) (nz_ne fun h13 => ?_)) | refine E_if_eq 30 d_TM_mind_13 rfl (fun h13 => ?_) (fun h13 => ?_)
    · exfalso; exact h13 hy
    first | refine E_aload_n d_TM_mind_16 rfl ?_ | refine E_aload_nN d_TM_mind_16 rfl ?_
    refine E_iload_n d_TM_mind_17 rfl ?_
    refine E_V1 (sp_TM_yesTo hM (by omega)) d_TM_mind_18 ml_TM_347 cb_TM_yesTo cv_TM_yesTo (by exact ⟨by decide, rfl⟩) ⟨by decide, rfl⟩ ⟨by decide, by decide⟩ rfl (Nat.le_of_ble_eq_true rfl) (Nat.le_of_ble_eq_true rfl) (kI fun r1 M1 hc => ?_)
    obtain ⟨rfl, hS1⟩ := hc
    have hS1 := hS1.wk fun _ => SY.q
    have hM1 := hM.sx hS1
    first | refine E_aload_n d_TM_mind_21 rfl ?_ | refine E_aload_nN d_TM_mind_21 rfl ?_
    refine E_iload_n d_TM_mind_22 rfl ?_
    refine E_V1 (sp_TM_yesTo hM1 (by omega)) d_TM_mind_23 ml_TM_347 cb_TM_yesTo cv_TM_yesTo (by exact ⟨by decide, rfl⟩) ⟨by decide, rfl⟩ ⟨by decide, by decide⟩ rfl (Nat.le_of_ble_eq_true rfl) (Nat.le_of_ble_eq_true rfl) (kI fun r1 M1 hc => ?_)
    obtain ⟨rfl, hS2⟩ := hc
    have hS1 := hS1.tr (hS2.wk fun _ => SY.q)
    first | (with_reducible refine E_isN2 ?_; refine E_ixorN d_TM_mind_26 ?_) | refine E_ixor d_TM_mind_26 ?_
    refine E_goto 31 d_TM_mind_27 rfl ?_
    refine E_retI d_TM_mind_31 rfl ?_
    exact ⟨by rw [ans_mind, if_pos ⟨hx, hy⟩, ht, ht2]; rfl, hS1⟩
  · first | refine E_aload_n d_TM_mind_0 rfl ?_ | refine E_aload_nN d_TM_mind_0 rfl ?_
    refine E_iload_n d_TM_mind_1 rfl ?_
    refine E_V1 (sp_TM_canBeTold hM.R hM.A hM.w _) d_TM_mind_2 ml_TM_311 cb_TM_canBeTold cv_TM_canBeTold (by exact ⟨by decide, rfl⟩) ⟨by decide, rfl⟩ ⟨by decide, by decide⟩ rfl (Nat.le_of_ble_eq_true rfl) (Nat.le_of_ble_eq_true rfl) (kI fun r1 M1 hc => ?_)
    obtain ⟨rfl, rfl⟩ := hc
    first | (with_reducible refine E_isP ?_; refine E_if_eq 30 d_TM_mind_5 rfl (pb_0 fun h5 => ?_) (pb_1 fun h5 => ?_)) | (with_reducible refine E_isN1 ?_; refine E_if_eq 30 d_TM_mind_5 rfl (nz_eq (by omega) fun h5 => ?_) (nz_ne fun h5 => ?_)) | refine E_if_eq 30 d_TM_mind_5 rfl (fun h5 => ?_) (fun h5 => ?_)
    rotate_left
    · exfalso; exact hx h5
    refine E_iconst (v := (-1)) d_TM_mind_30 rfl ?_
    refine E_retI d_TM_mind_31 rfl ?_
    exact ⟨by rw [ans_mind, if_neg (fun q => hx q.1)], Sx.rf⟩
  · first | refine E_aload_n d_TM_mind_0 rfl ?_ | refine E_aload_nN d_TM_mind_0 rfl ?_
    refine E_iload_n d_TM_mind_1 rfl ?_
    refine E_V1 (sp_TM_canBeTold hM.R hM.A hM.w _) d_TM_mind_2 ml_TM_311 cb_TM_canBeTold cv_TM_canBeTold (by exact ⟨by decide, rfl⟩) ⟨by decide, rfl⟩ ⟨by decide, by decide⟩ rfl (Nat.le_of_ble_eq_true rfl) (Nat.le_of_ble_eq_true rfl) (kI fun r1 M1 hc => ?_)
    obtain ⟨rfl, rfl⟩ := hc
    first | (with_reducible refine E_isP ?_; refine E_if_eq 30 d_TM_mind_5 rfl (pb_0 fun h5 => ?_) (pb_1 fun h5 => ?_)) | (with_reducible refine E_isN1 ?_; refine E_if_eq 30 d_TM_mind_5 rfl (nz_eq (by omega) fun h5 => ?_) (nz_ne fun h5 => ?_)) | refine E_if_eq 30 d_TM_mind_5 rfl (fun h5 => ?_) (fun h5 => ?_)
    · exfalso; exact h5 hx
    first | refine E_aload_n d_TM_mind_8 rfl ?_ | refine E_aload_nN d_TM_mind_8 rfl ?_
    refine E_iload_n d_TM_mind_9 rfl ?_
    refine E_V1 (sp_TM_canBeTold hM.R hM.A hM.w _) d_TM_mind_10 ml_TM_311 cb_TM_canBeTold cv_TM_canBeTold (by exact ⟨by decide, rfl⟩) ⟨by decide, rfl⟩ ⟨by decide, by decide⟩ rfl (Nat.le_of_ble_eq_true rfl) (Nat.le_of_ble_eq_true rfl) (kI fun r1 M1 hc => ?_)
    obtain ⟨rfl, rfl⟩ := hc
    first | (with_reducible refine E_isP ?_; refine E_if_eq 30 d_TM_mind_13 rfl (pb_0 fun h13 => ?_) (pb_1 fun h13 => ?_)) | (with_reducible refine E_isN1 ?_; refine E_if_eq 30 d_TM_mind_13 rfl (nz_eq (by omega) fun h13 => ?_) (nz_ne fun h13 => ?_)) | refine E_if_eq 30 d_TM_mind_13 rfl (fun h13 => ?_) (fun h13 => ?_)
    rotate_left
    · exfalso; exact hy h13
    refine E_iconst (v := (-1)) d_TM_mind_30 rfl ?_
    refine E_retI d_TM_mind_31 rfl ?_
    exact ⟨by rw [ans_mind, if_neg (fun q => hy q.2)], Sx.rf⟩
theorem lp_TM_all {c : Cr} {M0 : Mem} : ∀ (j f : Nat), f + j = c.now.people + 1 → ∀ M, HM c M → Sx SQ M0 M → E 6 0 0 Y_TM_yesToAll 7 [some (.ref 0), some (.int (nI (allA c f))), some (.int (nI f))] [] GM M (QI GM fun r M' => r = nI (allA c (c.now.people + 1)) ∧ Sx SQ M0 M') := by
  intro j
  induction j with
  | zero =>
    intro f hf M hM hS
    have hR := hM.R
    have hA := hM.A
    have hp8 := hM.w.p8
    refine E_iload_n d_TM_yesToAll_7 rfl ?_
    first | refine E_aload_n d_TM_yesToAll_8 rfl ?_ | refine E_aload_nN d_TM_yesToAll_8 rfl ?_
    refine E_getR (q := 1) d_TM_yesToAll_9 gf_TM_7 (by exact ⟨by decide, rfl⟩) (by exact hR _ rfl) ?_
    refine E_iconst (v := nI 0) d_TM_yesToAll_12 rfl ?_
    refine E_iald d_TM_yesToAll_13 (by exact ⟨by decide, rfl⟩) (by exact ⟨by with_reducible rfl, by omega, by decide⟩) (by first | exact hA.people | exact hA.figure | exact hA.lean (by omega) | exact hN _ (by omega) | rfl) ?_
    first | (with_reducible refine E_isN2 ?_; refine E_icmp_gt 31 d_TM_yesToAll_14 rfl (nb_lt (by omega) (by omega) fun h14 => ?_) (nb_nlt (by omega) (by omega) fun h14 => ?_)) | refine E_icmp_gt 31 d_TM_yesToAll_14 rfl (fun h14 => ?_) (fun h14 => ?_)
    rotate_left
    · exfalso; omega
    refine E_iload_n d_TM_yesToAll_31 rfl ?_
    refine E_retI d_TM_yesToAll_32 rfl ?_
    exact ⟨by rw [← hf, Nat.add_zero], hS⟩
  | succ j ih =>
    intro f hf M hM hS
    have hR := hM.R
    have hA := hM.A
    have hp8 := hM.w.p8
    refine E_iload_n d_TM_yesToAll_7 rfl ?_
    first | refine E_aload_n d_TM_yesToAll_8 rfl ?_ | refine E_aload_nN d_TM_yesToAll_8 rfl ?_
    refine E_getR (q := 1) d_TM_yesToAll_9 gf_TM_7 (by exact ⟨by decide, rfl⟩) (by exact hR _ rfl) ?_
    refine E_iconst (v := nI 0) d_TM_yesToAll_12 rfl ?_
    refine E_iald d_TM_yesToAll_13 (by exact ⟨by decide, rfl⟩) (by exact ⟨by with_reducible rfl, by omega, by decide⟩) (by first | exact hA.people | exact hA.figure | exact hA.lean (by omega) | exact hN _ (by omega) | rfl) ?_
    first | (with_reducible refine E_isN2 ?_; refine E_icmp_gt 31 d_TM_yesToAll_14 rfl (nb_lt (by omega) (by omega) fun h14 => ?_) (nb_nlt (by omega) (by omega) fun h14 => ?_)) | refine E_icmp_gt 31 d_TM_yesToAll_14 rfl (fun h14 => ?_) (fun h14 => ?_)
    · exfalso; omega
    refine E_iload_n d_TM_yesToAll_17 rfl ?_
    first | refine E_aload_n d_TM_yesToAll_18 rfl ?_ | refine E_aload_nN d_TM_yesToAll_18 rfl ?_
    refine E_iload_n d_TM_yesToAll_19 rfl ?_
    refine E_V1 (sp_TM_yesTo hM (by omega)) d_TM_yesToAll_20 ml_TM_347 cb_TM_yesTo cv_TM_yesTo (by exact ⟨by decide, rfl⟩) ⟨by decide, rfl⟩ ⟨by decide, by decide⟩ rfl (Nat.le_of_ble_eq_true rfl) (Nat.le_of_ble_eq_true rfl) (kI fun r1 M1 hc => ?_)
    obtain ⟨rfl, hS1⟩ := hc
    have hS1 := hS1.wk fun _ => SY.q
    first | (with_reducible refine E_isN2 ?_; refine E_iandN d_TM_yesToAll_23 ?_) | refine E_iand d_TM_yesToAll_23 ?_
    refine E_istore_1 d_TM_yesToAll_24 rfl ?_
    first | (with_reducible refine E_isL2 ?_; refine E_iincN2 (m := 1) d_TM_yesToAll_25 rfl rfl ?_) | refine E_iinc_2 d_TM_yesToAll_25 rfl rfl ?_
    refine E_goto 7 d_TM_yesToAll_28 rfl ?_
    exact ih (f + 1) (by omega) _ (hM.sx hS1) (hS.tr hS1)
theorem sp_TM_yesToAll {c : Cr} {M : Mem} (hM : HM c M) : E 6 0 0 Y_TM_yesToAll 0 [some (.ref 0), none, none] [] GM M (QI GM fun r M' => r = nI (allA c (c.now.people + 1)) ∧ Sx SQ M M') := by
  first | refine E_aload_n d_TM_yesToAll_0 rfl ?_ | refine E_aload_nN d_TM_yesToAll_0 rfl ?_
  refine E_V0 (sp_TM_everyone hM.R hM.A hM.w) d_TM_yesToAll_1 ml_TM_374 cb_TM_everyone cv_TM_everyone (by exact ⟨by decide, rfl⟩) ⟨by decide, rfl⟩ ⟨by decide, by decide⟩ rfl (Nat.le_of_ble_eq_true rfl) (Nat.le_of_ble_eq_true rfl) (kI fun r1 M1 hc => ?_)
  obtain ⟨rfl, rfl⟩ := hc
  refine E_istore_1 d_TM_yesToAll_4 rfl ?_
  refine E_iconst (v := nI 0) d_TM_yesToAll_5 rfl ?_
  refine E_istore_2 d_TM_yesToAll_6 rfl ?_
  exact lp_TM_all (c.now.people + 1) 0 (by omega) _ hM Sx.rf
theorem lp_TM_any {c : Cr} {M0 : Mem} : ∀ (j f : Nat), f + j = c.now.people + 1 → ∀ M, HM c M → Sx SQ M0 M → E 6 0 0 Y_TM_yesToAny 4 [some (.ref 0), some (.int (nI (anyA c f))), some (.int (nI f))] [] GM M (QI GM fun r M' => r = nI (anyA c (c.now.people + 1)) ∧ Sx SQ M0 M') := by
  intro j
  induction j with
  | zero =>
    intro f hf M hM hS
    have hR := hM.R
    have hA := hM.A
    have hp8 := hM.w.p8
    refine E_iload_n d_TM_yesToAny_4 rfl ?_
    first | refine E_aload_n d_TM_yesToAny_5 rfl ?_ | refine E_aload_nN d_TM_yesToAny_5 rfl ?_
    refine E_getR (q := 1) d_TM_yesToAny_6 gf_TM_7 (by exact ⟨by decide, rfl⟩) (by exact hR _ rfl) ?_
    refine E_iconst (v := nI 0) d_TM_yesToAny_9 rfl ?_
    refine E_iald d_TM_yesToAny_10 (by exact ⟨by decide, rfl⟩) (by exact ⟨by with_reducible rfl, by omega, by decide⟩) (by first | exact hA.people | exact hA.figure | exact hA.lean (by omega) | exact hN _ (by omega) | rfl) ?_
    first | (with_reducible refine E_isN2 ?_; refine E_icmp_gt 28 d_TM_yesToAny_11 rfl (nb_lt (by omega) (by omega) fun h11 => ?_) (nb_nlt (by omega) (by omega) fun h11 => ?_)) | refine E_icmp_gt 28 d_TM_yesToAny_11 rfl (fun h11 => ?_) (fun h11 => ?_)
    rotate_left
    · exfalso; omega
    refine E_iload_n d_TM_yesToAny_28 rfl ?_
    refine E_retI d_TM_yesToAny_29 rfl ?_
    exact ⟨by rw [← hf, Nat.add_zero], hS⟩
  | succ j ih =>
    intro f hf M hM hS
    have hR := hM.R
    have hA := hM.A
    have hp8 := hM.w.p8
    refine E_iload_n d_TM_yesToAny_4 rfl ?_
    first | refine E_aload_n d_TM_yesToAny_5 rfl ?_ | refine E_aload_nN d_TM_yesToAny_5 rfl ?_
    refine E_getR (q := 1) d_TM_yesToAny_6 gf_TM_7 (by exact ⟨by decide, rfl⟩) (by exact hR _ rfl) ?_
    refine E_iconst (v := nI 0) d_TM_yesToAny_9 rfl ?_
    refine E_iald d_TM_yesToAny_10 (by exact ⟨by decide, rfl⟩) (by exact ⟨by with_reducible rfl, by omega, by decide⟩) (by first | exact hA.people | exact hA.figure | exact hA.lean (by omega) | exact hN _ (by omega) | rfl) ?_
    first | (with_reducible refine E_isN2 ?_; refine E_icmp_gt 28 d_TM_yesToAny_11 rfl (nb_lt (by omega) (by omega) fun h11 => ?_) (nb_nlt (by omega) (by omega) fun h11 => ?_)) | refine E_icmp_gt 28 d_TM_yesToAny_11 rfl (fun h11 => ?_) (fun h11 => ?_)
    · exfalso; omega
    refine E_iload_n d_TM_yesToAny_14 rfl ?_
    first | refine E_aload_n d_TM_yesToAny_15 rfl ?_ | refine E_aload_nN d_TM_yesToAny_15 rfl ?_
    refine E_iload_n d_TM_yesToAny_16 rfl ?_
    refine E_V1 (sp_TM_yesTo hM (by omega)) d_TM_yesToAny_17 ml_TM_347 cb_TM_yesTo cv_TM_yesTo (by exact ⟨by decide, rfl⟩) ⟨by decide, rfl⟩ ⟨by decide, by decide⟩ rfl (Nat.le_of_ble_eq_true rfl) (Nat.le_of_ble_eq_true rfl) (kI fun r1 M1 hc => ?_)
    obtain ⟨rfl, hS1⟩ := hc
    have hS1 := hS1.wk fun _ => SY.q
    first | (with_reducible refine E_isN2 ?_; refine E_iorN d_TM_yesToAny_20 ?_) | refine E_ior d_TM_yesToAny_20 ?_
    refine E_istore_1 d_TM_yesToAny_21 rfl ?_
    first | (with_reducible refine E_isL2 ?_; refine E_iincN2 (m := 1) d_TM_yesToAny_22 rfl rfl ?_) | refine E_iinc_2 d_TM_yesToAny_22 rfl rfl ?_
    refine E_goto 4 d_TM_yesToAny_25 rfl ?_
    exact ih (f + 1) (by omega) _ (hM.sx hS1) (hS.tr hS1)
theorem sp_TM_yesToAny {c : Cr} {M : Mem} (hM : HM c M) : E 6 0 0 Y_TM_yesToAny 0 [some (.ref 0), none, none] [] GM M (QI GM fun r M' => r = nI (anyA c (c.now.people + 1)) ∧ Sx SQ M M') := by
  refine E_iconst (v := nI 0) d_TM_yesToAny_0 rfl ?_
  refine E_istore_1 d_TM_yesToAny_1 rfl ?_
  refine E_iconst (v := nI 0) d_TM_yesToAny_2 rfl ?_
  refine E_istore_2 d_TM_yesToAny_3 rfl ?_
  exact lp_TM_any (c.now.people + 1) 0 (by omega) _ hM Sx.rf
theorem sp_TM_unasked {c : Cr} {M : Mem} (hM : HM c M) (z : Int32) : E 7 0 0 Y_TM_unasked 0 [some (.ref 0), some (.int z)] [] GM M (QI GM fun r M' => r = ans_unasked c z ∧ Sx SQ M M') := by
  have hp8 := hM.w.p8
  have h256 := pow256 hp8
  have a1 := allA_lt c (c.now.people + 1)
  have a2 := anyA_lt c (c.now.people + 1)
  refine E_iload_n d_TM_unasked_0 rfl ?_
  first | (with_reducible refine E_isP ?_; refine E_if_eq 11 d_TM_unasked_1 rfl (pb_0 fun h1 => ?_) (pb_1 fun h1 => ?_)) | (with_reducible refine E_isN1 ?_; refine E_if_eq 11 d_TM_unasked_1 rfl (nz_eq (by omega) fun h1 => ?_) (nz_ne fun h1 => ?_)) | refine E_if_eq 11 d_TM_unasked_1 rfl (fun h1 => ?_) (fun h1 => ?_)
  · first | refine E_aload_n d_TM_unasked_11 rfl ?_ | refine E_aload_nN d_TM_unasked_11 rfl ?_
    refine E_V0 (sp_TM_yesToAll hM) d_TM_unasked_12 ml_TM_385 cb_TM_yesToAll cv_TM_yesToAll (by exact ⟨by decide, rfl⟩) ⟨by decide, rfl⟩ ⟨by decide, by decide⟩ rfl (Nat.le_of_ble_eq_true rfl) (Nat.le_of_ble_eq_true rfl) (kI fun r1 M1 hc => ?_)
    obtain ⟨rfl, hS1⟩ := hc
    refine E_S1 (sp_TM_bits _ (by omega)) d_TM_unasked_15 ml_TM_267 cb_TM_bits cs_TM_bits ⟨by decide, by decide⟩ rfl (Nat.le_of_ble_eq_true rfl) (Nat.le_of_ble_eq_true rfl) (kI fun r1 M1 hc => ?_)
    obtain ⟨rfl, rfl⟩ := hc
    refine E_retI d_TM_unasked_18 rfl ?_
    exact ⟨by first | rw [ans_unasked, if_pos (by assumption)] | rw [ans_unasked, if_neg (by assumption)], hS1⟩
  · first | refine E_aload_n d_TM_unasked_4 rfl ?_ | refine E_aload_nN d_TM_unasked_4 rfl ?_
    refine E_V0 (sp_TM_yesToAny hM) d_TM_unasked_5 ml_TM_382 cb_TM_yesToAny cv_TM_yesToAny (by exact ⟨by decide, rfl⟩) ⟨by decide, rfl⟩ ⟨by decide, by decide⟩ rfl (Nat.le_of_ble_eq_true rfl) (Nat.le_of_ble_eq_true rfl) (kI fun r1 M1 hc => ?_)
    obtain ⟨rfl, hS1⟩ := hc
    refine E_goto 15 d_TM_unasked_8 rfl ?_
    refine E_S1 (sp_TM_bits _ (by omega)) d_TM_unasked_15 ml_TM_267 cb_TM_bits cs_TM_bits ⟨by decide, by decide⟩ rfl (Nat.le_of_ble_eq_true rfl) (Nat.le_of_ble_eq_true rfl) (kI fun r1 M1 hc => ?_)
    obtain ⟨rfl, rfl⟩ := hc
    refine E_retI d_TM_unasked_18 rfl ?_
    exact ⟨by first | rw [ans_unasked, if_pos (by assumption)] | rw [ans_unasked, if_neg (by assumption)], hS1⟩
theorem sp_TM_honest {c : Cr} {M : Mem} (hM : HM c M) : E 7 0 0 Y_TM_honest 0 [some (.ref 0)] [] GM M (QI GM fun r M' => r = ans_honest c ∧ Sx SQ M M') := by
  have hp8 := hM.w.p8
  first | refine E_aload_n d_TM_honest_0 rfl ?_ | refine E_aload_nN d_TM_honest_0 rfl ?_
  refine E_V0 (sp_TM_everyone hM.R hM.A hM.w) d_TM_honest_1 ml_TM_374 cb_TM_everyone cv_TM_everyone (by exact ⟨by decide, rfl⟩) ⟨by decide, rfl⟩ ⟨by decide, by decide⟩ rfl (Nat.le_of_ble_eq_true rfl) (Nat.le_of_ble_eq_true rfl) (kI fun r1 M1 hc => ?_)
  obtain ⟨rfl, rfl⟩ := hc
  first | refine E_aload_n d_TM_honest_4 rfl ?_ | refine E_aload_nN d_TM_honest_4 rfl ?_
  refine E_V0 (sp_TM_yesToAny hM) d_TM_honest_5 ml_TM_382 cb_TM_yesToAny cv_TM_yesToAny (by exact ⟨by decide, rfl⟩) ⟨by decide, rfl⟩ ⟨by decide, by decide⟩ rfl (Nat.le_of_ble_eq_true rfl) (Nat.le_of_ble_eq_true rfl) (kI fun r1 M1 hc => ?_)
  obtain ⟨rfl, hS1⟩ := hc
  have hM1 := hM.sx hS1
  first | refine E_aload_n d_TM_honest_8 rfl ?_ | refine E_aload_nN d_TM_honest_8 rfl ?_
  refine E_V0 (sp_TM_yesToAll hM1) d_TM_honest_9 ml_TM_385 cb_TM_yesToAll cv_TM_yesToAll (by exact ⟨by decide, rfl⟩) ⟨by decide, rfl⟩ ⟨by decide, by decide⟩ rfl (Nat.le_of_ble_eq_true rfl) (Nat.le_of_ble_eq_true rfl) (kI fun r1 M1 hc => ?_)
  obtain ⟨rfl, hS2⟩ := hc
  refine E_iconst (v := (-1)) d_TM_honest_12 rfl ?_
  first | (with_reducible refine E_isN2 ?_; refine E_ixorN d_TM_honest_13 ?_) | refine E_ixor d_TM_honest_13 ?_
  first | (with_reducible refine E_isN2 ?_; refine E_iandN d_TM_honest_14 ?_) | refine E_iand d_TM_honest_14 ?_
  rw [nI_andn]
  refine E_iconst (v := (-1)) d_TM_honest_15 rfl ?_
  first | (with_reducible refine E_isN2 ?_; refine E_ixorN d_TM_honest_16 ?_) | refine E_ixor d_TM_honest_16 ?_
  first | (with_reducible refine E_isN2 ?_; refine E_iandN d_TM_honest_17 ?_) | refine E_iand d_TM_honest_17 ?_
  rw [nI_andn]
  refine E_retI d_TM_honest_18 rfl ?_
  exact ⟨rfl, hS1.tr hS2⟩
theorem pI_eq {P P' : Prop} [Decidable P] [Decidable P'] : pI P = pI P' ↔ (P ↔ P') := by
  unfold pI
  by_cases h : P <;> by_cases h' : P' <;> simp [h, h']
theorem lp_TM_alikeOf {c : Cr} {M0 : Mem} {p q : Nat} (hp : p < c.now.people) (hq : q < c.now.people) : ∀ (j f : Nat), f + j = c.now.people + 1 → ∀ M, HM c M → Sx SQ M0 M → E 5 0 0 Y_TM_alikeOf 5 [some (.ref 0), some (.int (nI p)), some (.int (nI q)), some (.int (nI (cnt (fun f => isYes c c.now (ruler c) p f == isYes c c.now (ruler c) q f) f))), some (.int (nI f))] [] GM M (QI GM fun r M' => r = nI (alikeN c p q) ∧ Sx SQ M0 M') := by
  intro j
  induction j with
  | zero =>
    intro f hf M hM hS
    have hR := hM.R
    have hA := hM.A
    have hp8 := hM.w.p8
    refine E_iload d_TM_alikeOf_5 rfl ?_
    first | refine E_aload_n d_TM_alikeOf_7 rfl ?_ | refine E_aload_nN d_TM_alikeOf_7 rfl ?_
    refine E_getR (q := 1) d_TM_alikeOf_8 gf_TM_7 (by exact ⟨by decide, rfl⟩) (by exact hR _ rfl) ?_
    refine E_iconst (v := nI 0) d_TM_alikeOf_11 rfl ?_
    refine E_iald d_TM_alikeOf_12 (by exact ⟨by decide, rfl⟩) (by exact ⟨by with_reducible rfl, by omega, by decide⟩) (by first | exact hA.people | exact hA.figure | exact hA.lean (by omega) | exact hN _ (by omega) | rfl) ?_
    first | (with_reducible refine E_isN2 ?_; refine E_icmp_gt 47 d_TM_alikeOf_13 rfl (nb_lt (by omega) (by omega) fun h13 => ?_) (nb_nlt (by omega) (by omega) fun h13 => ?_)) | refine E_icmp_gt 47 d_TM_alikeOf_13 rfl (fun h13 => ?_) (fun h13 => ?_)
    rotate_left
    · exfalso; omega
    refine E_iload_n d_TM_alikeOf_47 rfl ?_
    refine E_retI d_TM_alikeOf_48 rfl ?_
    exact ⟨by rw [alikeN, ← hf, Nat.add_zero], hS⟩
  | succ j ih =>
    intro f hf M hM hS
    have hR := hM.R
    have hA := hM.A
    have hp8 := hM.w.p8
    have e : cnt (fun f => isYes c c.now (ruler c) p f == isYes c c.now (ruler c) q f) (f + 1) = cnt (fun f => isYes c c.now (ruler c) p f == isYes c c.now (ruler c) q f) f + (if (isYes c c.now (ruler c) p f == isYes c c.now (ruler c) q f) = true then 1 else 0) := rfl
    refine E_iload d_TM_alikeOf_5 rfl ?_
    first | refine E_aload_n d_TM_alikeOf_7 rfl ?_ | refine E_aload_nN d_TM_alikeOf_7 rfl ?_
    refine E_getR (q := 1) d_TM_alikeOf_8 gf_TM_7 (by exact ⟨by decide, rfl⟩) (by exact hR _ rfl) ?_
    refine E_iconst (v := nI 0) d_TM_alikeOf_11 rfl ?_
    refine E_iald d_TM_alikeOf_12 (by exact ⟨by decide, rfl⟩) (by exact ⟨by with_reducible rfl, by omega, by decide⟩) (by first | exact hA.people | exact hA.figure | exact hA.lean (by omega) | exact hN _ (by omega) | rfl) ?_
    first | (with_reducible refine E_isN2 ?_; refine E_icmp_gt 47 d_TM_alikeOf_13 rfl (nb_lt (by omega) (by omega) fun h13 => ?_) (nb_nlt (by omega) (by omega) fun h13 => ?_)) | refine E_icmp_gt 47 d_TM_alikeOf_13 rfl (fun h13 => ?_) (fun h13 => ?_)
    · exfalso; omega
    refine E_iload_n d_TM_alikeOf_16 rfl ?_
    first | refine E_aload_n d_TM_alikeOf_17 rfl ?_ | refine E_aload_nN d_TM_alikeOf_17 rfl ?_
    refine E_iload_n d_TM_alikeOf_18 rfl ?_
    refine E_iload d_TM_alikeOf_19 rfl ?_
    refine E_V2 (sp_TM_isYes hM hp (by omega)) d_TM_alikeOf_21 ml_TM_299 cb_TM_isYes cv_TM_isYes (by exact ⟨by decide, rfl⟩) ⟨by decide, rfl⟩ ⟨by decide, by decide⟩ rfl (Nat.le_of_ble_eq_true rfl) (Nat.le_of_ble_eq_true rfl) (kI fun r1 M1 hc => ?_)
    obtain ⟨rfl, hS1⟩ := hc
    have hS1 := hS1.wk fun _ => SY.q
    have hM1 := hM.sx hS1
    first | refine E_aload_n d_TM_alikeOf_24 rfl ?_ | refine E_aload_nN d_TM_alikeOf_24 rfl ?_
    refine E_iload_n d_TM_alikeOf_25 rfl ?_
    refine E_iload d_TM_alikeOf_26 rfl ?_
    refine E_V2 (sp_TM_isYes hM1 hq (by omega)) d_TM_alikeOf_28 ml_TM_299 cb_TM_isYes cv_TM_isYes (by exact ⟨by decide, rfl⟩) ⟨by decide, rfl⟩ ⟨by decide, by decide⟩ rfl (Nat.le_of_ble_eq_true rfl) (Nat.le_of_ble_eq_true rfl) (kI fun r1 M1 hc => ?_)
    obtain ⟨rfl, hS2⟩ := hc
    have hS1 := hS1.tr (hS2.wk fun _ => SY.q)
    have hM1 := hM.sx hS1
    first | (with_reducible refine E_isN2 ?_; refine E_icmp_ne 38 d_TM_alikeOf_31 rfl (nb_ne fun h31 => ?_) (nb_eq (by omega) (by omega) fun h31 => ?_)) | refine E_icmp_ne 38 d_TM_alikeOf_31 rfl (fun h31 => ?_) (fun h31 => ?_)
    · refine E_iconst (v := nI 0) d_TM_alikeOf_38 rfl ?_
      first | (with_reducible refine E_isN2 ?_; refine E_iaddN d_TM_alikeOf_39 ?_) | refine E_iadd d_TM_alikeOf_39 ?_
      refine E_istore_3 d_TM_alikeOf_40 rfl ?_
      first | (with_reducible refine E_isL4 ?_; refine E_iincN4 (m := 1) d_TM_alikeOf_41 rfl rfl ?_) | refine E_iinc_4 d_TM_alikeOf_41 rfl rfl ?_
      refine E_goto 5 d_TM_alikeOf_44 rfl ?_
      refine E_eqL ?_ (ih (f + 1) (by omega) _ hM1 (hS.tr hS1))
      rw [pI_eq] at h31
      rw [e]
      first | rw [if_pos (by rw [beq_iff_eq, Bool.eq_iff_iff]; exact h31)] | rw [if_neg (by rw [beq_iff_eq, Bool.eq_iff_iff]; exact h31)]
    · refine E_iconst (v := nI 1) d_TM_alikeOf_34 rfl ?_
      refine E_goto 39 d_TM_alikeOf_35 rfl ?_
      first | (with_reducible refine E_isN2 ?_; refine E_iaddN d_TM_alikeOf_39 ?_) | refine E_iadd d_TM_alikeOf_39 ?_
      refine E_istore_3 d_TM_alikeOf_40 rfl ?_
      first | (with_reducible refine E_isL4 ?_; refine E_iincN4 (m := 1) d_TM_alikeOf_41 rfl rfl ?_) | refine E_iinc_4 d_TM_alikeOf_41 rfl rfl ?_
      refine E_goto 5 d_TM_alikeOf_44 rfl ?_
      refine E_eqL ?_ (ih (f + 1) (by omega) _ hM1 (hS.tr hS1))
      rw [pI_eq] at h31
      rw [e]
      first | rw [if_pos (by rw [beq_iff_eq, Bool.eq_iff_iff]; exact h31)] | rw [if_neg (by rw [beq_iff_eq, Bool.eq_iff_iff]; exact h31)]
theorem sp_TM_alikeOf {c : Cr} {M : Mem} {p q : Nat} (hM : HM c M) (hp : p < c.now.people) (hq : q < c.now.people) : E 5 0 0 Y_TM_alikeOf 0 [some (.ref 0), some (.int (nI p)), some (.int (nI q)), none, none] [] GM M (QI GM fun r M' => r = nI (alikeN c p q) ∧ Sx SQ M M') := by
  refine E_iconst (v := nI 0) d_TM_alikeOf_0 rfl ?_
  refine E_istore_3 d_TM_alikeOf_1 rfl ?_
  refine E_iconst (v := nI 0) d_TM_alikeOf_2 rfl ?_
  refine E_istore_4 d_TM_alikeOf_3 rfl ?_
  exact lp_TM_alikeOf hp hq (c.now.people + 1) 0 (by omega) _ hM Sx.rf
theorem sp_TM_alike {c : Cr} {M : Mem} (hM : HM c M) (x y : Int32) : E 6 0 0 Y_TM_alike 0 [some (.ref 0), some (.int x), some (.int y)] [] GM M (QI GM fun r M' => r = ans_alike c x y ∧ Sx SQ M M') := by
  have hp8 := hM.w.p8
  revert x y
  refine args2 c.now.people c.now.people (fun k j hk hx ht hj hy ht2 => ?_) (fun x y hx => ?_) (fun x y hx hy => ?_)
  · first | refine E_aload_n d_TM_alike_0 rfl ?_ | refine E_aload_nN d_TM_alike_0 rfl ?_
    refine E_iload_n d_TM_alike_1 rfl ?_
    refine E_V1 (sp_TM_isPerson hM.R hM.A hM.w _) d_TM_alike_2 ml_TM_73 cb_TM_isPerson cv_TM_isPerson (by exact ⟨by decide, rfl⟩) ⟨by decide, rfl⟩ ⟨by decide, by decide⟩ rfl (Nat.le_of_ble_eq_true rfl) (Nat.le_of_ble_eq_true rfl) (kI fun r1 M1 hc => ?_)
    obtain ⟨rfl, rfl⟩ := hc
    first | (with_reducible refine E_isP ?_; refine E_if_eq 25 d_TM_alike_5 rfl (pb_0 fun h5 => ?_) (pb_1 fun h5 => ?_)) | (with_reducible refine E_isN1 ?_; refine E_if_eq 25 d_TM_alike_5 rfl (nz_eq (by omega) fun h5 => ?_) (nz_ne fun h5 => ?_)) | refine E_if_eq 25 d_TM_alike_5 rfl (fun h5 => ?_) (fun h5 => ?_)
    · exfalso; exact h5 hx
    first | refine E_aload_n d_TM_alike_8 rfl ?_ | refine E_aload_nN d_TM_alike_8 rfl ?_
    refine E_iload_n d_TM_alike_9 rfl ?_
    refine E_V1 (sp_TM_isPerson hM.R hM.A hM.w _) d_TM_alike_10 ml_TM_73 cb_TM_isPerson cv_TM_isPerson (by exact ⟨by decide, rfl⟩) ⟨by decide, rfl⟩ ⟨by decide, by decide⟩ rfl (Nat.le_of_ble_eq_true rfl) (Nat.le_of_ble_eq_true rfl) (kI fun r1 M1 hc => ?_)
    obtain ⟨rfl, rfl⟩ := hc
    first | (with_reducible refine E_isP ?_; refine E_if_eq 25 d_TM_alike_13 rfl (pb_0 fun h13 => ?_) (pb_1 fun h13 => ?_)) | (with_reducible refine E_isN1 ?_; refine E_if_eq 25 d_TM_alike_13 rfl (nz_eq (by omega) fun h13 => ?_) (nz_ne fun h13 => ?_)) | refine E_if_eq 25 d_TM_alike_13 rfl (fun h13 => ?_) (fun h13 => ?_)
    · exfalso; exact h13 hy
    first | refine E_aload_n d_TM_alike_16 rfl ?_ | refine E_aload_nN d_TM_alike_16 rfl ?_
    refine E_iload_n d_TM_alike_17 rfl ?_
    refine E_iload_n d_TM_alike_18 rfl ?_
    refine E_V2 (sp_TM_alikeOf hM hk hj) d_TM_alike_19 ml_TM_388 cb_TM_alikeOf cv_TM_alikeOf (by exact ⟨by decide, rfl⟩) ⟨by decide, rfl⟩ ⟨by decide, by decide⟩ rfl (Nat.le_of_ble_eq_true rfl) (Nat.le_of_ble_eq_true rfl) (kI fun r1 M1 hc => ?_)
    obtain ⟨rfl, hS1⟩ := hc
    refine E_goto 26 d_TM_alike_22 rfl ?_
    refine E_retI d_TM_alike_26 rfl ?_
    exact ⟨by rw [ans_alike, if_pos ⟨hx, hy⟩, ht, ht2], hS1⟩
  · first | refine E_aload_n d_TM_alike_0 rfl ?_ | refine E_aload_nN d_TM_alike_0 rfl ?_
    refine E_iload_n d_TM_alike_1 rfl ?_
    refine E_V1 (sp_TM_isPerson hM.R hM.A hM.w _) d_TM_alike_2 ml_TM_73 cb_TM_isPerson cv_TM_isPerson (by exact ⟨by decide, rfl⟩) ⟨by decide, rfl⟩ ⟨by decide, by decide⟩ rfl (Nat.le_of_ble_eq_true rfl) (Nat.le_of_ble_eq_true rfl) (kI fun r1 M1 hc => ?_)
    obtain ⟨rfl, rfl⟩ := hc
    first | (with_reducible refine E_isP ?_; refine E_if_eq 25 d_TM_alike_5 rfl (pb_0 fun h5 => ?_) (pb_1 fun h5 => ?_)) | (with_reducible refine E_isN1 ?_; refine E_if_eq 25 d_TM_alike_5 rfl (nz_eq (by omega) fun h5 => ?_) (nz_ne fun h5 => ?_)) | refine E_if_eq 25 d_TM_alike_5 rfl (fun h5 => ?_) (fun h5 => ?_)
    rotate_left
    · exfalso; exact hx h5
    refine E_iconst (v := (-1)) d_TM_alike_25 rfl ?_
    refine E_retI d_TM_alike_26 rfl ?_
    exact ⟨by rw [ans_alike, if_neg (fun q => hx q.1)], Sx.rf⟩
  · first | refine E_aload_n d_TM_alike_0 rfl ?_ | refine E_aload_nN d_TM_alike_0 rfl ?_
    refine E_iload_n d_TM_alike_1 rfl ?_
    refine E_V1 (sp_TM_isPerson hM.R hM.A hM.w _) d_TM_alike_2 ml_TM_73 cb_TM_isPerson cv_TM_isPerson (by exact ⟨by decide, rfl⟩) ⟨by decide, rfl⟩ ⟨by decide, by decide⟩ rfl (Nat.le_of_ble_eq_true rfl) (Nat.le_of_ble_eq_true rfl) (kI fun r1 M1 hc => ?_)
    obtain ⟨rfl, rfl⟩ := hc
    first | (with_reducible refine E_isP ?_; refine E_if_eq 25 d_TM_alike_5 rfl (pb_0 fun h5 => ?_) (pb_1 fun h5 => ?_)) | (with_reducible refine E_isN1 ?_; refine E_if_eq 25 d_TM_alike_5 rfl (nz_eq (by omega) fun h5 => ?_) (nz_ne fun h5 => ?_)) | refine E_if_eq 25 d_TM_alike_5 rfl (fun h5 => ?_) (fun h5 => ?_)
    · exfalso; exact h5 hx
    first | refine E_aload_n d_TM_alike_8 rfl ?_ | refine E_aload_nN d_TM_alike_8 rfl ?_
    refine E_iload_n d_TM_alike_9 rfl ?_
    refine E_V1 (sp_TM_isPerson hM.R hM.A hM.w _) d_TM_alike_10 ml_TM_73 cb_TM_isPerson cv_TM_isPerson (by exact ⟨by decide, rfl⟩) ⟨by decide, rfl⟩ ⟨by decide, by decide⟩ rfl (Nat.le_of_ble_eq_true rfl) (Nat.le_of_ble_eq_true rfl) (kI fun r1 M1 hc => ?_)
    obtain ⟨rfl, rfl⟩ := hc
    first | (with_reducible refine E_isP ?_; refine E_if_eq 25 d_TM_alike_13 rfl (pb_0 fun h13 => ?_) (pb_1 fun h13 => ?_)) | (with_reducible refine E_isN1 ?_; refine E_if_eq 25 d_TM_alike_13 rfl (nz_eq (by omega) fun h13 => ?_) (nz_ne fun h13 => ?_)) | refine E_if_eq 25 d_TM_alike_13 rfl (fun h13 => ?_) (fun h13 => ?_)
    rotate_left
    · exfalso; exact hy h13
    refine E_iconst (v := (-1)) d_TM_alike_25 rfl ?_
    refine E_retI d_TM_alike_26 rfl ?_
    exact ⟨by rw [ans_alike, if_neg (fun q => hy q.2)], Sx.rf⟩
