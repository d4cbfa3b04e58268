theorem sp_TM_isPerson {c : Cr} {M : Mem} (hR : MR M) (hA : RepA c (mI M 1)) (hw : Wf c) (x : Int32) : E 1 0 0 Y_TM_isPerson 0 [some (.ref 0), some (.int x)] [] GM M (QI GM fun r M' => r = pI (inN x c.now.people) ∧ M' = M) := by
  have hp8 := hw.p8
  refine E_iload_n d_TM_isPerson_0 rfl ?_
  refine E_iconst (v := nI 0) d_TM_isPerson_1 rfl ?_
  first | refine E_aload_n d_TM_isPerson_2 rfl ?_ | refine E_aload_nN d_TM_isPerson_2 rfl ?_
  refine E_getR (q := 1) d_TM_isPerson_3 gf_TM_7 (by exact ⟨by decide, rfl⟩) (by exact hR _ rfl) ?_
  refine E_iconst (v := nI 0) d_TM_isPerson_6 rfl ?_
  refine E_iald d_TM_isPerson_7 (by exact ⟨by decide, rfl⟩) (by exact ⟨by with_reducible rfl, by omega, by decide⟩) (by first | exact hA.people | exact hA.texts | exact hA.ruling | exact hA.steps | exact hA.saids | exact hA.parties | exact hA.round | exact hA.x | exact hA.figure | exact hA.written | exact hA.answers | exact hA.lean (by omega) | exact hA.sort (by omega) | exact hA.begun (by omega) | exact hA.hears (by omega) | exact hA.village (by omega) | rfl) ?_
  refine E_iconst (v := nI 1) d_TM_isPerson_8 rfl ?_
  first | (with_reducible refine E_isN2 ?_; refine E_isubN d_TM_isPerson_9 (by omega) ?_) | refine E_isub d_TM_isPerson_9 ?_
  refine E_S3 (sp_TM_isIn _ _ _) d_TM_isPerson_10 ml_TM_69 cb_TM_isIn cs_TM_isIn ⟨by decide, by decide⟩ rfl (Nat.le_of_ble_eq_true rfl) (Nat.le_of_ble_eq_true rfl) (kI fun r1 M1 hc => ?_)
  obtain ⟨rfl, rfl⟩ := hc
  refine E_retZ d_TM_isPerson_13 rfl (by first | exact pI_01 _ | decide) ?_
  exact ⟨pI_congr (isIn_p (by omega)), rfl⟩
theorem sp_TM_canBeTold {c : Cr} {M : Mem} (hR : MR M) (hA : RepA c (mI M 1)) (hw : Wf c) (x : Int32) : E 1 0 0 Y_TM_canBeTold 0 [some (.ref 0), some (.int x)] [] GM M (QI GM fun r M' => r = pI (inN x (c.now.people + 1)) ∧ M' = M) := by
  have hp8 := hw.p8
  refine E_iload_n d_TM_canBeTold_0 rfl ?_
  refine E_iconst (v := nI 0) d_TM_canBeTold_1 rfl ?_
  first | refine E_aload_n d_TM_canBeTold_2 rfl ?_ | refine E_aload_nN d_TM_canBeTold_2 rfl ?_
  refine E_getR (q := 1) d_TM_canBeTold_3 gf_TM_7 (by exact ⟨by decide, rfl⟩) (by exact hR _ rfl) ?_
  refine E_iconst (v := nI 0) d_TM_canBeTold_6 rfl ?_
  refine E_iald d_TM_canBeTold_7 (by exact ⟨by decide, rfl⟩) (by exact ⟨by with_reducible rfl, by omega, by decide⟩) (by first | exact hA.people | exact hA.texts | exact hA.ruling | exact hA.steps | exact hA.saids | exact hA.parties | exact hA.round | exact hA.x | exact hA.figure | exact hA.written | exact hA.answers | exact hA.lean (by omega) | exact hA.sort (by omega) | exact hA.begun (by omega) | exact hA.hears (by omega) | exact hA.village (by omega) | rfl) ?_
  refine E_S3 (sp_TM_isIn _ _ _) d_TM_canBeTold_8 ml_TM_69 cb_TM_isIn cs_TM_isIn ⟨by decide, by decide⟩ rfl (Nat.le_of_ble_eq_true rfl) (Nat.le_of_ble_eq_true rfl) (kI fun r1 M1 hc => ?_)
  obtain ⟨rfl, rfl⟩ := hc
  refine E_retZ d_TM_canBeTold_11 rfl (by first | exact pI_01 _ | decide) ?_
  exact ⟨pI_congr (isIn_0 (by omega)), rfl⟩
theorem sp_TM_everyone {c : Cr} {M : Mem} (hR : MR M) (hA : RepA c (mI M 1)) (hw : Wf c) : E 0 0 0 Y_TM_everyone 0 [some (.ref 0)] [] GM M (QI GM fun r M' => r = nI (2 ^ c.now.people - 1) ∧ M' = M) := by
  have hp8 := hw.p8
  have hpos : 1 ≤ 2 ^ c.now.people := Nat.one_le_two_pow
  refine E_iconst (v := nI 1) d_TM_everyone_0 rfl ?_
  first | refine E_aload_n d_TM_everyone_1 rfl ?_ | refine E_aload_nN d_TM_everyone_1 rfl ?_
  refine E_getR (q := 1) d_TM_everyone_2 gf_TM_7 (by exact ⟨by decide, rfl⟩) (by exact hR _ rfl) ?_
  refine E_iconst (v := nI 0) d_TM_everyone_5 rfl ?_
  refine E_iald d_TM_everyone_6 (by exact ⟨by decide, rfl⟩) (by exact ⟨by with_reducible rfl, by omega, by decide⟩) (by first | exact hA.people | exact hA.texts | exact hA.ruling | exact hA.steps | exact hA.saids | exact hA.parties | exact hA.round | exact hA.x | exact hA.figure | exact hA.written | exact hA.answers | exact hA.lean (by omega) | exact hA.sort (by omega) | exact hA.begun (by omega) | exact hA.hears (by omega) | exact hA.village (by omega) | rfl) ?_
  first | (with_reducible refine E_isN2 ?_; first | refine E_ishl1 d_TM_everyone_7 (by omega) ?_ | refine E_ishlN d_TM_everyone_7 (by omega) (by omega) ?_) | refine E_ishl d_TM_everyone_7 ?_
  refine E_iconst (v := nI 1) d_TM_everyone_8 rfl ?_
  first | (with_reducible refine E_isN2 ?_; refine E_isubN d_TM_everyone_9 (by omega) ?_) | refine E_isub d_TM_everyone_9 ?_
  refine E_retI d_TM_everyone_10 rfl ?_
  exact ⟨rfl, rfl⟩
theorem lp_TM_yesTo {c : Cr} {M0 : Mem} {f : Nat} (hf : f ≤ 8) : ∀ (n p : Nat), p + n = c.now.people → ∀ M, HM c M → Sx SY M0 M → E 5 0 0 Y_TM_yesTo 4 [some (.ref 0), some (.int (nI f)), some (.int (nI (bset (fun p => isYes c c.now (ruler c) p f) p))), some (.int (nI p))] [] GM M (QI GM fun r M' => r = nI (yesTo c c.now (ruler c) f) ∧ Sx SY M0 M') := by
  intro n
  induction n with
  | zero =>
    intro p hn M hM hS
    obtain ⟨hR, hA, -, hw⟩ := hM
    have hp8 := hw.p8
    refine E_iload_n d_TM_yesTo_4 rfl ?_
    first | refine E_aload_n d_TM_yesTo_5 rfl ?_ | refine E_aload_nN d_TM_yesTo_5 rfl ?_
    refine E_getR (q := 1) d_TM_yesTo_6 gf_TM_7 (by exact ⟨by decide, rfl⟩) (by exact hR _ rfl) ?_
    refine E_iconst (v := nI 0) d_TM_yesTo_9 rfl ?_
    refine E_iald d_TM_yesTo_10 (by exact ⟨by decide, rfl⟩) (by exact ⟨by with_reducible rfl, by omega, by decide⟩) (by first | exact hA.people | exact hA.texts | exact hA.ruling | exact hA.steps | exact hA.saids | exact hA.parties | exact hA.round | exact hA.x | exact hA.figure | exact hA.written | exact hA.answers | exact hA.lean (by omega) | exact hA.sort (by omega) | exact hA.begun (by omega) | exact hA.hears (by omega) | exact hA.village (by omega) | rfl) ?_
    first | (with_reducible refine E_isN2 ?_; refine E_icmp_ge 39 d_TM_yesTo_11 rfl (nb_le (by omega) (by omega) fun h11 => ?_) (nb_nle (by omega) (by omega) fun h11 => ?_)) | refine E_icmp_ge 39 d_TM_yesTo_11 rfl (fun h11 => ?_) (fun h11 => ?_)
    rotate_left
    · exfalso; omega
    refine E_iload_n d_TM_yesTo_39 rfl ?_
    refine E_retI d_TM_yesTo_40 rfl ?_
    exact ⟨by rw [yesTo, ← hn, Nat.add_zero], hS⟩
  | succ n ih =>
    intro p hn M hM hS
    have hR := hM.R
    have hA := hM.A
    have hw := hM.w
    have hp8 := hw.p8
    refine E_iload_n d_TM_yesTo_4 rfl ?_
    first | refine E_aload_n d_TM_yesTo_5 rfl ?_ | refine E_aload_nN d_TM_yesTo_5 rfl ?_
    refine E_getR (q := 1) d_TM_yesTo_6 gf_TM_7 (by exact ⟨by decide, rfl⟩) (by exact hR _ rfl) ?_
    refine E_iconst (v := nI 0) d_TM_yesTo_9 rfl ?_
    refine E_iald d_TM_yesTo_10 (by exact ⟨by decide, rfl⟩) (by exact ⟨by with_reducible rfl, by omega, by decide⟩) (by first | exact hA.people | exact hA.texts | exact hA.ruling | exact hA.steps | exact hA.saids | exact hA.parties | exact hA.round | exact hA.x | exact hA.figure | exact hA.written | exact hA.answers | exact hA.lean (by omega) | exact hA.sort (by omega) | exact hA.begun (by omega) | exact hA.hears (by omega) | exact hA.village (by omega) | rfl) ?_
    first | (with_reducible refine E_isN2 ?_; refine E_icmp_ge 39 d_TM_yesTo_11 rfl (nb_le (by omega) (by omega) fun h11 => ?_) (nb_nle (by omega) (by omega) fun h11 => ?_)) | refine E_icmp_ge 39 d_TM_yesTo_11 rfl (fun h11 => ?_) (fun h11 => ?_)
    · exfalso; omega
    refine E_iload_n d_TM_yesTo_14 rfl ?_
    first | refine E_aload_n d_TM_yesTo_15 rfl ?_ | refine E_aload_nN d_TM_yesTo_15 rfl ?_
    refine E_iload_n d_TM_yesTo_16 rfl ?_
    refine E_iload_n d_TM_yesTo_17 rfl ?_
    refine E_V2 (sp_TM_isYes hM (by omega) hf) d_TM_yesTo_18 ml_TM_299 cb_TM_isYes cv_TM_isYes (by exact ⟨by decide, rfl⟩) ⟨by decide, rfl⟩ ⟨by decide, by decide⟩ rfl (Nat.le_of_ble_eq_true rfl) (Nat.le_of_ble_eq_true rfl) (kI fun r1 M1 hc => ?_)
    obtain ⟨rfl, hS1⟩ := hc
    first | (with_reducible refine E_isP ?_; refine E_if_eq 30 d_TM_yesTo_21 rfl (pb_0 fun h21 => ?_) (pb_1 fun h21 => ?_)) | (with_reducible refine E_isN1 ?_; refine E_if_eq 30 d_TM_yesTo_21 rfl (nz_eq (by omega) fun h21 => ?_) (nz_ne fun h21 => ?_)) | refine E_if_eq 30 d_TM_yesTo_21 rfl (fun h21 => ?_) (fun h21 => ?_)
    · refine E_iconst (v := nI 0) d_TM_yesTo_30 rfl ?_
      first | (with_reducible refine E_isN2 ?_; refine E_iorN d_TM_yesTo_31 ?_) | refine E_ior d_TM_yesTo_31 ?_
      refine E_istore_2 d_TM_yesTo_32 rfl ?_
      first | (with_reducible refine E_isL3 ?_; refine E_iincN3 (m := 1) d_TM_yesTo_33 rfl rfl ?_) | refine E_iinc_3 d_TM_yesTo_33 rfl rfl ?_
      refine E_goto 4 d_TM_yesTo_36 rfl ?_
      first | (rw [bset_or1 (fun p => isYes c c.now (ruler c) p f) p (by assumption)]; exact ih (p + 1) (by omega) _ (hM.sy hS1) (hS.tr hS1)) | (rw [Nat.or_zero, bset_or0 (fun p => isYes c c.now (ruler c) p f) p (by assumption)]; exact ih (p + 1) (by omega) _ (hM.sy hS1) (hS.tr hS1))
    · refine E_iconst (v := nI 1) d_TM_yesTo_24 rfl ?_
      refine E_iload_n d_TM_yesTo_25 rfl ?_
      first | (with_reducible refine E_isN2 ?_; first | refine E_ishl1 d_TM_yesTo_26 (by omega) ?_ | refine E_ishlN d_TM_yesTo_26 (by omega) (by omega) ?_) | refine E_ishl d_TM_yesTo_26 ?_
      refine E_goto 31 d_TM_yesTo_27 rfl ?_
      first | (with_reducible refine E_isN2 ?_; refine E_iorN d_TM_yesTo_31 ?_) | refine E_ior d_TM_yesTo_31 ?_
      refine E_istore_2 d_TM_yesTo_32 rfl ?_
      first | (with_reducible refine E_isL3 ?_; refine E_iincN3 (m := 1) d_TM_yesTo_33 rfl rfl ?_) | refine E_iinc_3 d_TM_yesTo_33 rfl rfl ?_
      refine E_goto 4 d_TM_yesTo_36 rfl ?_
      first | (rw [bset_or1 (fun p => isYes c c.now (ruler c) p f) p (by assumption)]; exact ih (p + 1) (by omega) _ (hM.sy hS1) (hS.tr hS1)) | (rw [Nat.or_zero, bset_or0 (fun p => isYes c c.now (ruler c) p f) p (by assumption)]; exact ih (p + 1) (by omega) _ (hM.sy hS1) (hS.tr hS1))
theorem sp_TM_yesTo {c : Cr} {M : Mem} (hM : HM c M) {f : Nat} (hf : f ≤ 8) : E 5 0 0 Y_TM_yesTo 0 [some (.ref 0), some (.int (nI f)), none, none] [] GM M (QI GM fun r M' => r = nI (yesTo c c.now (ruler c) f) ∧ Sx SY M M') := by
  refine E_iconst (v := nI 0) d_TM_yesTo_0 rfl ?_
  refine E_istore_2 d_TM_yesTo_1 rfl ?_
  refine E_iconst (v := nI 0) d_TM_yesTo_2 rfl ?_
  refine E_istore_3 d_TM_yesTo_3 rfl ?_
  exact lp_TM_yesTo hf c.now.people 0 (by omega) M hM Sx.rf
theorem sp_TM_comesOf {c : Cr} {M : Mem} (hM : HM c M) {f : Nat} (hf : f ≤ 8) : E 6 0 0 Y_TM_comesOf 0 [some (.ref 0), some (.int (nI f))] [] GM M (QI GM fun r M' => r = nI (cm c f) ∧ Sx SY M M') := by
  have hp8 := hM.w.p8
  first | refine E_aload_n d_TM_comesOf_0 rfl ?_ | refine E_aload_nN d_TM_comesOf_0 rfl ?_
  refine E_iload_n d_TM_comesOf_1 rfl ?_
  refine E_V1 (sp_TM_yesTo hM hf) d_TM_comesOf_2 ml_TM_347 cb_TM_yesTo cv_TM_yesTo (by exact ⟨by decide, rfl⟩) ⟨by decide, rfl⟩ ⟨by decide, by decide⟩ rfl (Nat.le_of_ble_eq_true rfl) (Nat.le_of_ble_eq_true rfl) (kI fun r1 M1 hc => ?_)
  obtain ⟨rfl, hS1⟩ := hc
  refine E_S1 (sp_TM_bits _ (bset_lt512 _ (by omega))) d_TM_comesOf_5 ml_TM_267 cb_TM_bits cs_TM_bits ⟨by decide, by decide⟩ rfl (Nat.le_of_ble_eq_true rfl) (Nat.le_of_ble_eq_true rfl) (kI fun r1 M1 hc => ?_)
  obtain ⟨rfl, rfl⟩ := hc
  refine E_retI d_TM_comesOf_8 rfl ?_
  exact ⟨rfl, hS1⟩
theorem sp_TM_comes {c : Cr} {M : Mem} (hM : HM c M) (x : Int32) : E 7 0 0 Y_TM_comes 0 [some (.ref 0), some (.int x)] [] GM M (QI GM fun r M' => r = ans_comes c x ∧ Sx SY M M') := by
  have hp8 := hM.w.p8
  revert x
  refine args1 (c.now.people + 1) (fun k hk hx ht => ?_) (fun x hx => ?_)
  · first | refine E_aload_n d_TM_comes_0 rfl ?_ | refine E_aload_nN d_TM_comes_0 rfl ?_
    refine E_iload_n d_TM_comes_1 rfl ?_
    refine E_V1 (sp_TM_canBeTold hM.R hM.A hM.w _) d_TM_comes_2 ml_TM_311 cb_TM_canBeTold cv_TM_canBeTold (by exact ⟨by decide, rfl⟩) ⟨by decide, rfl⟩ ⟨by decide, by decide⟩ rfl (Nat.le_of_ble_eq_true rfl) (Nat.le_of_ble_eq_true rfl) (kI fun r1 M1 hc => ?_)
    obtain ⟨rfl, rfl⟩ := hc
    first | (with_reducible refine E_isP ?_; refine E_if_eq 16 d_TM_comes_5 rfl (pb_0 fun h5 => ?_) (pb_1 fun h5 => ?_)) | (with_reducible refine E_isN1 ?_; refine E_if_eq 16 d_TM_comes_5 rfl (nz_eq (by omega) fun h5 => ?_) (nz_ne fun h5 => ?_)) | refine E_if_eq 16 d_TM_comes_5 rfl (fun h5 => ?_) (fun h5 => ?_)
    · exfalso; exact h5 hx
    first | refine E_aload_n d_TM_comes_8 rfl ?_ | refine E_aload_nN d_TM_comes_8 rfl ?_
    refine E_iload_n d_TM_comes_9 rfl ?_
    refine E_V1 (sp_TM_comesOf hM (by omega)) d_TM_comes_10 ml_TM_350 cb_TM_comesOf cv_TM_comesOf (by exact ⟨by decide, rfl⟩) ⟨by decide, rfl⟩ ⟨by decide, by decide⟩ rfl (Nat.le_of_ble_eq_true rfl) (Nat.le_of_ble_eq_true rfl) (kI fun r1 M1 hc => ?_)
    obtain ⟨rfl, hS1⟩ := hc
    refine E_goto 17 d_TM_comes_13 rfl ?_
    refine E_retI d_TM_comes_17 rfl ?_
    exact ⟨by rw [ans_comes, if_pos hx, ht], hS1⟩
  · first | refine E_aload_n d_TM_comes_0 rfl ?_ | refine E_aload_nN d_TM_comes_0 rfl ?_
    refine E_iload_n d_TM_comes_1 rfl ?_
    refine E_V1 (sp_TM_canBeTold hM.R hM.A hM.w _) d_TM_comes_2 ml_TM_311 cb_TM_canBeTold cv_TM_canBeTold (by exact ⟨by decide, rfl⟩) ⟨by decide, rfl⟩ ⟨by decide, by decide⟩ rfl (Nat.le_of_ble_eq_true rfl) (Nat.le_of_ble_eq_true rfl) (kI fun r1 M1 hc => ?_)
    obtain ⟨rfl, rfl⟩ := hc
    first | (with_reducible refine E_isP ?_; refine E_if_eq 16 d_TM_comes_5 rfl (pb_0 fun h5 => ?_) (pb_1 fun h5 => ?_)) | (with_reducible refine E_isN1 ?_; refine E_if_eq 16 d_TM_comes_5 rfl (nz_eq (by omega) fun h5 => ?_) (nz_ne fun h5 => ?_)) | refine E_if_eq 16 d_TM_comes_5 rfl (fun h5 => ?_) (fun h5 => ?_)
    rotate_left
    · exfalso; exact hx h5
    refine E_iconst (v := (-1)) d_TM_comes_16 rfl ?_
    refine E_retI d_TM_comes_17 rfl ?_
    exact ⟨by rw [ans_comes, if_neg hx], Sx.rf⟩
