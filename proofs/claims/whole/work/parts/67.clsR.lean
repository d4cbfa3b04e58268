theorem out_gt {x : Int32} {n : Nat} (hn : n < 1000000) (h : ¬ inN x (n + 1)) : ¬ x < 0 → ¬ nI n < x → False := fun a b => h (by rw [lt_toInt] at a; rw [lt_toInt, nI_toInt (by omega)] at b; have := z32; unfold inN; omega)
theorem out_le {x : Int32} {n : Nat} (hn : n < 1000000) (h : ¬ inN x (n + 1)) : ¬ x < 0 → x ≤ nI n → False := fun a b => out_gt hn h a (Int32.not_lt.mpr b)
theorem out_ge {x : Int32} {n : Nat} (hn : n < 1000000) (h : ¬ inN x n) : ¬ x < 0 → ¬ nI n ≤ x → False := fun a b => h (by rw [lt_toInt] at a; rw [le_toInt, nI_toInt (by omega)] at b; have := z32; unfold inN; omega)
theorem out_lt {x : Int32} {n : Nat} (hn : n < 1000000) (h : ¬ inN x n) : ¬ x < 0 → x < nI n → False := fun a b => out_ge hn h a (fun q => absurd b (Int32.not_lt.mpr q))
theorem SG.q {a : Nat} (h : SG a) : CQ a := by unfold SG at h; unfold CQ; omega
section TPa
variable {c : Cr} {G : Geo} {M : Mem}
theorem sp_TP_comes (hC : CM c G M) (x : Int32) : E 6 0 0 Y_TP_comes 0 [some (.ref 0), some (.int x)] [] G M (QI G fun r M' => r = ans_comes c x ∧ Sc CQ M M') := by
  have hG := hC.G
  have hp8 := hC.w.p8
  revert x
  refine args1 (c.now.people + 1) (fun f hf hx ht => ?_) (fun x hx => ?_)
  · first | refine E_aload_n d_TP_comes_0 rfl ?_ | refine E_aload_nN d_TP_comes_0 rfl ?_
    refine E_iload_n d_TP_comes_1 rfl ?_
    refine E_V1 (sp_TP_isFigure hC _) d_TP_comes_2 ml_TP_214 cb_TP_isFigure cv_TP_isFigure (by first | exact hG.s (by decide) rfl) ⟨by decide, rfl⟩ ⟨by decide, by decide⟩ rfl (Nat.le_of_ble_eq_true rfl) (Nat.le_of_ble_eq_true rfl) (kI fun r1 M1 hc => ?_)
    obtain ⟨rfl, rfl⟩ := hc
    first | (with_reducible refine E_isP ?_; refine E_if_eq 19 d_TP_comes_5 rfl (pb_0 fun h5 => ?_) (pb_1 fun h5 => ?_)) | (with_reducible refine E_isN1 ?_; refine E_if_eq 19 d_TP_comes_5 rfl (nz_eq (by omega) fun h5 => ?_) (nz_ne fun h5 => ?_)) | refine E_if_eq 19 d_TP_comes_5 rfl (fun h5 => ?_) (fun h5 => ?_)
    · exfalso; exact h5 hx
    first | refine E_aload_n d_TP_comes_8 rfl ?_ | refine E_aload_nN d_TP_comes_8 rfl ?_
    refine E_V0 (sp_TP_look hC) d_TP_comes_9 ml_TP_217 cb_TP_look cv_TP_look (by first | exact hG.s (by decide) rfl) ⟨by decide, rfl⟩ ⟨by decide, by decide⟩ rfl (Nat.le_of_ble_eq_true rfl) (Nat.le_of_ble_eq_true rfl) (kR fun r1 M1 hc => ?_)
    obtain ⟨rfl, hO, hC1, hS1⟩ := hc; have hM := OM.of hC1 hO; have hS := hS1.wk (P' := CQ) (fun _ => SO.q)
    refine E_iload_n d_TP_comes_12 rfl ?_
    refine E_V1 (sp_Ou_comesOf hM (by omega)) d_TP_comes_13 ml_TP_221 cb_Ou_comesOf cv_Ou_comesOf (by first | exact hG.s (by decide) rfl) ⟨by decide, rfl⟩ ⟨by decide, by decide⟩ rfl (Nat.le_of_ble_eq_true rfl) (Nat.le_of_ble_eq_true rfl) (kI fun r1 M1 hc => ?_)
    obtain ⟨rfl, rfl⟩ := hc
    refine E_goto 20 d_TP_comes_16 rfl ?_
    refine E_retI d_TP_comes_20 rfl ?_
    exact ⟨by rw [ans_comes, if_pos hx, ht], hS⟩
  · first | refine E_aload_n d_TP_comes_0 rfl ?_ | refine E_aload_nN d_TP_comes_0 rfl ?_
    refine E_iload_n d_TP_comes_1 rfl ?_
    refine E_V1 (sp_TP_isFigure hC _) d_TP_comes_2 ml_TP_214 cb_TP_isFigure cv_TP_isFigure (by first | exact hG.s (by decide) rfl) ⟨by decide, rfl⟩ ⟨by decide, by decide⟩ rfl (Nat.le_of_ble_eq_true rfl) (Nat.le_of_ble_eq_true rfl) (kI fun r1 M1 hc => ?_)
    obtain ⟨rfl, rfl⟩ := hc
    first | (with_reducible refine E_isP ?_; refine E_if_eq 19 d_TP_comes_5 rfl (pb_0 fun h5 => ?_) (pb_1 fun h5 => ?_)) | (with_reducible refine E_isN1 ?_; refine E_if_eq 19 d_TP_comes_5 rfl (nz_eq (by omega) fun h5 => ?_) (nz_ne fun h5 => ?_)) | refine E_if_eq 19 d_TP_comes_5 rfl (fun h5 => ?_) (fun h5 => ?_)
    rotate_left
    · exfalso; exact hx h5
    refine E_iconst (v := (-1)) d_TP_comes_19 rfl ?_
    refine E_retI d_TP_comes_20 rfl ?_
    exact ⟨by rw [ans_comes, if_neg hx], Sc.rf⟩
theorem sp_TP_trues (hC : CM c G M) : E 6 0 0 Y_TP_trues 0 [some (.ref 0)] [] G M (QI G fun r M' => r = ans_trues c ∧ Sc CQ M M') := by
  have hG := hC.G
  first | refine E_aload_n d_TP_trues_0 rfl ?_ | refine E_aload_nN d_TP_trues_0 rfl ?_
  refine E_V0 (sp_TP_look hC) d_TP_trues_1 ml_TP_217 cb_TP_look cv_TP_look (by first | exact hG.s (by decide) rfl) ⟨by decide, rfl⟩ ⟨by decide, by decide⟩ rfl (Nat.le_of_ble_eq_true rfl) (Nat.le_of_ble_eq_true rfl) (kR fun r1 M1 hc => ?_)
  obtain ⟨rfl, hO, hC1, hS1⟩ := hc; have hM := OM.of hC1 hO; have hS := hS1.wk (P' := CQ) (fun _ => SO.q)
  refine E_V0 (sp_Ou_trueBits hM) d_TP_trues_4 ml_TP_225 cb_Ou_trueBits cv_Ou_trueBits (by first | exact hG.s (by decide) rfl) ⟨by decide, rfl⟩ ⟨by decide, by decide⟩ rfl (Nat.le_of_ble_eq_true rfl) (Nat.le_of_ble_eq_true rfl) (kI fun r1 M1 hc => ?_)
  obtain ⟨rfl, rfl⟩ := hc
  refine E_retI d_TP_trues_7 rfl ?_
  exact ⟨rfl, hS⟩
theorem sp_TP_firm (hC : CM c G M) : E 6 0 0 Y_TP_firm 0 [some (.ref 0)] [] G M (QI G fun r M' => r = ans_firm c ∧ Sc CQ M M') := by
  have hG := hC.G
  first | refine E_aload_n d_TP_firm_0 rfl ?_ | refine E_aload_nN d_TP_firm_0 rfl ?_
  refine E_V0 (sp_TP_look hC) d_TP_firm_1 ml_TP_217 cb_TP_look cv_TP_look (by first | exact hG.s (by decide) rfl) ⟨by decide, rfl⟩ ⟨by decide, by decide⟩ rfl (Nat.le_of_ble_eq_true rfl) (Nat.le_of_ble_eq_true rfl) (kR fun r1 M1 hc => ?_)
  obtain ⟨rfl, hO, hC1, hS1⟩ := hc; have hM := OM.of hC1 hO; have hS := hS1.wk (P' := CQ) (fun _ => SO.q)
  refine E_V0 (sp_Ou_firmBits hM) d_TP_firm_4 ml_TP_228 cb_Ou_firmBits cv_Ou_firmBits (by first | exact hG.s (by decide) rfl) ⟨by decide, rfl⟩ ⟨by decide, by decide⟩ rfl (Nat.le_of_ble_eq_true rfl) (Nat.le_of_ble_eq_true rfl) (kI fun r1 M1 hc => ?_)
  obtain ⟨rfl, rfl⟩ := hc
  refine E_retI d_TP_firm_7 rfl ?_
  exact ⟨rfl, hS⟩
theorem sp_TP_ends (hC : CM c G M) (x z : Int32) : E 6 0 0 Y_TP_ends 0 [some (.ref 0), some (.int x), some (.int z)] [] G M (QI G fun r M' => r = ans_ends c x z ∧ Sc CQ M M') := by
  have hG := hC.G
  have hp8 := hC.w.p8
  revert x
  refine args1 (c.now.people + 1) (fun f hf hx ht => ?_) (fun x hx => ?_)
  · rw [ans_ends, if_pos hx, ht]
    first | refine E_aload_n d_TP_ends_0 rfl ?_ | refine E_aload_nN d_TP_ends_0 rfl ?_
    refine E_iload_n d_TP_ends_1 rfl ?_
    refine E_V1 (sp_TP_isFigure hC _) d_TP_ends_2 ml_TP_214 cb_TP_isFigure cv_TP_isFigure (by first | exact hG.s (by decide) rfl) ⟨by decide, rfl⟩ ⟨by decide, by decide⟩ rfl (Nat.le_of_ble_eq_true rfl) (Nat.le_of_ble_eq_true rfl) (kI fun r1 M1 hc => ?_)
    obtain ⟨rfl, rfl⟩ := hc
    first | (with_reducible refine E_isP ?_; refine E_if_ne 10 d_TP_ends_5 rfl (pb_1 fun h5 => ?_) (pb_0 fun h5 => ?_)) | (with_reducible refine E_isN1 ?_; refine E_if_ne 10 d_TP_ends_5 rfl (nz_ne fun h5 => ?_) (nz_eq (by omega) fun h5 => ?_)) | refine E_if_ne 10 d_TP_ends_5 rfl (fun h5 => ?_) (fun h5 => ?_)
    rotate_left
    · exfalso; exact h5 hx
    refine E_iload_n d_TP_ends_10 rfl ?_
    first | (with_reducible refine E_isP ?_; refine E_if_eq 25 d_TP_ends_11 rfl (pb_0 fun h11 => ?_) (pb_1 fun h11 => ?_)) | (with_reducible refine E_isN1 ?_; refine E_if_eq 25 d_TP_ends_11 rfl (nz_eq (by omega) fun h11 => ?_) (nz_ne fun h11 => ?_)) | refine E_if_eq 25 d_TP_ends_11 rfl (fun h11 => ?_) (fun h11 => ?_)
    · first | refine E_aload_n d_TP_ends_25 rfl ?_ | refine E_aload_nN d_TP_ends_25 rfl ?_
      refine E_V0 (sp_TP_look hC) d_TP_ends_26 ml_TP_217 cb_TP_look cv_TP_look (by first | exact hG.s (by decide) rfl) ⟨by decide, rfl⟩ ⟨by decide, by decide⟩ rfl (Nat.le_of_ble_eq_true rfl) (Nat.le_of_ble_eq_true rfl) (kR fun r1 M1 hc => ?_)
      obtain ⟨rfl, hO, hC1, hS1⟩ := hc; have hM := OM.of hC1 hO; have hS := hS1.wk (P' := CQ) (fun _ => SO.q)
      refine E_iload_n d_TP_ends_29 rfl ?_
      refine E_V1 (sp_Ou_ringLowest hM (by omega)) d_TP_ends_30 ml_TP_234 cb_Ou_ringLowest cv_Ou_ringLowest (by first | exact hG.s (by decide) rfl) ⟨by decide, rfl⟩ ⟨by decide, by decide⟩ rfl (Nat.le_of_ble_eq_true rfl) (Nat.le_of_ble_eq_true rfl) (kI fun r1 M1 hc => ?_)
      obtain ⟨rfl, rfl⟩ := hc
      refine E_retI d_TP_ends_33 rfl ?_
      first | exact ⟨by rw [if_pos h11], hS⟩ | exact ⟨by rw [if_neg h11], hS⟩
    · first | refine E_aload_n d_TP_ends_14 rfl ?_ | refine E_aload_nN d_TP_ends_14 rfl ?_
      refine E_V0 (sp_TP_look hC) d_TP_ends_15 ml_TP_217 cb_TP_look cv_TP_look (by first | exact hG.s (by decide) rfl) ⟨by decide, rfl⟩ ⟨by decide, by decide⟩ rfl (Nat.le_of_ble_eq_true rfl) (Nat.le_of_ble_eq_true rfl) (kR fun r1 M1 hc => ?_)
      obtain ⟨rfl, hO, hC1, hS1⟩ := hc; have hM := OM.of hC1 hO; have hS := hS1.wk (P' := CQ) (fun _ => SO.q)
      refine E_iload_n d_TP_ends_18 rfl ?_
      refine E_V1 (sp_Ou_ringSize hM (by omega)) d_TP_ends_19 ml_TP_231 cb_Ou_ringSize cv_Ou_ringSize (by first | exact hG.s (by decide) rfl) ⟨by decide, rfl⟩ ⟨by decide, by decide⟩ rfl (Nat.le_of_ble_eq_true rfl) (Nat.le_of_ble_eq_true rfl) (kI fun r1 M1 hc => ?_)
      obtain ⟨rfl, rfl⟩ := hc
      refine E_goto 33 d_TP_ends_22 rfl ?_
      refine E_retI d_TP_ends_33 rfl ?_
      first | exact ⟨by rw [if_pos h11], hS⟩ | exact ⟨by rw [if_neg h11], hS⟩
  · first | refine E_aload_n d_TP_ends_0 rfl ?_ | refine E_aload_nN d_TP_ends_0 rfl ?_
    refine E_iload_n d_TP_ends_1 rfl ?_
    refine E_V1 (sp_TP_isFigure hC _) d_TP_ends_2 ml_TP_214 cb_TP_isFigure cv_TP_isFigure (by first | exact hG.s (by decide) rfl) ⟨by decide, rfl⟩ ⟨by decide, by decide⟩ rfl (Nat.le_of_ble_eq_true rfl) (Nat.le_of_ble_eq_true rfl) (kI fun r1 M1 hc => ?_)
    obtain ⟨rfl, rfl⟩ := hc
    first | (with_reducible refine E_isP ?_; refine E_if_ne 10 d_TP_ends_5 rfl (pb_1 fun h5 => ?_) (pb_0 fun h5 => ?_)) | (with_reducible refine E_isN1 ?_; refine E_if_ne 10 d_TP_ends_5 rfl (nz_ne fun h5 => ?_) (nz_eq (by omega) fun h5 => ?_)) | refine E_if_ne 10 d_TP_ends_5 rfl (fun h5 => ?_) (fun h5 => ?_)
    · exfalso; exact hx h5
    refine E_iconst (v := (-1)) d_TP_ends_8 rfl ?_
    refine E_retI d_TP_ends_9 rfl ?_
    exact ⟨by rw [ans_ends, if_neg hx], Sc.rf⟩
theorem sp_TP_till (hC : CM c G M) (x : Int32) : E 6 0 0 Y_TP_till 0 [some (.ref 0), some (.int x)] [] G M (QI G fun r M' => r = ans_till c x ∧ Sc CQ M M') := by
  have hG := hC.G
  have hp8 := hC.w.p8
  revert x
  refine args1 (c.now.people + 1) (fun f hf hx ht => ?_) (fun x hx => ?_)
  · first | refine E_aload_n d_TP_till_0 rfl ?_ | refine E_aload_nN d_TP_till_0 rfl ?_
    refine E_iload_n d_TP_till_1 rfl ?_
    refine E_V1 (sp_TP_isFigure hC _) d_TP_till_2 ml_TP_214 cb_TP_isFigure cv_TP_isFigure (by first | exact hG.s (by decide) rfl) ⟨by decide, rfl⟩ ⟨by decide, by decide⟩ rfl (Nat.le_of_ble_eq_true rfl) (Nat.le_of_ble_eq_true rfl) (kI fun r1 M1 hc => ?_)
    obtain ⟨rfl, rfl⟩ := hc
    first | (with_reducible refine E_isP ?_; refine E_if_eq 19 d_TP_till_5 rfl (pb_0 fun h5 => ?_) (pb_1 fun h5 => ?_)) | (with_reducible refine E_isN1 ?_; refine E_if_eq 19 d_TP_till_5 rfl (nz_eq (by omega) fun h5 => ?_) (nz_ne fun h5 => ?_)) | refine E_if_eq 19 d_TP_till_5 rfl (fun h5 => ?_) (fun h5 => ?_)
    · exfalso; exact h5 hx
    first | refine E_aload_n d_TP_till_8 rfl ?_ | refine E_aload_nN d_TP_till_8 rfl ?_
    refine E_V0 (sp_TP_look hC) d_TP_till_9 ml_TP_217 cb_TP_look cv_TP_look (by first | exact hG.s (by decide) rfl) ⟨by decide, rfl⟩ ⟨by decide, by decide⟩ rfl (Nat.le_of_ble_eq_true rfl) (Nat.le_of_ble_eq_true rfl) (kR fun r1 M1 hc => ?_)
    obtain ⟨rfl, hO, hC1, hS1⟩ := hc; have hM := OM.of hC1 hO; have hS := hS1.wk (P' := CQ) (fun _ => SO.q)
    refine E_iload_n d_TP_till_12 rfl ?_
    refine E_V1 (sp_Ou_tillRing hM (by omega)) d_TP_till_13 ml_TP_237 cb_Ou_tillRing cv_Ou_tillRing (by first | exact hG.s (by decide) rfl) ⟨by decide, rfl⟩ ⟨by decide, by decide⟩ rfl (Nat.le_of_ble_eq_true rfl) (Nat.le_of_ble_eq_true rfl) (kI fun r1 M1 hc => ?_)
    obtain ⟨rfl, rfl⟩ := hc
    refine E_goto 20 d_TP_till_16 rfl ?_
    refine E_retI d_TP_till_20 rfl ?_
    exact ⟨by rw [ans_till, if_pos hx, ht], hS⟩
  · first | refine E_aload_n d_TP_till_0 rfl ?_ | refine E_aload_nN d_TP_till_0 rfl ?_
    refine E_iload_n d_TP_till_1 rfl ?_
    refine E_V1 (sp_TP_isFigure hC _) d_TP_till_2 ml_TP_214 cb_TP_isFigure cv_TP_isFigure (by first | exact hG.s (by decide) rfl) ⟨by decide, rfl⟩ ⟨by decide, by decide⟩ rfl (Nat.le_of_ble_eq_true rfl) (Nat.le_of_ble_eq_true rfl) (kI fun r1 M1 hc => ?_)
    obtain ⟨rfl, rfl⟩ := hc
    first | (with_reducible refine E_isP ?_; refine E_if_eq 19 d_TP_till_5 rfl (pb_0 fun h5 => ?_) (pb_1 fun h5 => ?_)) | (with_reducible refine E_isN1 ?_; refine E_if_eq 19 d_TP_till_5 rfl (nz_eq (by omega) fun h5 => ?_) (nz_ne fun h5 => ?_)) | refine E_if_eq 19 d_TP_till_5 rfl (fun h5 => ?_) (fun h5 => ?_)
    rotate_left
    · exfalso; exact hx h5
    refine E_iconst (v := (-1)) d_TP_till_19 rfl ?_
    refine E_retI d_TP_till_20 rfl ?_
    exact ⟨by rw [ans_till, if_neg hx], Sc.rf⟩
theorem sp_TP_leads (hC : CM c G M) (x : Int32) : E 6 0 0 Y_TP_leads 0 [some (.ref 0), some (.int x)] [] G M (QI G fun r M' => r = ans_leads c x ∧ Sc CQ M M') := by
  have hG := hC.G
  have hp8 := hC.w.p8
  revert x
  refine args1 (c.now.people + 1) (fun f hf hx ht => ?_) (fun x hx => ?_)
  · first | refine E_aload_n d_TP_leads_0 rfl ?_ | refine E_aload_nN d_TP_leads_0 rfl ?_
    refine E_iload_n d_TP_leads_1 rfl ?_
    refine E_V1 (sp_TP_isFigure hC _) d_TP_leads_2 ml_TP_214 cb_TP_isFigure cv_TP_isFigure (by first | exact hG.s (by decide) rfl) ⟨by decide, rfl⟩ ⟨by decide, by decide⟩ rfl (Nat.le_of_ble_eq_true rfl) (Nat.le_of_ble_eq_true rfl) (kI fun r1 M1 hc => ?_)
    obtain ⟨rfl, rfl⟩ := hc
    first | (with_reducible refine E_isP ?_; refine E_if_eq 19 d_TP_leads_5 rfl (pb_0 fun h5 => ?_) (pb_1 fun h5 => ?_)) | (with_reducible refine E_isN1 ?_; refine E_if_eq 19 d_TP_leads_5 rfl (nz_eq (by omega) fun h5 => ?_) (nz_ne fun h5 => ?_)) | refine E_if_eq 19 d_TP_leads_5 rfl (fun h5 => ?_) (fun h5 => ?_)
    · exfalso; exact h5 hx
    first | refine E_aload_n d_TP_leads_8 rfl ?_ | refine E_aload_nN d_TP_leads_8 rfl ?_
    refine E_V0 (sp_TP_look hC) d_TP_leads_9 ml_TP_217 cb_TP_look cv_TP_look (by first | exact hG.s (by decide) rfl) ⟨by decide, rfl⟩ ⟨by decide, by decide⟩ rfl (Nat.le_of_ble_eq_true rfl) (Nat.le_of_ble_eq_true rfl) (kR fun r1 M1 hc => ?_)
    obtain ⟨rfl, hO, hC1, hS1⟩ := hc; have hM := OM.of hC1 hO; have hS := hS1.wk (P' := CQ) (fun _ => SO.q)
    refine E_iload_n d_TP_leads_12 rfl ?_
    refine E_V1 (sp_Ou_leadBits hM (by omega)) d_TP_leads_13 ml_TP_240 cb_Ou_leadBits cv_Ou_leadBits (by first | exact hG.s (by decide) rfl) ⟨by decide, rfl⟩ ⟨by decide, by decide⟩ rfl (Nat.le_of_ble_eq_true rfl) (Nat.le_of_ble_eq_true rfl) (kI fun r1 M1 hc => ?_)
    obtain ⟨rfl, rfl⟩ := hc
    refine E_goto 20 d_TP_leads_16 rfl ?_
    refine E_retI d_TP_leads_20 rfl ?_
    exact ⟨by rw [ans_leads, if_pos hx, ht], hS⟩
  · first | refine E_aload_n d_TP_leads_0 rfl ?_ | refine E_aload_nN d_TP_leads_0 rfl ?_
    refine E_iload_n d_TP_leads_1 rfl ?_
    refine E_V1 (sp_TP_isFigure hC _) d_TP_leads_2 ml_TP_214 cb_TP_isFigure cv_TP_isFigure (by first | exact hG.s (by decide) rfl) ⟨by decide, rfl⟩ ⟨by decide, by decide⟩ rfl (Nat.le_of_ble_eq_true rfl) (Nat.le_of_ble_eq_true rfl) (kI fun r1 M1 hc => ?_)
    obtain ⟨rfl, rfl⟩ := hc
    first | (with_reducible refine E_isP ?_; refine E_if_eq 19 d_TP_leads_5 rfl (pb_0 fun h5 => ?_) (pb_1 fun h5 => ?_)) | (with_reducible refine E_isN1 ?_; refine E_if_eq 19 d_TP_leads_5 rfl (nz_eq (by omega) fun h5 => ?_) (nz_ne fun h5 => ?_)) | refine E_if_eq 19 d_TP_leads_5 rfl (fun h5 => ?_) (fun h5 => ?_)
    rotate_left
    · exfalso; exact hx h5
    refine E_iconst (v := (-1)) d_TP_leads_19 rfl ?_
    refine E_retI d_TP_leads_20 rfl ?_
    exact ⟨by rw [ans_leads, if_neg hx], Sc.rf⟩
theorem sp_TP_rings (hC : CM c G M) : E 6 0 0 Y_TP_rings 0 [some (.ref 0)] [] G M (QI G fun r M' => r = ans_rings c ∧ Sc CQ M M') := by
  have hG := hC.G
  first | refine E_aload_n d_TP_rings_0 rfl ?_ | refine E_aload_nN d_TP_rings_0 rfl ?_
  refine E_V0 (sp_TP_look hC) d_TP_rings_1 ml_TP_217 cb_TP_look cv_TP_look (by first | exact hG.s (by decide) rfl) ⟨by decide, rfl⟩ ⟨by decide, by decide⟩ rfl (Nat.le_of_ble_eq_true rfl) (Nat.le_of_ble_eq_true rfl) (kR fun r1 M1 hc => ?_)
  obtain ⟨rfl, hO, hC1, hS1⟩ := hc; have hM := OM.of hC1 hO; have hS := hS1.wk (P' := CQ) (fun _ => SO.q)
  refine E_V0 (sp_Ou_ringCount hM) d_TP_rings_4 ml_TP_243 cb_Ou_ringCount cv_Ou_ringCount (by first | exact hG.s (by decide) rfl) ⟨by decide, rfl⟩ ⟨by decide, by decide⟩ rfl (Nat.le_of_ble_eq_true rfl) (Nat.le_of_ble_eq_true rfl) (kI fun r1 M1 hc => ?_)
  obtain ⟨rfl, rfl⟩ := hc
  refine E_retI d_TP_rings_7 rfl ?_
  exact ⟨rfl, hS⟩
theorem sp_TP_nearest (hC : CM c G M) : E 6 0 0 Y_TP_nearest 0 [some (.ref 0)] [] G M (QI G fun r M' => r = ans_nearest c ∧ Sc CQ M M') := by
  have hG := hC.G
  first | refine E_aload_n d_TP_nearest_0 rfl ?_ | refine E_aload_nN d_TP_nearest_0 rfl ?_
  refine E_V0 (sp_TP_look hC) d_TP_nearest_1 ml_TP_217 cb_TP_look cv_TP_look (by first | exact hG.s (by decide) rfl) ⟨by decide, rfl⟩ ⟨by decide, by decide⟩ rfl (Nat.le_of_ble_eq_true rfl) (Nat.le_of_ble_eq_true rfl) (kR fun r1 M1 hc => ?_)
  obtain ⟨rfl, hO, hC1, hS1⟩ := hc; have hM := OM.of hC1 hO; have hS := hS1.wk (P' := CQ) (fun _ => SO.q)
  refine E_V0 (sp_Ou_nearestFigure hM) d_TP_nearest_4 ml_TP_246 cb_Ou_nearestFigure cv_Ou_nearestFigure (by first | exact hG.s (by decide) rfl) ⟨by decide, rfl⟩ ⟨by decide, by decide⟩ rfl (Nat.le_of_ble_eq_true rfl) (Nat.le_of_ble_eq_true rfl) (kI fun r1 M1 hc => ?_)
  obtain ⟨rfl, rfl⟩ := hc
  refine E_retI d_TP_nearest_7 rfl ?_
  exact ⟨rfl, hS⟩
theorem sp_TP_path (hC : CM c G M) (x y z : Int32) : E 6 0 0 Y_TP_path 0 [some (.ref 0), some (.int x), some (.int y), some (.int z)] [] G M (QI G fun r M' => r = ans_path c x y z ∧ Sc CQ M M') := by
  have hG := hC.G
  have hp8 := hC.w.p8
  by_cases hz : inN z 9
  · obtain ⟨ez, lz⟩ := in_nI hz
    revert x y
    refine args2 (c.now.people + 1) (c.now.people + 1) (fun a b ha hx ht hb hy ht2 => ?_) (fun x y hx => ?_) (fun x y hx hy => ?_)
    · rw [ans_path, if_pos ⟨hx, hy, hz⟩, ht, ht2]
      revert hz
      rw [ez]
      generalize tN z = k at lz ⊢
      rw [tN_nI (show k < 2147483648 by omega)]
      intro hz
      first | refine E_aload_n d_TP_path_0 rfl ?_ | refine E_aload_nN d_TP_path_0 rfl ?_
      refine E_iload_n d_TP_path_1 rfl ?_
      refine E_V1 (sp_TP_isFigure hC _) d_TP_path_2 ml_TP_214 cb_TP_isFigure cv_TP_isFigure (by first | exact hG.s (by decide) rfl) ⟨by decide, rfl⟩ ⟨by decide, by decide⟩ rfl (Nat.le_of_ble_eq_true rfl) (Nat.le_of_ble_eq_true rfl) (kI fun r1 M1 hc => ?_)
      obtain ⟨rfl, rfl⟩ := hc
      first | (with_reducible refine E_isP ?_; refine E_if_eq 26 d_TP_path_5 rfl (pb_0 fun h5 => ?_) (pb_1 fun h5 => ?_)) | (with_reducible refine E_isN1 ?_; refine E_if_eq 26 d_TP_path_5 rfl (nz_eq (by omega) fun h5 => ?_) (nz_ne fun h5 => ?_)) | refine E_if_eq 26 d_TP_path_5 rfl (fun h5 => ?_) (fun h5 => ?_)
      · exfalso; exact h5 hx
      first | refine E_aload_n d_TP_path_8 rfl ?_ | refine E_aload_nN d_TP_path_8 rfl ?_
      refine E_iload_n d_TP_path_9 rfl ?_
      refine E_V1 (sp_TP_isFigure hC _) d_TP_path_10 ml_TP_214 cb_TP_isFigure cv_TP_isFigure (by first | exact hG.s (by decide) rfl) ⟨by decide, rfl⟩ ⟨by decide, by decide⟩ rfl (Nat.le_of_ble_eq_true rfl) (Nat.le_of_ble_eq_true rfl) (kI fun r1 M1 hc => ?_)
      obtain ⟨rfl, rfl⟩ := hc
      first | (with_reducible refine E_isP ?_; refine E_if_eq 26 d_TP_path_13 rfl (pb_0 fun h13 => ?_) (pb_1 fun h13 => ?_)) | (with_reducible refine E_isN1 ?_; refine E_if_eq 26 d_TP_path_13 rfl (nz_eq (by omega) fun h13 => ?_) (nz_ne fun h13 => ?_)) | refine E_if_eq 26 d_TP_path_13 rfl (fun h13 => ?_) (fun h13 => ?_)
      · exfalso; exact h13 hy
      refine E_iload_n d_TP_path_16 rfl ?_
      first | (with_reducible refine E_isN1 ?_; refine E_if_lt 26 d_TP_path_17 rfl (nz_lt (by omega) fun h17 => ?_) (nz_nlt (by omega) fun h17 => ?_)) | refine E_if_lt 26 d_TP_path_17 rfl (fun h17 => ?_) (fun h17 => ?_)
      · exfalso; exact absurd h17 (Nat.not_lt_zero k)
      refine E_iload_n d_TP_path_20 rfl ?_
      refine E_bipush (v := nI 8) d_TP_path_21 (by decide) ?_
      first | (with_reducible refine E_isN2 ?_; refine E_icmp_le 28 d_TP_path_23 rfl (nb_le (by omega) (by omega) fun h23 => ?_) (nb_nle (by omega) (by omega) fun h23 => ?_)) | refine E_icmp_le 28 d_TP_path_23 rfl (fun h23 => ?_) (fun h23 => ?_)
      rotate_left
      · exfalso; omega
      first | refine E_aload_n d_TP_path_28 rfl ?_ | refine E_aload_nN d_TP_path_28 rfl ?_
      refine E_V0 (sp_TP_look hC) d_TP_path_29 ml_TP_217 cb_TP_look cv_TP_look (by first | exact hG.s (by decide) rfl) ⟨by decide, rfl⟩ ⟨by decide, by decide⟩ rfl (Nat.le_of_ble_eq_true rfl) (Nat.le_of_ble_eq_true rfl) (kR fun r1 M1 hc => ?_)
      obtain ⟨rfl, hO, hC1, hS1⟩ := hc; have hM := OM.of hC1 hO; have hS := hS1.wk (P' := CQ) (fun _ => SO.q)
      refine E_iload_n d_TP_path_32 rfl ?_
      refine E_iload_n d_TP_path_33 rfl ?_
      refine E_iload_n d_TP_path_34 rfl ?_
      refine E_V3 (sp_Ou_fewestTellings hM (by omega) (by omega) (by omega)) d_TP_path_35 ml_TP_249 cb_Ou_fewestTellings cv_Ou_fewestTellings (by first | exact hG.s (by decide) rfl) ⟨by decide, rfl⟩ ⟨by decide, by decide⟩ rfl (Nat.le_of_ble_eq_true rfl) (Nat.le_of_ble_eq_true rfl) (kI fun r1 M1 hc => ?_)
      obtain ⟨rfl, rfl⟩ := hc
      refine E_retI d_TP_path_38 rfl ?_
      exact ⟨rfl, hS⟩
    · first | refine E_aload_n d_TP_path_0 rfl ?_ | refine E_aload_nN d_TP_path_0 rfl ?_
      refine E_iload_n d_TP_path_1 rfl ?_
      refine E_V1 (sp_TP_isFigure hC _) d_TP_path_2 ml_TP_214 cb_TP_isFigure cv_TP_isFigure (by first | exact hG.s (by decide) rfl) ⟨by decide, rfl⟩ ⟨by decide, by decide⟩ rfl (Nat.le_of_ble_eq_true rfl) (Nat.le_of_ble_eq_true rfl) (kI fun r1 M1 hc => ?_)
      obtain ⟨rfl, rfl⟩ := hc
      first | (with_reducible refine E_isP ?_; refine E_if_eq 26 d_TP_path_5 rfl (pb_0 fun h5 => ?_) (pb_1 fun h5 => ?_)) | (with_reducible refine E_isN1 ?_; refine E_if_eq 26 d_TP_path_5 rfl (nz_eq (by omega) fun h5 => ?_) (nz_ne fun h5 => ?_)) | refine E_if_eq 26 d_TP_path_5 rfl (fun h5 => ?_) (fun h5 => ?_)
      rotate_left
      · exfalso; exact hx h5
      refine E_iconst (v := (-1)) d_TP_path_26 rfl ?_
      refine E_retI d_TP_path_27 rfl ?_
      exact ⟨by rw [ans_path, if_neg (fun q => hx q.1)], Sc.rf⟩
    · first | refine E_aload_n d_TP_path_0 rfl ?_ | refine E_aload_nN d_TP_path_0 rfl ?_
      refine E_iload_n d_TP_path_1 rfl ?_
      refine E_V1 (sp_TP_isFigure hC _) d_TP_path_2 ml_TP_214 cb_TP_isFigure cv_TP_isFigure (by first | exact hG.s (by decide) rfl) ⟨by decide, rfl⟩ ⟨by decide, by decide⟩ rfl (Nat.le_of_ble_eq_true rfl) (Nat.le_of_ble_eq_true rfl) (kI fun r1 M1 hc => ?_)
      obtain ⟨rfl, rfl⟩ := hc
      first | (with_reducible refine E_isP ?_; refine E_if_eq 26 d_TP_path_5 rfl (pb_0 fun h5 => ?_) (pb_1 fun h5 => ?_)) | (with_reducible refine E_isN1 ?_; refine E_if_eq 26 d_TP_path_5 rfl (nz_eq (by omega) fun h5 => ?_) (nz_ne fun h5 => ?_)) | refine E_if_eq 26 d_TP_path_5 rfl (fun h5 => ?_) (fun h5 => ?_)
      · exfalso; exact h5 hx
      first | refine E_aload_n d_TP_path_8 rfl ?_ | refine E_aload_nN d_TP_path_8 rfl ?_
      refine E_iload_n d_TP_path_9 rfl ?_
      refine E_V1 (sp_TP_isFigure hC _) d_TP_path_10 ml_TP_214 cb_TP_isFigure cv_TP_isFigure (by first | exact hG.s (by decide) rfl) ⟨by decide, rfl⟩ ⟨by decide, by decide⟩ rfl (Nat.le_of_ble_eq_true rfl) (Nat.le_of_ble_eq_true rfl) (kI fun r1 M1 hc => ?_)
      obtain ⟨rfl, rfl⟩ := hc
      first | (with_reducible refine E_isP ?_; refine E_if_eq 26 d_TP_path_13 rfl (pb_0 fun h13 => ?_) (pb_1 fun h13 => ?_)) | (with_reducible refine E_isN1 ?_; refine E_if_eq 26 d_TP_path_13 rfl (nz_eq (by omega) fun h13 => ?_) (nz_ne fun h13 => ?_)) | refine E_if_eq 26 d_TP_path_13 rfl (fun h13 => ?_) (fun h13 => ?_)
      rotate_left
      · exfalso; exact hy h13
      refine E_iconst (v := (-1)) d_TP_path_26 rfl ?_
      refine E_retI d_TP_path_27 rfl ?_
      exact ⟨by rw [ans_path, if_neg (fun q => hy q.2.1)], Sc.rf⟩
  · have ho := out_le (n := 8) (by decide) hz
    first | refine E_aload_n d_TP_path_0 rfl ?_ | refine E_aload_nN d_TP_path_0 rfl ?_
    refine E_iload_n d_TP_path_1 rfl ?_
    refine E_V1 (sp_TP_isFigure hC _) d_TP_path_2 ml_TP_214 cb_TP_isFigure cv_TP_isFigure (by first | exact hG.s (by decide) rfl) ⟨by decide, rfl⟩ ⟨by decide, by decide⟩ rfl (Nat.le_of_ble_eq_true rfl) (Nat.le_of_ble_eq_true rfl) (kI fun r1 M1 hc => ?_)
    obtain ⟨rfl, rfl⟩ := hc
    first | (with_reducible refine E_isP ?_; refine E_if_eq 26 d_TP_path_5 rfl (pb_0 fun h5 => ?_) (pb_1 fun h5 => ?_)) | (with_reducible refine E_isN1 ?_; refine E_if_eq 26 d_TP_path_5 rfl (nz_eq (by omega) fun h5 => ?_) (nz_ne fun h5 => ?_)) | refine E_if_eq 26 d_TP_path_5 rfl (fun h5 => ?_) (fun h5 => ?_)
    · refine E_iconst (v := (-1)) d_TP_path_26 rfl ?_
      refine E_retI d_TP_path_27 rfl ?_
      exact ⟨by rw [ans_path, if_neg (fun q => hz q.2.2)], Sc.rf⟩
    · first | refine E_aload_n d_TP_path_8 rfl ?_ | refine E_aload_nN d_TP_path_8 rfl ?_
      refine E_iload_n d_TP_path_9 rfl ?_
      refine E_V1 (sp_TP_isFigure hC _) d_TP_path_10 ml_TP_214 cb_TP_isFigure cv_TP_isFigure (by first | exact hG.s (by decide) rfl) ⟨by decide, rfl⟩ ⟨by decide, by decide⟩ rfl (Nat.le_of_ble_eq_true rfl) (Nat.le_of_ble_eq_true rfl) (kI fun r1 M1 hc => ?_)
      obtain ⟨rfl, rfl⟩ := hc
      first | (with_reducible refine E_isP ?_; refine E_if_eq 26 d_TP_path_13 rfl (pb_0 fun h13 => ?_) (pb_1 fun h13 => ?_)) | (with_reducible refine E_isN1 ?_; refine E_if_eq 26 d_TP_path_13 rfl (nz_eq (by omega) fun h13 => ?_) (nz_ne fun h13 => ?_)) | refine E_if_eq 26 d_TP_path_13 rfl (fun h13 => ?_) (fun h13 => ?_)
      · refine E_iconst (v := (-1)) d_TP_path_26 rfl ?_
        refine E_retI d_TP_path_27 rfl ?_
        exact ⟨by rw [ans_path, if_neg (fun q => hz q.2.2)], Sc.rf⟩
      · refine E_iload_n d_TP_path_16 rfl ?_
        first | (with_reducible refine E_isN1 ?_; refine E_if_lt 26 d_TP_path_17 rfl (nz_lt (by omega) fun h17 => ?_) (nz_nlt (by omega) fun h17 => ?_)) | refine E_if_lt 26 d_TP_path_17 rfl (fun h17 => ?_) (fun h17 => ?_)
        · refine E_iconst (v := (-1)) d_TP_path_26 rfl ?_
          refine E_retI d_TP_path_27 rfl ?_
          exact ⟨by rw [ans_path, if_neg (fun q => hz q.2.2)], Sc.rf⟩
        · refine E_iload_n d_TP_path_20 rfl ?_
          refine E_bipush (v := nI 8) d_TP_path_21 (by decide) ?_
          first | (with_reducible refine E_isN2 ?_; refine E_icmp_le 28 d_TP_path_23 rfl (nb_le (by omega) (by omega) fun h23 => ?_) (nb_nle (by omega) (by omega) fun h23 => ?_)) | refine E_icmp_le 28 d_TP_path_23 rfl (fun h23 => ?_) (fun h23 => ?_)
          · exfalso; exact ho h17 h23
          refine E_iconst (v := (-1)) d_TP_path_26 rfl ?_
          refine E_retI d_TP_path_27 rfl ?_
          exact ⟨by rw [ans_path, if_neg (fun q => hz q.2.2)], Sc.rf⟩
theorem winN_512 (h : Wf c) (f : Nat) (h0 : winN c f ≠ 0) : winN c f - 1 < 512 := by
  obtain ⟨-, s1⟩ := winA_spec (y := yesN c f) (f := f) (N := 2 ^ c.now.people) (2 ^ c.now.people) 0 (Nat.le_refl _) (fun _ j a b => by omega) (fun h => absurd rfl h)
  have h1 := (s1 h0).2.1
  have h2 := pow2_256 h
  have h3 : winN c f = winA (yesN c f) f (2 ^ c.now.people) 0 := rfl
  omega
theorem sp_TP_win (hC : CM c G M) (x z : Int32) : E 6 0 0 Y_TP_win 0 [some (.ref 0), some (.int x), some (.int z), none] [] G M (QI G fun r M' => r = ans_win c x z ∧ Sc CQ M M') := by
  have hG := hC.G
  have hp8 := hC.w.p8
  have hwf := hC.w
  revert x
  refine args1 (c.now.people + 1) (fun f hf hx ht => ?_) (fun x hx => ?_)
  · rw [ans_win, if_pos hx, ht]
    by_cases h0 : winN c f = 0
    · rw [if_pos h0]
      first | refine E_aload_n d_TP_win_0 rfl ?_ | refine E_aload_nN d_TP_win_0 rfl ?_
      refine E_iload_n d_TP_win_1 rfl ?_
      refine E_V1 (sp_TP_isFigure hC _) d_TP_win_2 ml_TP_214 cb_TP_isFigure cv_TP_isFigure (by first | exact hG.s (by decide) rfl) ⟨by decide, rfl⟩ ⟨by decide, by decide⟩ rfl (Nat.le_of_ble_eq_true rfl) (Nat.le_of_ble_eq_true rfl) (kI fun r1 M1 hc => ?_)
      obtain ⟨rfl, rfl⟩ := hc
      first | (with_reducible refine E_isP ?_; refine E_if_ne 10 d_TP_win_5 rfl (pb_1 fun h5 => ?_) (pb_0 fun h5 => ?_)) | (with_reducible refine E_isN1 ?_; refine E_if_ne 10 d_TP_win_5 rfl (nz_ne fun h5 => ?_) (nz_eq (by omega) fun h5 => ?_)) | refine E_if_ne 10 d_TP_win_5 rfl (fun h5 => ?_) (fun h5 => ?_)
      rotate_left
      · exfalso; exact h5 hx
      first | refine E_aload_n d_TP_win_10 rfl ?_ | refine E_aload_nN d_TP_win_10 rfl ?_
      refine E_V0 (sp_TP_look hC) d_TP_win_11 ml_TP_217 cb_TP_look cv_TP_look (by first | exact hG.s (by decide) rfl) ⟨by decide, rfl⟩ ⟨by decide, by decide⟩ rfl (Nat.le_of_ble_eq_true rfl) (Nat.le_of_ble_eq_true rfl) (kR fun r1 M1 hc => ?_)
      obtain ⟨rfl, hO, hC1, hS1⟩ := hc; have hM := OM.of hC1 hO; have hS := hS1.wk (P' := CQ) (fun _ => SO.q)
      refine E_iload_n d_TP_win_14 rfl ?_
      refine E_V1 (sp_Ou_winners hM (by omega)) d_TP_win_15 ml_TP_253 cb_Ou_winners cv_Ou_winners (by first | exact hG.s (by decide) rfl) ⟨by decide, rfl⟩ ⟨by decide, by decide⟩ rfl (Nat.le_of_ble_eq_true rfl) (Nat.le_of_ble_eq_true rfl) (kI fun r1 M1 hc => ?_)
      obtain ⟨rfl, rfl⟩ := hc; rw [h0, show pM 0 = -1 from rfl]
      refine E_istore_3 d_TP_win_18 rfl ?_
      refine E_iload_n d_TP_win_19 rfl ?_
      refine E_iconst (v := (-1)) d_TP_win_20 rfl ?_
      first | (with_reducible refine E_isN2 ?_; refine E_icmp_eq 28 d_TP_win_21 rfl (nb_eq (by omega) (by omega) fun h21 => ?_) (nb_ne fun h21 => ?_)) | refine E_icmp_eq 28 d_TP_win_21 rfl (fun h21 => ?_) (fun h21 => ?_)
      rotate_left
      · exfalso; exact h21 rfl
      refine E_iload_n d_TP_win_28 rfl ?_
      refine E_goto 36 d_TP_win_29 rfl ?_
      refine E_retI d_TP_win_36 rfl ?_
      exact ⟨rfl, hS⟩
    · rw [if_neg h0]
      have hlt := winN_512 hwf f h0
      have ep : pM (winN c f) = nI (winN c f - 1) := pM_pred (by omega)
      first | refine E_aload_n d_TP_win_0 rfl ?_ | refine E_aload_nN d_TP_win_0 rfl ?_
      refine E_iload_n d_TP_win_1 rfl ?_
      refine E_V1 (sp_TP_isFigure hC _) d_TP_win_2 ml_TP_214 cb_TP_isFigure cv_TP_isFigure (by first | exact hG.s (by decide) rfl) ⟨by decide, rfl⟩ ⟨by decide, by decide⟩ rfl (Nat.le_of_ble_eq_true rfl) (Nat.le_of_ble_eq_true rfl) (kI fun r1 M1 hc => ?_)
      obtain ⟨rfl, rfl⟩ := hc
      first | (with_reducible refine E_isP ?_; refine E_if_ne 10 d_TP_win_5 rfl (pb_1 fun h5 => ?_) (pb_0 fun h5 => ?_)) | (with_reducible refine E_isN1 ?_; refine E_if_ne 10 d_TP_win_5 rfl (nz_ne fun h5 => ?_) (nz_eq (by omega) fun h5 => ?_)) | refine E_if_ne 10 d_TP_win_5 rfl (fun h5 => ?_) (fun h5 => ?_)
      rotate_left
      · exfalso; exact h5 hx
      first | refine E_aload_n d_TP_win_10 rfl ?_ | refine E_aload_nN d_TP_win_10 rfl ?_
      refine E_V0 (sp_TP_look hC) d_TP_win_11 ml_TP_217 cb_TP_look cv_TP_look (by first | exact hG.s (by decide) rfl) ⟨by decide, rfl⟩ ⟨by decide, by decide⟩ rfl (Nat.le_of_ble_eq_true rfl) (Nat.le_of_ble_eq_true rfl) (kR fun r1 M1 hc => ?_)
      obtain ⟨rfl, hO, hC1, hS1⟩ := hc; have hM := OM.of hC1 hO; have hS := hS1.wk (P' := CQ) (fun _ => SO.q)
      refine E_iload_n d_TP_win_14 rfl ?_
      refine E_V1 (sp_Ou_winners hM (by omega)) d_TP_win_15 ml_TP_253 cb_Ou_winners cv_Ou_winners (by first | exact hG.s (by decide) rfl) ⟨by decide, rfl⟩ ⟨by decide, by decide⟩ rfl (Nat.le_of_ble_eq_true rfl) (Nat.le_of_ble_eq_true rfl) (kI fun r1 M1 hc => ?_)
      obtain ⟨rfl, rfl⟩ := hc; rw [ep]
      refine E_istore_3 d_TP_win_18 rfl ?_
      refine E_iload_n d_TP_win_19 rfl ?_
      refine E_iconst (v := (-1)) d_TP_win_20 rfl ?_
      first | (with_reducible refine E_isN2 ?_; refine E_icmp_eq 28 d_TP_win_21 rfl (nb_eq (by omega) (by omega) fun h21 => ?_) (nb_ne fun h21 => ?_)) | refine E_icmp_eq 28 d_TP_win_21 rfl (fun h21 => ?_) (fun h21 => ?_)
      · exfalso; exact nI_nm1 (by omega) h21
      refine E_iload_n d_TP_win_24 rfl ?_
      first | (with_reducible refine E_isP ?_; refine E_if_ne 32 d_TP_win_25 rfl (pb_1 fun h25 => ?_) (pb_0 fun h25 => ?_)) | (with_reducible refine E_isN1 ?_; refine E_if_ne 32 d_TP_win_25 rfl (nz_ne fun h25 => ?_) (nz_eq (by omega) fun h25 => ?_)) | refine E_if_ne 32 d_TP_win_25 rfl (fun h25 => ?_) (fun h25 => ?_)
      · refine E_iload_n d_TP_win_32 rfl ?_
        refine E_S1 (sp_JI_bitCount hlt) d_TP_win_33 ml_TP_256 cb_JI_bitCount cs_JI_bitCount ⟨by decide, by decide⟩ rfl (Nat.le_of_ble_eq_true rfl) (Nat.le_of_ble_eq_true rfl) (kI fun r1 M1 hc => ?_)
        obtain ⟨rfl, rfl⟩ := hc
        refine E_retI d_TP_win_36 rfl ?_
        first | exact ⟨by rw [if_pos h25], hS⟩ | exact ⟨by rw [if_neg h25], hS⟩
      · refine E_iload_n d_TP_win_28 rfl ?_
        refine E_goto 36 d_TP_win_29 rfl ?_
        refine E_retI d_TP_win_36 rfl ?_
        first | exact ⟨by rw [if_pos h25], hS⟩ | exact ⟨by rw [if_neg h25], hS⟩
  · first | refine E_aload_n d_TP_win_0 rfl ?_ | refine E_aload_nN d_TP_win_0 rfl ?_
    refine E_iload_n d_TP_win_1 rfl ?_
    refine E_V1 (sp_TP_isFigure hC _) d_TP_win_2 ml_TP_214 cb_TP_isFigure cv_TP_isFigure (by first | exact hG.s (by decide) rfl) ⟨by decide, rfl⟩ ⟨by decide, by decide⟩ rfl (Nat.le_of_ble_eq_true rfl) (Nat.le_of_ble_eq_true rfl) (kI fun r1 M1 hc => ?_)
    obtain ⟨rfl, rfl⟩ := hc
    first | (with_reducible refine E_isP ?_; refine E_if_ne 10 d_TP_win_5 rfl (pb_1 fun h5 => ?_) (pb_0 fun h5 => ?_)) | (with_reducible refine E_isN1 ?_; refine E_if_ne 10 d_TP_win_5 rfl (nz_ne fun h5 => ?_) (nz_eq (by omega) fun h5 => ?_)) | refine E_if_ne 10 d_TP_win_5 rfl (fun h5 => ?_) (fun h5 => ?_)
    · exfalso; exact hx h5
    refine E_iconst (v := (-1)) d_TP_win_8 rfl ?_
    refine E_retI d_TP_win_9 rfl ?_
    exact ⟨by rw [ans_win, if_neg hx], Sc.rf⟩
theorem sp_TP_two (hC : CM c G M) (x y z : Int32) : E 6 0 0 Y_TP_two 0 [some (.ref 0), some (.int x), some (.int y), some (.int z)] [] G M (QI G fun r M' => r = ans_two c x y z ∧ Sc CQ M M') := by
  have hG := hC.G
  have hp8 := hC.w.p8
  revert x y
  refine args2 (c.now.people + 1) (c.now.people + 1) (fun a b ha hx ht hb hy ht2 => ?_) (fun x y hx => ?_) (fun x y hx hy => ?_)
  · revert z
    refine args1 3 (fun k hk hz htz => ?_) (fun z hz => ?_)
    · rw [ans_two, if_pos ⟨hx, hy, hz⟩, ht, ht2]
      rcases (show k = 0 ∨ k = 1 ∨ k = 2 by omega) with rfl | rfl | rfl
      · first | refine E_aload_n d_TP_two_0 rfl ?_ | refine E_aload_nN d_TP_two_0 rfl ?_
        refine E_iload_n d_TP_two_1 rfl ?_
        refine E_V1 (sp_TP_isFigure hC _) d_TP_two_2 ml_TP_214 cb_TP_isFigure cv_TP_isFigure (by first | exact hG.s (by decide) rfl) ⟨by decide, rfl⟩ ⟨by decide, by decide⟩ rfl (Nat.le_of_ble_eq_true rfl) (Nat.le_of_ble_eq_true rfl) (kI fun r1 M1 hc => ?_)
        obtain ⟨rfl, rfl⟩ := hc
        first | (with_reducible refine E_isP ?_; refine E_if_eq 16 d_TP_two_5 rfl (pb_0 fun h5 => ?_) (pb_1 fun h5 => ?_)) | (with_reducible refine E_isN1 ?_; refine E_if_eq 16 d_TP_two_5 rfl (nz_eq (by omega) fun h5 => ?_) (nz_ne fun h5 => ?_)) | refine E_if_eq 16 d_TP_two_5 rfl (fun h5 => ?_) (fun h5 => ?_)
        · exfalso; exact h5 hx
        first | refine E_aload_n d_TP_two_8 rfl ?_ | refine E_aload_nN d_TP_two_8 rfl ?_
        refine E_iload_n d_TP_two_9 rfl ?_
        refine E_V1 (sp_TP_isFigure hC _) d_TP_two_10 ml_TP_214 cb_TP_isFigure cv_TP_isFigure (by first | exact hG.s (by decide) rfl) ⟨by decide, rfl⟩ ⟨by decide, by decide⟩ rfl (Nat.le_of_ble_eq_true rfl) (Nat.le_of_ble_eq_true rfl) (kI fun r1 M1 hc => ?_)
        obtain ⟨rfl, rfl⟩ := hc
        first | (with_reducible refine E_isP ?_; refine E_if_ne 18 d_TP_two_13 rfl (pb_1 fun h13 => ?_) (pb_0 fun h13 => ?_)) | (with_reducible refine E_isN1 ?_; refine E_if_ne 18 d_TP_two_13 rfl (nz_ne fun h13 => ?_) (nz_eq (by omega) fun h13 => ?_)) | refine E_if_ne 18 d_TP_two_13 rfl (fun h13 => ?_) (fun h13 => ?_)
        rotate_left
        · exfalso; exact h13 hy
        refine E_iload_n d_TP_two_18 rfl ?_
        refine E_tableIn 44 d_TP_two_19 (by decide) (by decide) (by first | rfl | decide) rfl ?_
        first | refine E_aload_n d_TP_two_44 rfl ?_ | refine E_aload_nN d_TP_two_44 rfl ?_
        refine E_V0 (sp_TP_look hC) d_TP_two_45 ml_TP_217 cb_TP_look cv_TP_look (by first | exact hG.s (by decide) rfl) ⟨by decide, rfl⟩ ⟨by decide, by decide⟩ rfl (Nat.le_of_ble_eq_true rfl) (Nat.le_of_ble_eq_true rfl) (kR fun r1 M1 hc => ?_)
        obtain ⟨rfl, hO, hC1, hS1⟩ := hc; have hM := OM.of hC1 hO; have hS := hS1.wk (P' := CQ) (fun _ => SO.q)
        refine E_iload_n d_TP_two_48 rfl ?_
        refine E_iload_n d_TP_two_49 rfl ?_
        refine E_iconst (v := nI 0) d_TP_two_50 rfl ?_
        refine E_V3 (sp_Ou_yesOfTwo hM (by omega) (by omega)) d_TP_two_51 ml_TP_261 cb_Ou_yesOfTwo cv_Ou_yesOfTwo (by first | exact hG.s (by decide) rfl) ⟨by decide, rfl⟩ ⟨by decide, by decide⟩ rfl (Nat.le_of_ble_eq_true rfl) (Nat.le_of_ble_eq_true rfl) (kI fun r1 M1 hc => ?_)
        obtain ⟨rfl, rfl⟩ := hc
        refine E_retI d_TP_two_54 rfl ?_
        exact ⟨rfl, hS⟩
      · first | refine E_aload_n d_TP_two_0 rfl ?_ | refine E_aload_nN d_TP_two_0 rfl ?_
        refine E_iload_n d_TP_two_1 rfl ?_
        refine E_V1 (sp_TP_isFigure hC _) d_TP_two_2 ml_TP_214 cb_TP_isFigure cv_TP_isFigure (by first | exact hG.s (by decide) rfl) ⟨by decide, rfl⟩ ⟨by decide, by decide⟩ rfl (Nat.le_of_ble_eq_true rfl) (Nat.le_of_ble_eq_true rfl) (kI fun r1 M1 hc => ?_)
        obtain ⟨rfl, rfl⟩ := hc
        first | (with_reducible refine E_isP ?_; refine E_if_eq 16 d_TP_two_5 rfl (pb_0 fun h5 => ?_) (pb_1 fun h5 => ?_)) | (with_reducible refine E_isN1 ?_; refine E_if_eq 16 d_TP_two_5 rfl (nz_eq (by omega) fun h5 => ?_) (nz_ne fun h5 => ?_)) | refine E_if_eq 16 d_TP_two_5 rfl (fun h5 => ?_) (fun h5 => ?_)
        · exfalso; exact h5 hx
        first | refine E_aload_n d_TP_two_8 rfl ?_ | refine E_aload_nN d_TP_two_8 rfl ?_
        refine E_iload_n d_TP_two_9 rfl ?_
        refine E_V1 (sp_TP_isFigure hC _) d_TP_two_10 ml_TP_214 cb_TP_isFigure cv_TP_isFigure (by first | exact hG.s (by decide) rfl) ⟨by decide, rfl⟩ ⟨by decide, by decide⟩ rfl (Nat.le_of_ble_eq_true rfl) (Nat.le_of_ble_eq_true rfl) (kI fun r1 M1 hc => ?_)
        obtain ⟨rfl, rfl⟩ := hc
        first | (with_reducible refine E_isP ?_; refine E_if_ne 18 d_TP_two_13 rfl (pb_1 fun h13 => ?_) (pb_0 fun h13 => ?_)) | (with_reducible refine E_isN1 ?_; refine E_if_ne 18 d_TP_two_13 rfl (nz_ne fun h13 => ?_) (nz_eq (by omega) fun h13 => ?_)) | refine E_if_ne 18 d_TP_two_13 rfl (fun h13 => ?_) (fun h13 => ?_)
        rotate_left
        · exfalso; exact h13 hy
        refine E_iload_n d_TP_two_18 rfl ?_
        refine E_tableIn 55 d_TP_two_19 (by decide) (by decide) (by first | rfl | decide) rfl ?_
        first | refine E_aload_n d_TP_two_55 rfl ?_ | refine E_aload_nN d_TP_two_55 rfl ?_
        refine E_V0 (sp_TP_look hC) d_TP_two_56 ml_TP_217 cb_TP_look cv_TP_look (by first | exact hG.s (by decide) rfl) ⟨by decide, rfl⟩ ⟨by decide, by decide⟩ rfl (Nat.le_of_ble_eq_true rfl) (Nat.le_of_ble_eq_true rfl) (kR fun r1 M1 hc => ?_)
        obtain ⟨rfl, hO, hC1, hS1⟩ := hc; have hM := OM.of hC1 hO; have hS := hS1.wk (P' := CQ) (fun _ => SO.q)
        refine E_iload_n d_TP_two_59 rfl ?_
        refine E_iload_n d_TP_two_60 rfl ?_
        refine E_iconst (v := nI 1) d_TP_two_61 rfl ?_
        refine E_V3 (sp_Ou_yesOfTwo hM (by omega) (by omega)) d_TP_two_62 ml_TP_261 cb_Ou_yesOfTwo cv_Ou_yesOfTwo (by first | exact hG.s (by decide) rfl) ⟨by decide, rfl⟩ ⟨by decide, by decide⟩ rfl (Nat.le_of_ble_eq_true rfl) (Nat.le_of_ble_eq_true rfl) (kI fun r1 M1 hc => ?_)
        obtain ⟨rfl, rfl⟩ := hc
        refine E_retI d_TP_two_65 rfl ?_
        exact ⟨rfl, hS⟩
      · first | refine E_aload_n d_TP_two_0 rfl ?_ | refine E_aload_nN d_TP_two_0 rfl ?_
        refine E_iload_n d_TP_two_1 rfl ?_
        refine E_V1 (sp_TP_isFigure hC _) d_TP_two_2 ml_TP_214 cb_TP_isFigure cv_TP_isFigure (by first | exact hG.s (by decide) rfl) ⟨by decide, rfl⟩ ⟨by decide, by decide⟩ rfl (Nat.le_of_ble_eq_true rfl) (Nat.le_of_ble_eq_true rfl) (kI fun r1 M1 hc => ?_)
        obtain ⟨rfl, rfl⟩ := hc
        first | (with_reducible refine E_isP ?_; refine E_if_eq 16 d_TP_two_5 rfl (pb_0 fun h5 => ?_) (pb_1 fun h5 => ?_)) | (with_reducible refine E_isN1 ?_; refine E_if_eq 16 d_TP_two_5 rfl (nz_eq (by omega) fun h5 => ?_) (nz_ne fun h5 => ?_)) | refine E_if_eq 16 d_TP_two_5 rfl (fun h5 => ?_) (fun h5 => ?_)
        · exfalso; exact h5 hx
        first | refine E_aload_n d_TP_two_8 rfl ?_ | refine E_aload_nN d_TP_two_8 rfl ?_
        refine E_iload_n d_TP_two_9 rfl ?_
        refine E_V1 (sp_TP_isFigure hC _) d_TP_two_10 ml_TP_214 cb_TP_isFigure cv_TP_isFigure (by first | exact hG.s (by decide) rfl) ⟨by decide, rfl⟩ ⟨by decide, by decide⟩ rfl (Nat.le_of_ble_eq_true rfl) (Nat.le_of_ble_eq_true rfl) (kI fun r1 M1 hc => ?_)
        obtain ⟨rfl, rfl⟩ := hc
        first | (with_reducible refine E_isP ?_; refine E_if_ne 18 d_TP_two_13 rfl (pb_1 fun h13 => ?_) (pb_0 fun h13 => ?_)) | (with_reducible refine E_isN1 ?_; refine E_if_ne 18 d_TP_two_13 rfl (nz_ne fun h13 => ?_) (nz_eq (by omega) fun h13 => ?_)) | refine E_if_ne 18 d_TP_two_13 rfl (fun h13 => ?_) (fun h13 => ?_)
        rotate_left
        · exfalso; exact h13 hy
        refine E_iload_n d_TP_two_18 rfl ?_
        refine E_tableIn 66 d_TP_two_19 (by decide) (by decide) (by first | rfl | decide) rfl ?_
        first | refine E_aload_n d_TP_two_66 rfl ?_ | refine E_aload_nN d_TP_two_66 rfl ?_
        refine E_V0 (sp_TP_look hC) d_TP_two_67 ml_TP_217 cb_TP_look cv_TP_look (by first | exact hG.s (by decide) rfl) ⟨by decide, rfl⟩ ⟨by decide, by decide⟩ rfl (Nat.le_of_ble_eq_true rfl) (Nat.le_of_ble_eq_true rfl) (kR fun r1 M1 hc => ?_)
        obtain ⟨rfl, hO, hC1, hS1⟩ := hc; have hM := OM.of hC1 hO; have hS := hS1.wk (P' := CQ) (fun _ => SO.q)
        refine E_iload_n d_TP_two_70 rfl ?_
        refine E_iload_n d_TP_two_71 rfl ?_
        refine E_V2 (sp_Ou_trueSplits hM (by omega) (by omega)) d_TP_two_72 ml_TP_265 cb_Ou_trueSplits cv_Ou_trueSplits (by first | exact hG.s (by decide) rfl) ⟨by decide, rfl⟩ ⟨by decide, by decide⟩ rfl (Nat.le_of_ble_eq_true rfl) (Nat.le_of_ble_eq_true rfl) (kI fun r1 M1 hc => ?_)
        obtain ⟨rfl, rfl⟩ := hc
        refine E_retI d_TP_two_75 rfl ?_
        exact ⟨rfl, hS⟩
    · first | refine E_aload_n d_TP_two_0 rfl ?_ | refine E_aload_nN d_TP_two_0 rfl ?_
      refine E_iload_n d_TP_two_1 rfl ?_
      refine E_V1 (sp_TP_isFigure hC _) d_TP_two_2 ml_TP_214 cb_TP_isFigure cv_TP_isFigure (by first | exact hG.s (by decide) rfl) ⟨by decide, rfl⟩ ⟨by decide, by decide⟩ rfl (Nat.le_of_ble_eq_true rfl) (Nat.le_of_ble_eq_true rfl) (kI fun r1 M1 hc => ?_)
      obtain ⟨rfl, rfl⟩ := hc
      first | (with_reducible refine E_isP ?_; refine E_if_eq 16 d_TP_two_5 rfl (pb_0 fun h5 => ?_) (pb_1 fun h5 => ?_)) | (with_reducible refine E_isN1 ?_; refine E_if_eq 16 d_TP_two_5 rfl (nz_eq (by omega) fun h5 => ?_) (nz_ne fun h5 => ?_)) | refine E_if_eq 16 d_TP_two_5 rfl (fun h5 => ?_) (fun h5 => ?_)
      · exfalso; exact h5 hx
      first | refine E_aload_n d_TP_two_8 rfl ?_ | refine E_aload_nN d_TP_two_8 rfl ?_
      refine E_iload_n d_TP_two_9 rfl ?_
      refine E_V1 (sp_TP_isFigure hC _) d_TP_two_10 ml_TP_214 cb_TP_isFigure cv_TP_isFigure (by first | exact hG.s (by decide) rfl) ⟨by decide, rfl⟩ ⟨by decide, by decide⟩ rfl (Nat.le_of_ble_eq_true rfl) (Nat.le_of_ble_eq_true rfl) (kI fun r1 M1 hc => ?_)
      obtain ⟨rfl, rfl⟩ := hc
      first | (with_reducible refine E_isP ?_; refine E_if_ne 18 d_TP_two_13 rfl (pb_1 fun h13 => ?_) (pb_0 fun h13 => ?_)) | (with_reducible refine E_isN1 ?_; refine E_if_ne 18 d_TP_two_13 rfl (nz_ne fun h13 => ?_) (nz_eq (by omega) fun h13 => ?_)) | refine E_if_ne 18 d_TP_two_13 rfl (fun h13 => ?_) (fun h13 => ?_)
      rotate_left
      · exfalso; exact h13 hy
      refine E_iload_n d_TP_two_18 rfl ?_
      refine E_tableOut 76 d_TP_two_19 (by exact sw_out hz) rfl ?_
      refine E_iconst (v := (-1)) d_TP_two_76 rfl ?_
      refine E_retI d_TP_two_77 rfl ?_
      exact ⟨by rw [ans_two, if_neg (fun q => hz q.2.2)], Sc.rf⟩
  · first | refine E_aload_n d_TP_two_0 rfl ?_ | refine E_aload_nN d_TP_two_0 rfl ?_
    refine E_iload_n d_TP_two_1 rfl ?_
    refine E_V1 (sp_TP_isFigure hC _) d_TP_two_2 ml_TP_214 cb_TP_isFigure cv_TP_isFigure (by first | exact hG.s (by decide) rfl) ⟨by decide, rfl⟩ ⟨by decide, by decide⟩ rfl (Nat.le_of_ble_eq_true rfl) (Nat.le_of_ble_eq_true rfl) (kI fun r1 M1 hc => ?_)
    obtain ⟨rfl, rfl⟩ := hc
    first | (with_reducible refine E_isP ?_; refine E_if_eq 16 d_TP_two_5 rfl (pb_0 fun h5 => ?_) (pb_1 fun h5 => ?_)) | (with_reducible refine E_isN1 ?_; refine E_if_eq 16 d_TP_two_5 rfl (nz_eq (by omega) fun h5 => ?_) (nz_ne fun h5 => ?_)) | refine E_if_eq 16 d_TP_two_5 rfl (fun h5 => ?_) (fun h5 => ?_)
    rotate_left
    · exfalso; exact hx h5
    refine E_iconst (v := (-1)) d_TP_two_16 rfl ?_
    refine E_retI d_TP_two_17 rfl ?_
    exact ⟨by rw [ans_two, if_neg (fun q => hx q.1)], Sc.rf⟩
  · first | refine E_aload_n d_TP_two_0 rfl ?_ | refine E_aload_nN d_TP_two_0 rfl ?_
    refine E_iload_n d_TP_two_1 rfl ?_
    refine E_V1 (sp_TP_isFigure hC _) d_TP_two_2 ml_TP_214 cb_TP_isFigure cv_TP_isFigure (by first | exact hG.s (by decide) rfl) ⟨by decide, rfl⟩ ⟨by decide, by decide⟩ rfl (Nat.le_of_ble_eq_true rfl) (Nat.le_of_ble_eq_true rfl) (kI fun r1 M1 hc => ?_)
    obtain ⟨rfl, rfl⟩ := hc
    first | (with_reducible refine E_isP ?_; refine E_if_eq 16 d_TP_two_5 rfl (pb_0 fun h5 => ?_) (pb_1 fun h5 => ?_)) | (with_reducible refine E_isN1 ?_; refine E_if_eq 16 d_TP_two_5 rfl (nz_eq (by omega) fun h5 => ?_) (nz_ne fun h5 => ?_)) | refine E_if_eq 16 d_TP_two_5 rfl (fun h5 => ?_) (fun h5 => ?_)
    · exfalso; exact h5 hx
    first | refine E_aload_n d_TP_two_8 rfl ?_ | refine E_aload_nN d_TP_two_8 rfl ?_
    refine E_iload_n d_TP_two_9 rfl ?_
    refine E_V1 (sp_TP_isFigure hC _) d_TP_two_10 ml_TP_214 cb_TP_isFigure cv_TP_isFigure (by first | exact hG.s (by decide) rfl) ⟨by decide, rfl⟩ ⟨by decide, by decide⟩ rfl (Nat.le_of_ble_eq_true rfl) (Nat.le_of_ble_eq_true rfl) (kI fun r1 M1 hc => ?_)
    obtain ⟨rfl, rfl⟩ := hc
    first | (with_reducible refine E_isP ?_; refine E_if_ne 18 d_TP_two_13 rfl (pb_1 fun h13 => ?_) (pb_0 fun h13 => ?_)) | (with_reducible refine E_isN1 ?_; refine E_if_ne 18 d_TP_two_13 rfl (nz_ne fun h13 => ?_) (nz_eq (by omega) fun h13 => ?_)) | refine E_if_ne 18 d_TP_two_13 rfl (fun h13 => ?_) (fun h13 => ?_)
    · exfalso; exact hy h13
    refine E_iconst (v := (-1)) d_TP_two_16 rfl ?_
    refine E_retI d_TP_two_17 rfl ?_
    exact ⟨by rw [ans_two, if_neg (fun q => hy q.2.1)], Sc.rf⟩
theorem sp_TP_split (hC : CM c G M) (x y : Int32) : E 6 0 0 Y_TP_split 0 [some (.ref 0), some (.int x), some (.int y)] [] G M (QI G fun r M' => r = ans_split c x y ∧ Sc CQ M M') := by
  have hG := hC.G
  have hp8 := hC.w.p8
  revert x y
  refine args2 (c.now.people + 1) (c.now.people + 1) (fun a b ha hx ht hb hy ht2 => ?_) (fun x y hx => ?_) (fun x y hx hy => ?_)
  · rw [ans_split, if_pos ⟨hx, hy⟩, ht, ht2]
    first | refine E_aload_n d_TP_split_0 rfl ?_ | refine E_aload_nN d_TP_split_0 rfl ?_
    refine E_iload_n d_TP_split_1 rfl ?_
    refine E_V1 (sp_TP_isFigure hC _) d_TP_split_2 ml_TP_214 cb_TP_isFigure cv_TP_isFigure (by first | exact hG.s (by decide) rfl) ⟨by decide, rfl⟩ ⟨by decide, by decide⟩ rfl (Nat.le_of_ble_eq_true rfl) (Nat.le_of_ble_eq_true rfl) (kI fun r1 M1 hc => ?_)
    obtain ⟨rfl, rfl⟩ := hc
    first | (with_reducible refine E_isP ?_; refine E_if_eq 28 d_TP_split_5 rfl (pb_0 fun h5 => ?_) (pb_1 fun h5 => ?_)) | (with_reducible refine E_isN1 ?_; refine E_if_eq 28 d_TP_split_5 rfl (nz_eq (by omega) fun h5 => ?_) (nz_ne fun h5 => ?_)) | refine E_if_eq 28 d_TP_split_5 rfl (fun h5 => ?_) (fun h5 => ?_)
    · exfalso; exact h5 hx
    first | refine E_aload_n d_TP_split_8 rfl ?_ | refine E_aload_nN d_TP_split_8 rfl ?_
    refine E_iload_n d_TP_split_9 rfl ?_
    refine E_V1 (sp_TP_isFigure hC _) d_TP_split_10 ml_TP_214 cb_TP_isFigure cv_TP_isFigure (by first | exact hG.s (by decide) rfl) ⟨by decide, rfl⟩ ⟨by decide, by decide⟩ rfl (Nat.le_of_ble_eq_true rfl) (Nat.le_of_ble_eq_true rfl) (kI fun r1 M1 hc => ?_)
    obtain ⟨rfl, rfl⟩ := hc
    first | (with_reducible refine E_isP ?_; refine E_if_eq 28 d_TP_split_13 rfl (pb_0 fun h13 => ?_) (pb_1 fun h13 => ?_)) | (with_reducible refine E_isN1 ?_; refine E_if_eq 28 d_TP_split_13 rfl (nz_eq (by omega) fun h13 => ?_) (nz_ne fun h13 => ?_)) | refine E_if_eq 28 d_TP_split_13 rfl (fun h13 => ?_) (fun h13 => ?_)
    · exfalso; exact h13 hy
    first | refine E_aload_n d_TP_split_16 rfl ?_ | refine E_aload_nN d_TP_split_16 rfl ?_
    refine E_V0 (sp_TP_look hC) d_TP_split_17 ml_TP_217 cb_TP_look cv_TP_look (by first | exact hG.s (by decide) rfl) ⟨by decide, rfl⟩ ⟨by decide, by decide⟩ rfl (Nat.le_of_ble_eq_true rfl) (Nat.le_of_ble_eq_true rfl) (kR fun r1 M1 hc => ?_)
    obtain ⟨rfl, hO, hC1, hS1⟩ := hc; have hM := OM.of hC1 hO; have hS := hS1.wk (P' := CQ) (fun _ => SO.q)
    refine E_iload_n d_TP_split_20 rfl ?_
    refine E_iload_n d_TP_split_21 rfl ?_
    refine E_V2 (sp_Ou_lowestSplit hM (by omega) (by omega)) d_TP_split_22 ml_TP_268 cb_Ou_lowestSplit cv_Ou_lowestSplit (by first | exact hG.s (by decide) rfl) ⟨by decide, rfl⟩ ⟨by decide, by decide⟩ rfl (Nat.le_of_ble_eq_true rfl) (Nat.le_of_ble_eq_true rfl) (kI fun r1 M1 hc => ?_)
    obtain ⟨rfl, rfl⟩ := hc
    refine E_goto 29 d_TP_split_25 rfl ?_
    refine E_retI d_TP_split_29 rfl ?_
    exact ⟨rfl, hS⟩
  · first | refine E_aload_n d_TP_split_0 rfl ?_ | refine E_aload_nN d_TP_split_0 rfl ?_
    refine E_iload_n d_TP_split_1 rfl ?_
    refine E_V1 (sp_TP_isFigure hC _) d_TP_split_2 ml_TP_214 cb_TP_isFigure cv_TP_isFigure (by first | exact hG.s (by decide) rfl) ⟨by decide, rfl⟩ ⟨by decide, by decide⟩ rfl (Nat.le_of_ble_eq_true rfl) (Nat.le_of_ble_eq_true rfl) (kI fun r1 M1 hc => ?_)
    obtain ⟨rfl, rfl⟩ := hc
    first | (with_reducible refine E_isP ?_; refine E_if_eq 28 d_TP_split_5 rfl (pb_0 fun h5 => ?_) (pb_1 fun h5 => ?_)) | (with_reducible refine E_isN1 ?_; refine E_if_eq 28 d_TP_split_5 rfl (nz_eq (by omega) fun h5 => ?_) (nz_ne fun h5 => ?_)) | refine E_if_eq 28 d_TP_split_5 rfl (fun h5 => ?_) (fun h5 => ?_)
    rotate_left
    · exfalso; exact hx h5
    refine E_iconst (v := (-1)) d_TP_split_28 rfl ?_
    refine E_retI d_TP_split_29 rfl ?_
    exact ⟨by rw [ans_split, if_neg (fun q => hx q.1)], Sc.rf⟩
  · first | refine E_aload_n d_TP_split_0 rfl ?_ | refine E_aload_nN d_TP_split_0 rfl ?_
    refine E_iload_n d_TP_split_1 rfl ?_
    refine E_V1 (sp_TP_isFigure hC _) d_TP_split_2 ml_TP_214 cb_TP_isFigure cv_TP_isFigure (by first | exact hG.s (by decide) rfl) ⟨by decide, rfl⟩ ⟨by decide, by decide⟩ rfl (Nat.le_of_ble_eq_true rfl) (Nat.le_of_ble_eq_true rfl) (kI fun r1 M1 hc => ?_)
    obtain ⟨rfl, rfl⟩ := hc
    first | (with_reducible refine E_isP ?_; refine E_if_eq 28 d_TP_split_5 rfl (pb_0 fun h5 => ?_) (pb_1 fun h5 => ?_)) | (with_reducible refine E_isN1 ?_; refine E_if_eq 28 d_TP_split_5 rfl (nz_eq (by omega) fun h5 => ?_) (nz_ne fun h5 => ?_)) | refine E_if_eq 28 d_TP_split_5 rfl (fun h5 => ?_) (fun h5 => ?_)
    · exfalso; exact h5 hx
    first | refine E_aload_n d_TP_split_8 rfl ?_ | refine E_aload_nN d_TP_split_8 rfl ?_
    refine E_iload_n d_TP_split_9 rfl ?_
    refine E_V1 (sp_TP_isFigure hC _) d_TP_split_10 ml_TP_214 cb_TP_isFigure cv_TP_isFigure (by first | exact hG.s (by decide) rfl) ⟨by decide, rfl⟩ ⟨by decide, by decide⟩ rfl (Nat.le_of_ble_eq_true rfl) (Nat.le_of_ble_eq_true rfl) (kI fun r1 M1 hc => ?_)
    obtain ⟨rfl, rfl⟩ := hc
    first | (with_reducible refine E_isP ?_; refine E_if_eq 28 d_TP_split_13 rfl (pb_0 fun h13 => ?_) (pb_1 fun h13 => ?_)) | (with_reducible refine E_isN1 ?_; refine E_if_eq 28 d_TP_split_13 rfl (nz_eq (by omega) fun h13 => ?_) (nz_ne fun h13 => ?_)) | refine E_if_eq 28 d_TP_split_13 rfl (fun h13 => ?_) (fun h13 => ?_)
    rotate_left
    · exfalso; exact hy h13
    refine E_iconst (v := (-1)) d_TP_split_28 rfl ?_
    refine E_retI d_TP_split_29 rfl ?_
    exact ⟨by rw [ans_split, if_neg (fun q => hy q.2)], Sc.rf⟩
theorem sp_TP_mind (hC : CM c G M) (x y : Int32) : E 6 0 0 Y_TP_mind 0 [some (.ref 0), some (.int x), some (.int y)] [] G M (QI G fun r M' => r = ans_mind c x y ∧ Sc CQ M M') := by
  have hG := hC.G
  have hp8 := hC.w.p8
  revert x y
  refine args2 (c.now.people + 1) (c.now.people + 1) (fun a b ha hx ht hb hy ht2 => ?_) (fun x y hx => ?_) (fun x y hx hy => ?_)
  · rw [ans_mind, if_pos ⟨hx, hy⟩, ht, ht2]
    first | refine E_aload_n d_TP_mind_0 rfl ?_ | refine E_aload_nN d_TP_mind_0 rfl ?_
    refine E_iload_n d_TP_mind_1 rfl ?_
    refine E_V1 (sp_TP_isFigure hC _) d_TP_mind_2 ml_TP_214 cb_TP_isFigure cv_TP_isFigure (by first | exact hG.s (by decide) rfl) ⟨by decide, rfl⟩ ⟨by decide, by decide⟩ rfl (Nat.le_of_ble_eq_true rfl) (Nat.le_of_ble_eq_true rfl) (kI fun r1 M1 hc => ?_)
    obtain ⟨rfl, rfl⟩ := hc
    first | (with_reducible refine E_isP ?_; refine E_if_eq 36 d_TP_mind_5 rfl (pb_0 fun h5 => ?_) (pb_1 fun h5 => ?_)) | (with_reducible refine E_isN1 ?_; refine E_if_eq 36 d_TP_mind_5 rfl (nz_eq (by omega) fun h5 => ?_) (nz_ne fun h5 => ?_)) | refine E_if_eq 36 d_TP_mind_5 rfl (fun h5 => ?_) (fun h5 => ?_)
    · exfalso; exact h5 hx
    first | refine E_aload_n d_TP_mind_8 rfl ?_ | refine E_aload_nN d_TP_mind_8 rfl ?_
    refine E_iload_n d_TP_mind_9 rfl ?_
    refine E_V1 (sp_TP_isFigure hC _) d_TP_mind_10 ml_TP_214 cb_TP_isFigure cv_TP_isFigure (by first | exact hG.s (by decide) rfl) ⟨by decide, rfl⟩ ⟨by decide, by decide⟩ rfl (Nat.le_of_ble_eq_true rfl) (Nat.le_of_ble_eq_true rfl) (kI fun r1 M1 hc => ?_)
    obtain ⟨rfl, rfl⟩ := hc
    first | (with_reducible refine E_isP ?_; refine E_if_eq 36 d_TP_mind_13 rfl (pb_0 fun h13 => ?_) (pb_1 fun h13 => ?_)) | (with_reducible refine E_isN1 ?_; refine E_if_eq 36 d_TP_mind_13 rfl (nz_eq (by omega) fun h13 => ?_) (nz_ne fun h13 => ?_)) | refine E_if_eq 36 d_TP_mind_13 rfl (fun h13 => ?_) (fun h13 => ?_)
    · exfalso; exact h13 hy
    first | refine E_aload_n d_TP_mind_16 rfl ?_ | refine E_aload_nN d_TP_mind_16 rfl ?_
    refine E_V0 (sp_TP_look hC) d_TP_mind_17 ml_TP_217 cb_TP_look cv_TP_look (by first | exact hG.s (by decide) rfl) ⟨by decide, rfl⟩ ⟨by decide, by decide⟩ rfl (Nat.le_of_ble_eq_true rfl) (Nat.le_of_ble_eq_true rfl) (kR fun r1 M1 hc => ?_)
    obtain ⟨rfl, hO, hC1, hS1⟩ := hc; have hM := OM.of hC1 hO; have hS := hS1.wk (P' := CQ) (fun _ => SO.q)
    refine E_iload_n d_TP_mind_20 rfl ?_
    refine E_V1 (sp_Ou_yesTold hM (by omega)) d_TP_mind_21 ml_TP_271 cb_Ou_yesTold cv_Ou_yesTold (by first | exact hG.s (by decide) rfl) ⟨by decide, rfl⟩ ⟨by decide, by decide⟩ rfl (Nat.le_of_ble_eq_true rfl) (Nat.le_of_ble_eq_true rfl) (kI fun r1 M1 hc => ?_)
    obtain ⟨rfl, rfl⟩ := hc
    first | refine E_aload_n d_TP_mind_24 rfl ?_ | refine E_aload_nN d_TP_mind_24 rfl ?_
    refine E_V0 (sp_TP_look hC1) d_TP_mind_25 ml_TP_217 cb_TP_look cv_TP_look (by first | exact hG.s (by decide) rfl) ⟨by decide, rfl⟩ ⟨by decide, by decide⟩ rfl (Nat.le_of_ble_eq_true rfl) (Nat.le_of_ble_eq_true rfl) (kR fun r1 M1 hc => ?_)
    obtain ⟨rfl, hO2, hC2, hS2⟩ := hc; have hM2 := OM.of hC2 hO2; have hS2 := hS.tr (hS2.wk (P' := CQ) (fun _ => SO.q))
    refine E_iload_n d_TP_mind_28 rfl ?_
    refine E_V1 (sp_Ou_yesTold hM2 (by omega)) d_TP_mind_29 ml_TP_271 cb_Ou_yesTold cv_Ou_yesTold (by first | exact hG.s (by decide) rfl) ⟨by decide, rfl⟩ ⟨by decide, by decide⟩ rfl (Nat.le_of_ble_eq_true rfl) (Nat.le_of_ble_eq_true rfl) (kI fun r1 M1 hc => ?_)
    obtain ⟨rfl, rfl⟩ := hc
    first | (with_reducible refine E_isN2 ?_; refine E_ixorN d_TP_mind_32 ?_) | refine E_ixor d_TP_mind_32 ?_
    refine E_goto 37 d_TP_mind_33 rfl ?_
    refine E_retI d_TP_mind_37 rfl ?_
    exact ⟨rfl, hS2⟩
  · first | refine E_aload_n d_TP_mind_0 rfl ?_ | refine E_aload_nN d_TP_mind_0 rfl ?_
    refine E_iload_n d_TP_mind_1 rfl ?_
    refine E_V1 (sp_TP_isFigure hC _) d_TP_mind_2 ml_TP_214 cb_TP_isFigure cv_TP_isFigure (by first | exact hG.s (by decide) rfl) ⟨by decide, rfl⟩ ⟨by decide, by decide⟩ rfl (Nat.le_of_ble_eq_true rfl) (Nat.le_of_ble_eq_true rfl) (kI fun r1 M1 hc => ?_)
    obtain ⟨rfl, rfl⟩ := hc
    first | (with_reducible refine E_isP ?_; refine E_if_eq 36 d_TP_mind_5 rfl (pb_0 fun h5 => ?_) (pb_1 fun h5 => ?_)) | (with_reducible refine E_isN1 ?_; refine E_if_eq 36 d_TP_mind_5 rfl (nz_eq (by omega) fun h5 => ?_) (nz_ne fun h5 => ?_)) | refine E_if_eq 36 d_TP_mind_5 rfl (fun h5 => ?_) (fun h5 => ?_)
    rotate_left
    · exfalso; exact hx h5
    refine E_iconst (v := (-1)) d_TP_mind_36 rfl ?_
    refine E_retI d_TP_mind_37 rfl ?_
    exact ⟨by rw [ans_mind, if_neg (fun q => hx q.1)], Sc.rf⟩
  · first | refine E_aload_n d_TP_mind_0 rfl ?_ | refine E_aload_nN d_TP_mind_0 rfl ?_
    refine E_iload_n d_TP_mind_1 rfl ?_
    refine E_V1 (sp_TP_isFigure hC _) d_TP_mind_2 ml_TP_214 cb_TP_isFigure cv_TP_isFigure (by first | exact hG.s (by decide) rfl) ⟨by decide, rfl⟩ ⟨by decide, by decide⟩ rfl (Nat.le_of_ble_eq_true rfl) (Nat.le_of_ble_eq_true rfl) (kI fun r1 M1 hc => ?_)
    obtain ⟨rfl, rfl⟩ := hc
    first | (with_reducible refine E_isP ?_; refine E_if_eq 36 d_TP_mind_5 rfl (pb_0 fun h5 => ?_) (pb_1 fun h5 => ?_)) | (with_reducible refine E_isN1 ?_; refine E_if_eq 36 d_TP_mind_5 rfl (nz_eq (by omega) fun h5 => ?_) (nz_ne fun h5 => ?_)) | refine E_if_eq 36 d_TP_mind_5 rfl (fun h5 => ?_) (fun h5 => ?_)
    · exfalso; exact h5 hx
    first | refine E_aload_n d_TP_mind_8 rfl ?_ | refine E_aload_nN d_TP_mind_8 rfl ?_
    refine E_iload_n d_TP_mind_9 rfl ?_
    refine E_V1 (sp_TP_isFigure hC _) d_TP_mind_10 ml_TP_214 cb_TP_isFigure cv_TP_isFigure (by first | exact hG.s (by decide) rfl) ⟨by decide, rfl⟩ ⟨by decide, by decide⟩ rfl (Nat.le_of_ble_eq_true rfl) (Nat.le_of_ble_eq_true rfl) (kI fun r1 M1 hc => ?_)
    obtain ⟨rfl, rfl⟩ := hc
    first | (with_reducible refine E_isP ?_; refine E_if_eq 36 d_TP_mind_13 rfl (pb_0 fun h13 => ?_) (pb_1 fun h13 => ?_)) | (with_reducible refine E_isN1 ?_; refine E_if_eq 36 d_TP_mind_13 rfl (nz_eq (by omega) fun h13 => ?_) (nz_ne fun h13 => ?_)) | refine E_if_eq 36 d_TP_mind_13 rfl (fun h13 => ?_) (fun h13 => ?_)
    rotate_left
    · exfalso; exact hy h13
    refine E_iconst (v := (-1)) d_TP_mind_36 rfl ?_
    refine E_retI d_TP_mind_37 rfl ?_
    exact ⟨by rw [ans_mind, if_neg (fun q => hy q.2)], Sc.rf⟩
theorem anyA_512 (h : Wf c) (n : Nat) : anyA c n < 512 := by have := anyA_lt c n; have := pow2_256 h; omega
theorem allA_512 (h : Wf c) (n : Nat) : allA c n < 512 := by have := allA_lt c n; have := pow2_256 h; omega
theorem sp_TP_unasked (hC : CM c G M) (z : Int32) : E 6 0 0 Y_TP_unasked 0 [some (.ref 0), some (.int z)] [] G M (QI G fun r M' => r = ans_unasked c z ∧ Sc CQ M M') := by
  have hG := hC.G
  have hwf := hC.w
  have a1 := anyA_512 hwf (c.now.people + 1)
  have a2 := allA_512 hwf (c.now.people + 1)
  by_cases hz : z = 0
  · rw [ans_unasked, if_pos hz]
    refine E_iload_n d_TP_unasked_0 rfl ?_
    first | (with_reducible refine E_isP ?_; refine E_if_eq 14 d_TP_unasked_1 rfl (pb_0 fun h1 => ?_) (pb_1 fun h1 => ?_)) | (with_reducible refine E_isN1 ?_; refine E_if_eq 14 d_TP_unasked_1 rfl (nz_eq (by omega) fun h1 => ?_) (nz_ne fun h1 => ?_)) | refine E_if_eq 14 d_TP_unasked_1 rfl (fun h1 => ?_) (fun h1 => ?_)
    rotate_left
    · exfalso; exact h1 hz
    first | refine E_aload_n d_TP_unasked_14 rfl ?_ | refine E_aload_nN d_TP_unasked_14 rfl ?_
    refine E_V0 (sp_TP_look hC) d_TP_unasked_15 ml_TP_217 cb_TP_look cv_TP_look (by first | exact hG.s (by decide) rfl) ⟨by decide, rfl⟩ ⟨by decide, by decide⟩ rfl (Nat.le_of_ble_eq_true rfl) (Nat.le_of_ble_eq_true rfl) (kR fun r1 M1 hc => ?_)
    obtain ⟨rfl, hO, hC1, hS1⟩ := hc; have hM := OM.of hC1 hO; have hS := hS1.wk (P' := CQ) (fun _ => SO.q)
    refine E_V0 (sp_Ou_yesByAll hM) d_TP_unasked_18 ml_TP_277 cb_Ou_yesByAll cv_Ou_yesByAll (by first | exact hG.s (by decide) rfl) ⟨by decide, rfl⟩ ⟨by decide, by decide⟩ rfl (Nat.le_of_ble_eq_true rfl) (Nat.le_of_ble_eq_true rfl) (kI fun r1 M1 hc => ?_)
    obtain ⟨rfl, rfl⟩ := hc
    refine E_S1 (sp_JI_bitCount a2) d_TP_unasked_21 ml_TP_256 cb_JI_bitCount cs_JI_bitCount ⟨by decide, by decide⟩ rfl (Nat.le_of_ble_eq_true rfl) (Nat.le_of_ble_eq_true rfl) (kI fun r1 M1 hc => ?_)
    obtain ⟨rfl, rfl⟩ := hc
    refine E_retI d_TP_unasked_24 rfl ?_
    exact ⟨rfl, hS⟩
  · rw [ans_unasked, if_neg hz]
    refine E_iload_n d_TP_unasked_0 rfl ?_
    first | (with_reducible refine E_isP ?_; refine E_if_eq 14 d_TP_unasked_1 rfl (pb_0 fun h1 => ?_) (pb_1 fun h1 => ?_)) | (with_reducible refine E_isN1 ?_; refine E_if_eq 14 d_TP_unasked_1 rfl (nz_eq (by omega) fun h1 => ?_) (nz_ne fun h1 => ?_)) | refine E_if_eq 14 d_TP_unasked_1 rfl (fun h1 => ?_) (fun h1 => ?_)
    · exfalso; exact hz h1
    first | refine E_aload_n d_TP_unasked_4 rfl ?_ | refine E_aload_nN d_TP_unasked_4 rfl ?_
    refine E_V0 (sp_TP_look hC) d_TP_unasked_5 ml_TP_217 cb_TP_look cv_TP_look (by first | exact hG.s (by decide) rfl) ⟨by decide, rfl⟩ ⟨by decide, by decide⟩ rfl (Nat.le_of_ble_eq_true rfl) (Nat.le_of_ble_eq_true rfl) (kR fun r1 M1 hc => ?_)
    obtain ⟨rfl, hO, hC1, hS1⟩ := hc; have hM := OM.of hC1 hO; have hS := hS1.wk (P' := CQ) (fun _ => SO.q)
    refine E_V0 (sp_Ou_yesByAny hM) d_TP_unasked_8 ml_TP_274 cb_Ou_yesByAny cv_Ou_yesByAny (by first | exact hG.s (by decide) rfl) ⟨by decide, rfl⟩ ⟨by decide, by decide⟩ rfl (Nat.le_of_ble_eq_true rfl) (Nat.le_of_ble_eq_true rfl) (kI fun r1 M1 hc => ?_)
    obtain ⟨rfl, rfl⟩ := hc
    refine E_goto 21 d_TP_unasked_11 rfl ?_
    refine E_S1 (sp_JI_bitCount a1) d_TP_unasked_21 ml_TP_256 cb_JI_bitCount cs_JI_bitCount ⟨by decide, by decide⟩ rfl (Nat.le_of_ble_eq_true rfl) (Nat.le_of_ble_eq_true rfl) (kI fun r1 M1 hc => ?_)
    obtain ⟨rfl, rfl⟩ := hc
    refine E_retI d_TP_unasked_24 rfl ?_
    exact ⟨rfl, hS⟩
theorem sp_TP_alike (hC : CM c G M) (x y : Int32) : E 6 0 0 Y_TP_alike 0 [some (.ref 0), some (.int x), some (.int y)] [] G M (QI G fun r M' => r = ans_alike c x y ∧ Sc CQ M M') := by
  have hG := hC.G
  have hR := hC.R
  revert x y
  refine args2 c.now.people c.now.people (fun a b ha hx ht hb hy ht2 => ?_) (fun x y hx => ?_) (fun x y hx hy => ?_)
  · rw [ans_alike, if_pos ⟨hx, hy⟩, ht, ht2]
    first | refine E_aload_n d_TP_alike_0 rfl ?_ | refine E_aload_nN d_TP_alike_0 rfl ?_
    refine E_getR d_TP_alike_1 gf_TP_10 (by first | exact hG.s (by decide) rfl) (by first | exact hR.o rfl | exact hR.c cr1 rfl | exact hR.m0 ad2) ?_
    refine E_getR d_TP_alike_4 gf_TP_128 (by first | exact hG.s (by decide) rfl) (by first | exact hR.o rfl | exact hR.c cr1 rfl | exact hR.m0 ad2) ?_
    refine E_iload_n d_TP_alike_7 rfl ?_
    refine E_V1 (sp_Mo_hasPerson hG ad2 hC.now hC.w.mo _) d_TP_alike_8 ml_TP_163 cb_Mo_hasPerson cv_Mo_hasPerson (by first | exact hG.s (by decide) rfl) ⟨by decide, rfl⟩ ⟨by decide, by decide⟩ rfl (Nat.le_of_ble_eq_true rfl) (Nat.le_of_ble_eq_true rfl) (kI fun r1 M1 hc => ?_)
    obtain ⟨rfl, rfl⟩ := hc
    first | (with_reducible refine E_isP ?_; refine E_if_eq 40 d_TP_alike_11 rfl (pb_0 fun h11 => ?_) (pb_1 fun h11 => ?_)) | (with_reducible refine E_isN1 ?_; refine E_if_eq 40 d_TP_alike_11 rfl (nz_eq (by omega) fun h11 => ?_) (nz_ne fun h11 => ?_)) | refine E_if_eq 40 d_TP_alike_11 rfl (fun h11 => ?_) (fun h11 => ?_)
    · exfalso; exact h11 hx
    first | refine E_aload_n d_TP_alike_14 rfl ?_ | refine E_aload_nN d_TP_alike_14 rfl ?_
    refine E_getR d_TP_alike_15 gf_TP_10 (by first | exact hG.s (by decide) rfl) (by first | exact hR.o rfl | exact hR.c cr1 rfl | exact hR.m0 ad2) ?_
    refine E_getR d_TP_alike_18 gf_TP_128 (by first | exact hG.s (by decide) rfl) (by first | exact hR.o rfl | exact hR.c cr1 rfl | exact hR.m0 ad2) ?_
    refine E_iload_n d_TP_alike_21 rfl ?_
    refine E_V1 (sp_Mo_hasPerson hG ad2 hC.now hC.w.mo _) d_TP_alike_22 ml_TP_163 cb_Mo_hasPerson cv_Mo_hasPerson (by first | exact hG.s (by decide) rfl) ⟨by decide, rfl⟩ ⟨by decide, by decide⟩ rfl (Nat.le_of_ble_eq_true rfl) (Nat.le_of_ble_eq_true rfl) (kI fun r1 M1 hc => ?_)
    obtain ⟨rfl, rfl⟩ := hc
    first | (with_reducible refine E_isP ?_; refine E_if_eq 40 d_TP_alike_25 rfl (pb_0 fun h25 => ?_) (pb_1 fun h25 => ?_)) | (with_reducible refine E_isN1 ?_; refine E_if_eq 40 d_TP_alike_25 rfl (nz_eq (by omega) fun h25 => ?_) (nz_ne fun h25 => ?_)) | refine E_if_eq 40 d_TP_alike_25 rfl (fun h25 => ?_) (fun h25 => ?_)
    · exfalso; exact h25 hy
    first | refine E_aload_n d_TP_alike_28 rfl ?_ | refine E_aload_nN d_TP_alike_28 rfl ?_
    refine E_V0 (sp_TP_look hC) d_TP_alike_29 ml_TP_217 cb_TP_look cv_TP_look (by first | exact hG.s (by decide) rfl) ⟨by decide, rfl⟩ ⟨by decide, by decide⟩ rfl (Nat.le_of_ble_eq_true rfl) (Nat.le_of_ble_eq_true rfl) (kR fun r1 M1 hc => ?_)
    obtain ⟨rfl, hO, hC1, hS1⟩ := hc; have hM := OM.of hC1 hO; have hS := hS1.wk (P' := CQ) (fun _ => SO.q)
    refine E_iload_n d_TP_alike_32 rfl ?_
    refine E_iload_n d_TP_alike_33 rfl ?_
    refine E_V2 (sp_Ou_alikeFigures hM (by omega) (by omega)) d_TP_alike_34 ml_TP_280 cb_Ou_alikeFigures cv_Ou_alikeFigures (by first | exact hG.s (by decide) rfl) ⟨by decide, rfl⟩ ⟨by decide, by decide⟩ rfl (Nat.le_of_ble_eq_true rfl) (Nat.le_of_ble_eq_true rfl) (kI fun r1 M1 hc => ?_)
    obtain ⟨rfl, rfl⟩ := hc
    refine E_goto 41 d_TP_alike_37 rfl ?_
    refine E_retI d_TP_alike_41 rfl ?_
    exact ⟨rfl, hS⟩
  · first | refine E_aload_n d_TP_alike_0 rfl ?_ | refine E_aload_nN d_TP_alike_0 rfl ?_
    refine E_getR d_TP_alike_1 gf_TP_10 (by first | exact hG.s (by decide) rfl) (by first | exact hR.o rfl | exact hR.c cr1 rfl | exact hR.m0 ad2) ?_
    refine E_getR d_TP_alike_4 gf_TP_128 (by first | exact hG.s (by decide) rfl) (by first | exact hR.o rfl | exact hR.c cr1 rfl | exact hR.m0 ad2) ?_
    refine E_iload_n d_TP_alike_7 rfl ?_
    refine E_V1 (sp_Mo_hasPerson hG ad2 hC.now hC.w.mo _) d_TP_alike_8 ml_TP_163 cb_Mo_hasPerson cv_Mo_hasPerson (by first | exact hG.s (by decide) rfl) ⟨by decide, rfl⟩ ⟨by decide, by decide⟩ rfl (Nat.le_of_ble_eq_true rfl) (Nat.le_of_ble_eq_true rfl) (kI fun r1 M1 hc => ?_)
    obtain ⟨rfl, rfl⟩ := hc
    first | (with_reducible refine E_isP ?_; refine E_if_eq 40 d_TP_alike_11 rfl (pb_0 fun h11 => ?_) (pb_1 fun h11 => ?_)) | (with_reducible refine E_isN1 ?_; refine E_if_eq 40 d_TP_alike_11 rfl (nz_eq (by omega) fun h11 => ?_) (nz_ne fun h11 => ?_)) | refine E_if_eq 40 d_TP_alike_11 rfl (fun h11 => ?_) (fun h11 => ?_)
    rotate_left
    · exfalso; exact hx h11
    refine E_iconst (v := (-1)) d_TP_alike_40 rfl ?_
    refine E_retI d_TP_alike_41 rfl ?_
    exact ⟨by rw [ans_alike, if_neg (fun q => hx q.1)], Sc.rf⟩
  · first | refine E_aload_n d_TP_alike_0 rfl ?_ | refine E_aload_nN d_TP_alike_0 rfl ?_
    refine E_getR d_TP_alike_1 gf_TP_10 (by first | exact hG.s (by decide) rfl) (by first | exact hR.o rfl | exact hR.c cr1 rfl | exact hR.m0 ad2) ?_
    refine E_getR d_TP_alike_4 gf_TP_128 (by first | exact hG.s (by decide) rfl) (by first | exact hR.o rfl | exact hR.c cr1 rfl | exact hR.m0 ad2) ?_
    refine E_iload_n d_TP_alike_7 rfl ?_
    refine E_V1 (sp_Mo_hasPerson hG ad2 hC.now hC.w.mo _) d_TP_alike_8 ml_TP_163 cb_Mo_hasPerson cv_Mo_hasPerson (by first | exact hG.s (by decide) rfl) ⟨by decide, rfl⟩ ⟨by decide, by decide⟩ rfl (Nat.le_of_ble_eq_true rfl) (Nat.le_of_ble_eq_true rfl) (kI fun r1 M1 hc => ?_)
    obtain ⟨rfl, rfl⟩ := hc
    first | (with_reducible refine E_isP ?_; refine E_if_eq 40 d_TP_alike_11 rfl (pb_0 fun h11 => ?_) (pb_1 fun h11 => ?_)) | (with_reducible refine E_isN1 ?_; refine E_if_eq 40 d_TP_alike_11 rfl (nz_eq (by omega) fun h11 => ?_) (nz_ne fun h11 => ?_)) | refine E_if_eq 40 d_TP_alike_11 rfl (fun h11 => ?_) (fun h11 => ?_)
    · exfalso; exact h11 hx
    first | refine E_aload_n d_TP_alike_14 rfl ?_ | refine E_aload_nN d_TP_alike_14 rfl ?_
    refine E_getR d_TP_alike_15 gf_TP_10 (by first | exact hG.s (by decide) rfl) (by first | exact hR.o rfl | exact hR.c cr1 rfl | exact hR.m0 ad2) ?_
    refine E_getR d_TP_alike_18 gf_TP_128 (by first | exact hG.s (by decide) rfl) (by first | exact hR.o rfl | exact hR.c cr1 rfl | exact hR.m0 ad2) ?_
    refine E_iload_n d_TP_alike_21 rfl ?_
    refine E_V1 (sp_Mo_hasPerson hG ad2 hC.now hC.w.mo _) d_TP_alike_22 ml_TP_163 cb_Mo_hasPerson cv_Mo_hasPerson (by first | exact hG.s (by decide) rfl) ⟨by decide, rfl⟩ ⟨by decide, by decide⟩ rfl (Nat.le_of_ble_eq_true rfl) (Nat.le_of_ble_eq_true rfl) (kI fun r1 M1 hc => ?_)
    obtain ⟨rfl, rfl⟩ := hc
    first | (with_reducible refine E_isP ?_; refine E_if_eq 40 d_TP_alike_25 rfl (pb_0 fun h25 => ?_) (pb_1 fun h25 => ?_)) | (with_reducible refine E_isN1 ?_; refine E_if_eq 40 d_TP_alike_25 rfl (nz_eq (by omega) fun h25 => ?_) (nz_ne fun h25 => ?_)) | refine E_if_eq 40 d_TP_alike_25 rfl (fun h25 => ?_) (fun h25 => ?_)
    rotate_left
    · exfalso; exact hy h25
    refine E_iconst (v := (-1)) d_TP_alike_40 rfl ?_
    refine E_retI d_TP_alike_41 rfl ?_
    exact ⟨by rw [ans_alike, if_neg (fun q => hy q.2)], Sc.rf⟩
theorem sp_TP_pair (hC : CM c G M) (z : Int32) : E 6 0 0 Y_TP_pair 0 [some (.ref 0), some (.int z)] [] G M (QI G fun r M' => r = ans_pair c z ∧ Sc CQ M M') := by
  have hG := hC.G
  first | refine E_aload_n d_TP_pair_0 rfl ?_ | refine E_aload_nN d_TP_pair_0 rfl ?_
  refine E_V0 (sp_TP_look hC) d_TP_pair_1 ml_TP_217 cb_TP_look cv_TP_look (by first | exact hG.s (by decide) rfl) ⟨by decide, rfl⟩ ⟨by decide, by decide⟩ rfl (Nat.le_of_ble_eq_true rfl) (Nat.le_of_ble_eq_true rfl) (kR fun r1 M1 hc => ?_)
  obtain ⟨rfl, hO, hC1, hS1⟩ := hc; have hM := OM.of hC1 hO; have hS := hS1.wk (P' := CQ) (fun _ => SO.q)
  refine E_iload_n d_TP_pair_4 rfl ?_
  refine E_V1 (sp_Ou_mostAlike hM) d_TP_pair_5 ml_TP_283 cb_Ou_mostAlike cv_Ou_mostAlike (by first | exact hG.s (by decide) rfl) ⟨by decide, rfl⟩ ⟨by decide, by decide⟩ rfl (Nat.le_of_ble_eq_true rfl) (Nat.le_of_ble_eq_true rfl) (kI fun r1 M1 hc => ?_)
  obtain ⟨rfl, rfl⟩ := hc
  refine E_retI d_TP_pair_8 rfl ?_
  exact ⟨rfl, hS⟩
theorem sp_TP_game (hC : CM c G M) (x : Int32) : E 6 0 0 Y_TP_game 0 [some (.ref 0), some (.int x)] [] G M (QI G fun r M' => r = ans_game c x ∧ Sc CQ M M') := by
  have hG := hC.G
  have hR := hC.R
  have hfg := hC.w.fig
  revert x
  refine args1 9 (fun n hn hx ht => ?_) (fun x hx => ?_)
  · rw [ans_game, if_pos hx, ht]
    refine E_iload_n d_TP_game_0 rfl ?_
    first | (with_reducible refine E_isN1 ?_; refine E_if_lt 10 d_TP_game_1 rfl (nz_lt (by omega) fun h1 => ?_) (nz_nlt (by omega) fun h1 => ?_)) | refine E_if_lt 10 d_TP_game_1 rfl (fun h1 => ?_) (fun h1 => ?_)
    · exfalso; exact absurd h1 (Nat.not_lt_zero n)
    refine E_iload_n d_TP_game_4 rfl ?_
    refine E_bipush (v := nI 8) d_TP_game_5 (by decide) ?_
    first | (with_reducible refine E_isN2 ?_; refine E_icmp_le 14 d_TP_game_7 rfl (nb_le (by omega) (by omega) fun h7 => ?_) (nb_nle (by omega) (by omega) fun h7 => ?_)) | refine E_icmp_le 14 d_TP_game_7 rfl (fun h7 => ?_) (fun h7 => ?_)
    rotate_left
    · exfalso; omega
    first | refine E_aload_n d_TP_game_14 rfl ?_ | refine E_aload_nN d_TP_game_14 rfl ?_
    refine E_V0 (sp_TP_look hC) d_TP_game_15 ml_TP_217 cb_TP_look cv_TP_look (by first | exact hG.s (by decide) rfl) ⟨by decide, rfl⟩ ⟨by decide, by decide⟩ rfl (Nat.le_of_ble_eq_true rfl) (Nat.le_of_ble_eq_true rfl) (kR fun r1 M1 hc => ?_)
    obtain ⟨rfl, hO, hC1, hS1⟩ := hc; have hM := OM.of hC1 hO; have hS := hS1.wk (P' := CQ) (fun _ => SO.q)
    first | refine E_aload_n d_TP_game_18 rfl ?_ | refine E_aload_nN d_TP_game_18 rfl ?_
    refine E_getR d_TP_game_19 gf_TP_10 (by first | exact hG.s (by decide) rfl) (by first | exact hC1.R.o rfl | exact hC1.R.c cr1 rfl) ?_
    refine E_getR d_TP_game_22 gf_TP_128 (by first | exact hG.s (by decide) rfl) (by first | exact hC1.R.o rfl | exact hC1.R.c cr1 rfl) ?_
    refine E_getI d_TP_game_25 gf_TP_131 (by first | exact hG.s (by decide) rfl) (by exact hC1.now.figure) ?_
    refine E_iload_n d_TP_game_28 rfl ?_
    refine E_V2 (sp_Ou_gameEnd hM hfg (by omega)) d_TP_game_29 ml_TP_327 cb_Ou_gameEnd cv_Ou_gameEnd (by first | exact hG.s (by decide) rfl) ⟨by decide, rfl⟩ ⟨by decide, by decide⟩ rfl (Nat.le_of_ble_eq_true rfl) (Nat.le_of_ble_eq_true rfl) (kI fun r1 M1 hc => ?_)
    obtain ⟨rfl, hS2⟩ := hc
    refine E_retI d_TP_game_32 rfl ?_
    exact ⟨rfl, hS.tr (hS2.wk fun _ => SG.q)⟩
  · have ho := out_le (n := 8) (by decide) hx
    refine E_iload_n d_TP_game_0 rfl ?_
    first | (with_reducible refine E_isN1 ?_; refine E_if_lt 10 d_TP_game_1 rfl (nz_lt (by omega) fun h1 => ?_) (nz_nlt (by omega) fun h1 => ?_)) | refine E_if_lt 10 d_TP_game_1 rfl (fun h1 => ?_) (fun h1 => ?_)
    · refine E_iconst (v := (-1)) d_TP_game_10 rfl ?_
      refine E_goto 32 d_TP_game_11 rfl ?_
      refine E_retI d_TP_game_32 rfl ?_
      exact ⟨by rw [ans_game, if_neg hx], Sc.rf⟩
    · refine E_iload_n d_TP_game_4 rfl ?_
      refine E_bipush (v := nI 8) d_TP_game_5 (by decide) ?_
      first | (with_reducible refine E_isN2 ?_; refine E_icmp_le 14 d_TP_game_7 rfl (nb_le (by omega) (by omega) fun h7 => ?_) (nb_nle (by omega) (by omega) fun h7 => ?_)) | refine E_icmp_le 14 d_TP_game_7 rfl (fun h7 => ?_) (fun h7 => ?_)
      · exfalso; exact ho h1 h7
      refine E_iconst (v := (-1)) d_TP_game_10 rfl ?_
      refine E_goto 32 d_TP_game_11 rfl ?_
      refine E_retI d_TP_game_32 rfl ?_
      exact ⟨by rw [ans_game, if_neg hx], Sc.rf⟩
theorem sp_TP_choice (hC : CM c G M) (x : Int32) : E 6 0 0 Y_TP_choice 0 [some (.ref 0), some (.int x)] [] G M (QI G fun r M' => r = ans_choice c x ∧ Sc CQ M M') := by
  have hG := hC.G
  have hR := hC.R
  have hfg := hC.w.fig
  revert x
  refine args1 9 (fun n hn hx ht => ?_) (fun x hx => ?_)
  · by_cases h0 : n = 0
    · refine E_iload_n d_TP_choice_0 rfl ?_
      refine E_iconst (v := nI 1) d_TP_choice_1 rfl ?_
      first | (with_reducible refine E_isN2 ?_; refine E_icmp_lt 11 d_TP_choice_2 rfl (nb_lt (by omega) (by omega) fun h2 => ?_) (nb_nlt (by omega) (by omega) fun h2 => ?_)) | refine E_icmp_lt 11 d_TP_choice_2 rfl (fun h2 => ?_) (fun h2 => ?_)
      rotate_left
      · exfalso; omega
      refine E_iconst (v := (-1)) d_TP_choice_11 rfl ?_
      refine E_goto 33 d_TP_choice_12 rfl ?_
      refine E_retI d_TP_choice_33 rfl ?_
      exact ⟨by rw [ans_choice, if_neg (fun q => q.2 (by rw [ht]; exact h0))], Sc.rf⟩
    · rw [ans_choice, if_pos ⟨hx, by rw [ht]; exact h0⟩, ht]
      refine E_iload_n d_TP_choice_0 rfl ?_
      refine E_iconst (v := nI 1) d_TP_choice_1 rfl ?_
      first | (with_reducible refine E_isN2 ?_; refine E_icmp_lt 11 d_TP_choice_2 rfl (nb_lt (by omega) (by omega) fun h2 => ?_) (nb_nlt (by omega) (by omega) fun h2 => ?_)) | refine E_icmp_lt 11 d_TP_choice_2 rfl (fun h2 => ?_) (fun h2 => ?_)
      · exfalso; omega
      refine E_iload_n d_TP_choice_5 rfl ?_
      refine E_bipush (v := nI 8) d_TP_choice_6 (by decide) ?_
      first | (with_reducible refine E_isN2 ?_; refine E_icmp_le 15 d_TP_choice_8 rfl (nb_le (by omega) (by omega) fun h8 => ?_) (nb_nle (by omega) (by omega) fun h8 => ?_)) | refine E_icmp_le 15 d_TP_choice_8 rfl (fun h8 => ?_) (fun h8 => ?_)
      rotate_left
      · exfalso; omega
      first | refine E_aload_n d_TP_choice_15 rfl ?_ | refine E_aload_nN d_TP_choice_15 rfl ?_
      refine E_V0 (sp_TP_look hC) d_TP_choice_16 ml_TP_217 cb_TP_look cv_TP_look (by first | exact hG.s (by decide) rfl) ⟨by decide, rfl⟩ ⟨by decide, by decide⟩ rfl (Nat.le_of_ble_eq_true rfl) (Nat.le_of_ble_eq_true rfl) (kR fun r1 M1 hc => ?_)
      obtain ⟨rfl, hO, hC1, hS1⟩ := hc; have hM := OM.of hC1 hO; have hS := hS1.wk (P' := CQ) (fun _ => SO.q)
      first | refine E_aload_n d_TP_choice_19 rfl ?_ | refine E_aload_nN d_TP_choice_19 rfl ?_
      refine E_getR d_TP_choice_20 gf_TP_10 (by first | exact hG.s (by decide) rfl) (by first | exact hC1.R.o rfl | exact hC1.R.c cr1 rfl) ?_
      refine E_getR d_TP_choice_23 gf_TP_128 (by first | exact hG.s (by decide) rfl) (by first | exact hC1.R.o rfl | exact hC1.R.c cr1 rfl) ?_
      refine E_getI d_TP_choice_26 gf_TP_131 (by first | exact hG.s (by decide) rfl) (by exact hC1.now.figure) ?_
      refine E_iload_n d_TP_choice_29 rfl ?_
      refine E_V2 (sp_Ou_gameStart hM hfg (by omega) (by omega)) d_TP_choice_30 ml_TP_330 cb_Ou_gameStart cv_Ou_gameStart (by first | exact hG.s (by decide) rfl) ⟨by decide, rfl⟩ ⟨by decide, by decide⟩ rfl (Nat.le_of_ble_eq_true rfl) (Nat.le_of_ble_eq_true rfl) (kI fun r1 M1 hc => ?_)
      obtain ⟨rfl, hS2⟩ := hc
      refine E_retI d_TP_choice_33 rfl ?_
      exact ⟨rfl, hS.tr (hS2.wk fun _ => SG.q)⟩
  · have ho : ¬ x < nI 1 → x ≤ nI 8 → False := fun a b => hx (by rw [lt_toInt, nI_toInt (by decide)] at a; rw [le_toInt, nI_toInt (by decide)] at b; unfold inN; omega)
    refine E_iload_n d_TP_choice_0 rfl ?_
    refine E_iconst (v := nI 1) d_TP_choice_1 rfl ?_
    first | (with_reducible refine E_isN2 ?_; refine E_icmp_lt 11 d_TP_choice_2 rfl (nb_lt (by omega) (by omega) fun h2 => ?_) (nb_nlt (by omega) (by omega) fun h2 => ?_)) | refine E_icmp_lt 11 d_TP_choice_2 rfl (fun h2 => ?_) (fun h2 => ?_)
    · refine E_iconst (v := (-1)) d_TP_choice_11 rfl ?_
      refine E_goto 33 d_TP_choice_12 rfl ?_
      refine E_retI d_TP_choice_33 rfl ?_
      exact ⟨by rw [ans_choice, if_neg (fun q => hx q.1)], Sc.rf⟩
    · refine E_iload_n d_TP_choice_5 rfl ?_
      refine E_bipush (v := nI 8) d_TP_choice_6 (by decide) ?_
      first | (with_reducible refine E_isN2 ?_; refine E_icmp_le 15 d_TP_choice_8 rfl (nb_le (by omega) (by omega) fun h8 => ?_) (nb_nle (by omega) (by omega) fun h8 => ?_)) | refine E_icmp_le 15 d_TP_choice_8 rfl (fun h8 => ?_) (fun h8 => ?_)
      · exfalso; exact ho h2 h8
      refine E_iconst (v := (-1)) d_TP_choice_11 rfl ?_
      refine E_goto 33 d_TP_choice_12 rfl ?_
      refine E_retI d_TP_choice_33 rfl ?_
      exact ⟨by rw [ans_choice, if_neg (fun q => hx q.1)], Sc.rf⟩
theorem nI_orn (x y z n : Nat) (hx : x < 2 ^ n) (hy : y < 2 ^ n) (hz : z = 2 ^ n - 1) (hn : n ≤ 8) : nI z &&& (nI y ||| (nI x ^^^ (-1))) = nI (andn z (andn x y)) := by
  have e : nI z &&& (nI y ||| (nI x ^^^ (-1))) = (nI z &&& nI y) ||| (nI z &&& (nI x ^^^ (-1))) := by
    apply Int32.toBitVec_inj.mp
    rw [Int32.toBitVec_and, Int32.toBitVec_or, Int32.toBitVec_or, Int32.toBitVec_and, Int32.toBitVec_and]
    exact BitVec.and_or_distrib_left
  rw [e, nI_andn, nI_and, nI_or]
  congr 1
  apply Nat.eq_of_testBit_eq
  intro k
  rw [Nat.testBit_or, Nat.testBit_and, andn_bit, andn_bit, andn_bit]
  cases z.testBit k <;> cases y.testBit k <;> cases x.testBit k <;> rfl
theorem sp_TP_honest (hC : CM c G M) : E 6 0 0 Y_TP_honest 0 [some (.ref 0), none, none] [] G M (QI G fun r M' => r = ans_honest c ∧ Sc CQ M M') := by
  have hG := hC.G
  have hp8 := hC.w.p8
  have hpos : 1 ≤ 2 ^ c.now.people := Nat.one_le_two_pow
  first | refine E_aload_n d_TP_honest_0 rfl ?_ | refine E_aload_nN d_TP_honest_0 rfl ?_
  refine E_V0 (sp_TP_look hC) d_TP_honest_1 ml_TP_217 cb_TP_look cv_TP_look (by first | exact hG.s (by decide) rfl) ⟨by decide, rfl⟩ ⟨by decide, by decide⟩ rfl (Nat.le_of_ble_eq_true rfl) (Nat.le_of_ble_eq_true rfl) (kR fun r1 M1 hc => ?_)
  obtain ⟨rfl, hO, hC1, hS1⟩ := hc; have hM := OM.of hC1 hO; have hS := hS1.wk (P' := CQ) (fun _ => SO.q)
  first | refine E_astore_1 d_TP_honest_4 rfl ?_ | refine E_astoreN_1 d_TP_honest_4 rfl ?_
  refine E_iconst (v := nI 1) d_TP_honest_5 rfl ?_
  first | refine E_aload_n d_TP_honest_6 rfl ?_ | refine E_aload_nN d_TP_honest_6 rfl ?_
  refine E_getR d_TP_honest_7 gf_TP_10 (by first | exact hG.s (by decide) rfl) (by first | exact hC1.R.o rfl | exact hC1.R.c cr1 rfl) ?_
  refine E_getR d_TP_honest_10 gf_TP_128 (by first | exact hG.s (by decide) rfl) (by first | exact hC1.R.o rfl | exact hC1.R.c cr1 rfl) ?_
  refine E_getI d_TP_honest_13 gf_TP_310 (by first | exact hG.s (by decide) rfl) (by exact hC1.now.people) ?_
  first | (with_reducible refine E_isN2 ?_; first | refine E_ishl1 d_TP_honest_16 (by omega) ?_ | refine E_ishlN d_TP_honest_16 (by omega) (by omega) ?_) | refine E_ishl d_TP_honest_16 ?_
  refine E_iconst (v := nI 1) d_TP_honest_17 rfl ?_
  first | (with_reducible refine E_isN2 ?_; refine E_isubN d_TP_honest_18 (by omega) ?_) | refine E_isub d_TP_honest_18 ?_
  refine E_istore_2 d_TP_honest_19 rfl ?_
  refine E_iload_n d_TP_honest_20 rfl ?_
  first | refine E_aload_n d_TP_honest_21 rfl ?_ | refine E_aload_nN d_TP_honest_21 rfl ?_
  refine E_V0 (sp_Ou_yesByAll hM) d_TP_honest_22 ml_TP_277 cb_Ou_yesByAll cv_Ou_yesByAll (by first | exact hG.s (by decide) rfl) ⟨by decide, rfl⟩ ⟨by decide, by decide⟩ rfl (Nat.le_of_ble_eq_true rfl) (Nat.le_of_ble_eq_true rfl) (kI fun r1 M1 hc => ?_)
  obtain ⟨rfl, rfl⟩ := hc
  first | refine E_aload_n d_TP_honest_25 rfl ?_ | refine E_aload_nN d_TP_honest_25 rfl ?_
  refine E_V0 (sp_Ou_yesByAny hM) d_TP_honest_26 ml_TP_274 cb_Ou_yesByAny cv_Ou_yesByAny (by first | exact hG.s (by decide) rfl) ⟨by decide, rfl⟩ ⟨by decide, by decide⟩ rfl (Nat.le_of_ble_eq_true rfl) (Nat.le_of_ble_eq_true rfl) (kI fun r1 M1 hc => ?_)
  obtain ⟨rfl, rfl⟩ := hc
  refine E_iconst (v := (-1)) d_TP_honest_29 rfl ?_
  first | (with_reducible refine E_isN2 ?_; refine E_ixorN d_TP_honest_30 ?_) | refine E_ixor d_TP_honest_30 ?_
  first | (with_reducible refine E_isN2 ?_; refine E_iorN d_TP_honest_31 ?_) | refine E_ior d_TP_honest_31 ?_
  first | (with_reducible refine E_isN2 ?_; refine E_iandN d_TP_honest_32 ?_) | refine E_iand d_TP_honest_32 ?_
  refine E_retI d_TP_honest_33 rfl ?_
  exact ⟨nI_orn _ _ _ c.now.people (anyA_lt c _) (allA_lt c _) rfl hp8, hS⟩
end TPa
