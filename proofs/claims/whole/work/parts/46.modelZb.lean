def passN : Nat → Cr → Cr × Bool
  | 0, c => (c, true)
  | n + 1, c => if c.now.round = 9999 then (c, false) else passN n (tellS c c.now.figure)
theorem lp_TM_arePassed {M0 : Mem} {n : Nat} (hn : n < 2147483648) : ∀ k i, i + k = n → ∀ c M, HM c M → mI M 0 23 = nI 1 → Sx S1 M0 M → E 7 0 0 Y_TM_arePassed 2 [some (.ref 0), some (.int (nI n)), some (.int (nI i))] [] GM M (QI GM fun r M' => r = pI ((passN k c).2 = true) ∧ HM (passN k c).1 M' ∧ Sx S1 M0 M') := by
  intro k
  induction k with
  | zero =>
    intro i hi c M hM hw hX
    have hi2 : i = n := by omega
    subst hi2
    refine E_iload_n d_TM_arePassed_2 rfl ?_
    refine E_iload_n d_TM_arePassed_3 rfl ?_
    first | (with_reducible refine E_isN2 ?_; refine E_icmp_ge 30 d_TM_arePassed_4 rfl (nb_le (by omega) (by omega) fun h4 => ?_) (nb_nle (by omega) (by omega) fun h4 => ?_)) | refine E_icmp_ge 30 d_TM_arePassed_4 rfl (fun h4 => ?_) (fun h4 => ?_)
    rotate_left
    · exfalso; omega
    refine E_iconst (v := nI 1) d_TM_arePassed_30 rfl ?_
    refine E_retZ d_TM_arePassed_31 rfl (by decide) ?_
    exact ⟨rfl, hM, hX⟩
  | succ k ih =>
    intro i hi c M hM hw hX
    have hR := hM.R
    have hA := hM.A
    have hp8 := hM.w.p8
    have hf := hM.w.fig
    have ef := hA.figure
    have hin : inN (nI c.now.figure) (c.now.people + 1) := (inN_nI (by omega)).mpr (by omega)
    by_cases h9 : c.now.round = 9999
    · have e1 : passN (k + 1) c = (c, false) := if_pos h9
      rw [e1]
      have a1 : ans_tell c (nI c.now.figure) = -1 := if_neg (fun q => q.2 h9)
      have a2 : st_tell c (nI c.now.figure) = c := if_neg (fun q => q.2 h9)
      refine E_iload_n d_TM_arePassed_2 rfl ?_
      refine E_iload_n d_TM_arePassed_3 rfl ?_
      first | (with_reducible refine E_isN2 ?_; refine E_icmp_ge 30 d_TM_arePassed_4 rfl (nb_le (by omega) (by omega) fun h4 => ?_) (nb_nle (by omega) (by omega) fun h4 => ?_)) | refine E_icmp_ge 30 d_TM_arePassed_4 rfl (fun h4 => ?_) (fun h4 => ?_)
      · exfalso; omega
      first | refine E_aload_n d_TM_arePassed_7 rfl ?_ | refine E_aload_nN d_TM_arePassed_7 rfl ?_
      first | refine E_aload_n d_TM_arePassed_8 rfl ?_ | refine E_aload_nN d_TM_arePassed_8 rfl ?_
      refine E_getR (q := 1) d_TM_arePassed_9 gf_TM_7 (by exact ⟨by decide, rfl⟩) (by exact hR _ rfl) ?_
      refine E_bipush (v := nI 7) d_TM_arePassed_12 (by decide) ?_
      refine E_iald d_TM_arePassed_14 (by exact ⟨by decide, rfl⟩) (by exact ⟨by with_reducible rfl, by omega, by decide⟩) (by exact ef) ?_
      refine E_V1 (sp_TM_tell hM hw _) d_TM_arePassed_15 ml_TM_323 cb_TM_tell cv_TM_tell (by exact ⟨by decide, rfl⟩) ⟨by decide, rfl⟩ ⟨by decide, by decide⟩ rfl (Nat.le_of_ble_eq_true rfl) (Nat.le_of_ble_eq_true rfl) (kI fun r1 M1 hc => ?_)
      obtain ⟨rfl, hM1, hS1⟩ := hc; rw [a1]; rw [a2] at hM1
      refine E_iconst (v := (-1)) d_TM_arePassed_18 rfl ?_
      first | (with_reducible refine E_isN2 ?_; refine E_icmp_ne 24 d_TM_arePassed_19 rfl (nb_ne fun h19 => ?_) (nb_eq (by omega) (by omega) fun h19 => ?_)) | refine E_icmp_ne 24 d_TM_arePassed_19 rfl (fun h19 => ?_) (fun h19 => ?_)
      · exfalso; exact h19 rfl
      refine E_iconst (v := nI 0) d_TM_arePassed_22 rfl ?_
      refine E_retZ d_TM_arePassed_23 rfl (by decide) ?_
      exact ⟨rfl, hM1, hX.tr hS1⟩
    · have e1 : passN (k + 1) c = passN k (tellS c c.now.figure) := if_neg h9
      rw [e1]
      have a1 : ans_tell c (nI c.now.figure) = nI (tellS c c.now.figure).now.figure := by rw [ans_tell, if_pos ⟨hin, h9⟩, tN_nI (by omega)]
      have a2 : st_tell c (nI c.now.figure) = tellS c c.now.figure := by rw [st_tell, if_pos ⟨hin, h9⟩, tN_nI (by omega)]
      refine E_iload_n d_TM_arePassed_2 rfl ?_
      refine E_iload_n d_TM_arePassed_3 rfl ?_
      first | (with_reducible refine E_isN2 ?_; refine E_icmp_ge 30 d_TM_arePassed_4 rfl (nb_le (by omega) (by omega) fun h4 => ?_) (nb_nle (by omega) (by omega) fun h4 => ?_)) | refine E_icmp_ge 30 d_TM_arePassed_4 rfl (fun h4 => ?_) (fun h4 => ?_)
      · exfalso; omega
      first | refine E_aload_n d_TM_arePassed_7 rfl ?_ | refine E_aload_nN d_TM_arePassed_7 rfl ?_
      first | refine E_aload_n d_TM_arePassed_8 rfl ?_ | refine E_aload_nN d_TM_arePassed_8 rfl ?_
      refine E_getR (q := 1) d_TM_arePassed_9 gf_TM_7 (by exact ⟨by decide, rfl⟩) (by exact hR _ rfl) ?_
      refine E_bipush (v := nI 7) d_TM_arePassed_12 (by decide) ?_
      refine E_iald d_TM_arePassed_14 (by exact ⟨by decide, rfl⟩) (by exact ⟨by with_reducible rfl, by omega, by decide⟩) (by exact ef) ?_
      refine E_V1 (sp_TM_tell hM hw _) d_TM_arePassed_15 ml_TM_323 cb_TM_tell cv_TM_tell (by exact ⟨by decide, rfl⟩) ⟨by decide, rfl⟩ ⟨by decide, by decide⟩ rfl (Nat.le_of_ble_eq_true rfl) (Nat.le_of_ble_eq_true rfl) (kI fun r1 M1 hc => ?_)
      obtain ⟨rfl, hM1, hS1⟩ := hc; rw [a1]; rw [a2] at hM1
      have hf2 := hM1.w.fig8
      refine E_iconst (v := (-1)) d_TM_arePassed_18 rfl ?_
      first | (with_reducible refine E_isN2 ?_; refine E_icmp_ne 24 d_TM_arePassed_19 rfl (nb_ne fun h19 => ?_) (nb_eq (by omega) (by omega) fun h19 => ?_)) | refine E_icmp_ne 24 d_TM_arePassed_19 rfl (fun h19 => ?_) (fun h19 => ?_)
      rotate_left
      · exfalso; exact nI_nm1 (by omega) h19
      first | (with_reducible refine E_isL2 ?_; refine E_iincN2 (m := 1) d_TM_arePassed_24 rfl rfl ?_) | refine E_iinc_2 d_TM_arePassed_24 rfl rfl ?_
      refine E_goto 2 d_TM_arePassed_27 rfl ?_
      exact ih (i + 1) (by omega) _ _ hM1 (fl1 hS1 hw) (hX.tr hS1)
theorem sp_TM_arePassed {c : Cr} {M : Mem} {n : Nat} (hM : HM c M) (hw : mI M 0 23 = nI 1) (hn : n < 2147483648) : E 7 0 0 Y_TM_arePassed 0 [some (.ref 0), some (.int (nI n)), none] [] GM M (QI GM fun r M' => r = pI ((passN n c).2 = true) ∧ HM (passN n c).1 M' ∧ Sx S1 M M') := by
  refine E_iconst (v := nI 0) d_TM_arePassed_0 rfl ?_
  refine E_istore_2 d_TM_arePassed_1 rfl ?_
  exact lp_TM_arePassed hn n 0 (Nat.zero_add _) c M hM hw Sx.rf
theorem passN_ok : ∀ n c, c.now.round + n ≤ 9999 → (passN n c).2 = true := by
  intro n
  induction n with
  | zero => intro c _; rfl
  | succ n ih =>
    intro c h
    rw [passN, if_neg (by omega)]
    exact ih _ (by show c.now.round + 1 + n ≤ 9999; omega)
abbrev dayP (c : Cr) (x : Int32) : Prop := inN x 61 ∧ tN x ≠ 0 ∧ c.now.round + tN x ≤ 9999
def ans_day (c : Cr) (x : Int32) : Int32 := if dayP c x then nI (passN (tN x) c).1.now.figure else -1
def st_day (c : Cr) (x : Int32) : Cr := if dayP c x then (passN (tN x) c).1 else c
theorem sp_TM_day {c : Cr} {M : Mem} (hM : HM c M) (hw : mI M 0 23 = nI 1) (x : Int32) : E 8 0 0 Y_TM_day 0 [some (.ref 0), some (.int x)] [] GM M (QI GM fun r M' => r = ans_day c x ∧ HM (st_day c x) M' ∧ Sx S1 M M') := by
  have hR := hM.R
  have hA := hM.A
  have hr := hM.w.round
  have er := hA.round
  have hl : (nI 1 ≤ x ∧ x ≤ nI 60) ↔ (1 ≤ x.toInt ∧ x.toInt ≤ 60) := isIn_lh (by decide) (by decide)
  revert hl
  revert x
  refine args1 61 (fun n hn hx ht hl => ?_) (fun x hx hl => ?_)
  · rw [nI_toInt (by omega)] at hl
    by_cases hd : dayP c (nI n)
    · have hd2 := hd.2
      rw [ht] at hd2
      have hok := passN_ok n c hd2.2
      rw [ans_day, st_day, if_pos hd, if_pos hd, ht]
      refine E_iload_n d_TM_day_0 rfl ?_
      refine E_iconst (v := nI 1) d_TM_day_1 rfl ?_
      refine E_bipush (v := nI 60) d_TM_day_2 (by decide) ?_
      refine E_S3 (sp_TM_isIn _ _ _) d_TM_day_4 ml_TM_69 cb_TM_isIn cs_TM_isIn ⟨by decide, by decide⟩ rfl (Nat.le_of_ble_eq_true rfl) (Nat.le_of_ble_eq_true rfl) (kI fun r1 M1 hc => ?_)
      obtain ⟨rfl, rfl⟩ := hc
      first | (with_reducible refine E_isP ?_; refine E_if_eq 42 d_TM_day_7 rfl (pb_0 fun h7 => ?_) (pb_1 fun h7 => ?_)) | (with_reducible refine E_isN1 ?_; refine E_if_eq 42 d_TM_day_7 rfl (nz_eq (by omega) fun h7 => ?_) (nz_ne fun h7 => ?_)) | refine E_if_eq 42 d_TM_day_7 rfl (fun h7 => ?_) (fun h7 => ?_)
      · exfalso; have := hd2.1; exact h7 (hl.mpr ⟨by omega, by omega⟩)
      first | refine E_aload_n d_TM_day_10 rfl ?_ | refine E_aload_nN d_TM_day_10 rfl ?_
      refine E_getR (q := 1) d_TM_day_11 gf_TM_7 (by exact ⟨by decide, rfl⟩) (by exact hR _ rfl) ?_
      refine E_iconst (v := nI 5) d_TM_day_14 rfl ?_
      refine E_iald d_TM_day_15 (by exact ⟨by decide, rfl⟩) (by exact ⟨by with_reducible rfl, by omega, by decide⟩) (by exact er) ?_
      refine E_iload_n d_TM_day_16 rfl ?_
      first | (with_reducible refine E_isN2 ?_; refine E_iaddN d_TM_day_17 ?_) | refine E_iadd d_TM_day_17 ?_
      refine E_sipush (v := nI 9999) d_TM_day_18 (by decide) ?_
      first | (with_reducible refine E_isN2 ?_; refine E_icmp_gt 42 d_TM_day_21 rfl (nb_lt (by omega) (by omega) fun h21 => ?_) (nb_nlt (by omega) (by omega) fun h21 => ?_)) | refine E_icmp_gt 42 d_TM_day_21 rfl (fun h21 => ?_) (fun h21 => ?_)
      · exfalso; omega
      first | refine E_aload_n d_TM_day_24 rfl ?_ | refine E_aload_nN d_TM_day_24 rfl ?_
      refine E_iload_n d_TM_day_25 rfl ?_
      refine E_V1 (sp_TM_arePassed hM hw (by omega)) d_TM_day_26 ml_TM_326 cb_TM_arePassed cv_TM_arePassed (by exact ⟨by decide, rfl⟩) ⟨by decide, rfl⟩ ⟨by decide, by decide⟩ rfl (Nat.le_of_ble_eq_true rfl) (Nat.le_of_ble_eq_true rfl) (kI fun r1 M1 hc => ?_)
      obtain ⟨rfl, hM1, hS1⟩ := hc
      have hR := hM1.R
      first | (with_reducible refine E_isP ?_; refine E_if_eq 42 d_TM_day_29 rfl (pb_0 fun h29 => ?_) (pb_1 fun h29 => ?_)) | (with_reducible refine E_isN1 ?_; refine E_if_eq 42 d_TM_day_29 rfl (nz_eq (by omega) fun h29 => ?_) (nz_ne fun h29 => ?_)) | refine E_if_eq 42 d_TM_day_29 rfl (fun h29 => ?_) (fun h29 => ?_)
      · exfalso; exact h29 hok
      first | refine E_aload_n d_TM_day_32 rfl ?_ | refine E_aload_nN d_TM_day_32 rfl ?_
      refine E_getR (q := 1) d_TM_day_33 gf_TM_7 (by exact ⟨by decide, rfl⟩) (by exact hR _ rfl) ?_
      refine E_bipush (v := nI 7) d_TM_day_36 (by decide) ?_
      refine E_iald d_TM_day_38 (by exact ⟨by decide, rfl⟩) (by exact ⟨by with_reducible rfl, by omega, by decide⟩) (by exact hM1.A.figure) ?_
      refine E_goto 43 d_TM_day_39 rfl ?_
      refine E_retI d_TM_day_43 rfl ?_
      exact ⟨rfl, hM1, hS1⟩
    · rw [ans_day, st_day, if_neg hd, if_neg hd]
      have hd3 : n ≠ 0 → c.now.round + n ≤ 9999 → False := fun a b => hd ⟨hx, by rw [ht]; exact a, by rw [ht]; exact b⟩
      refine E_iload_n d_TM_day_0 rfl ?_
      refine E_iconst (v := nI 1) d_TM_day_1 rfl ?_
      refine E_bipush (v := nI 60) d_TM_day_2 (by decide) ?_
      refine E_S3 (sp_TM_isIn _ _ _) d_TM_day_4 ml_TM_69 cb_TM_isIn cs_TM_isIn ⟨by decide, by decide⟩ rfl (Nat.le_of_ble_eq_true rfl) (Nat.le_of_ble_eq_true rfl) (kI fun r1 M1 hc => ?_)
      obtain ⟨rfl, rfl⟩ := hc
      first | (with_reducible refine E_isP ?_; refine E_if_eq 42 d_TM_day_7 rfl (pb_0 fun h7 => ?_) (pb_1 fun h7 => ?_)) | (with_reducible refine E_isN1 ?_; refine E_if_eq 42 d_TM_day_7 rfl (nz_eq (by omega) fun h7 => ?_) (nz_ne fun h7 => ?_)) | refine E_if_eq 42 d_TM_day_7 rfl (fun h7 => ?_) (fun h7 => ?_)
      · refine E_iconst (v := (-1)) d_TM_day_42 rfl ?_
        refine E_retI d_TM_day_43 rfl ?_
        exact ⟨rfl, hM, Sx.rf⟩
      · first | refine E_aload_n d_TM_day_10 rfl ?_ | refine E_aload_nN d_TM_day_10 rfl ?_
        refine E_getR (q := 1) d_TM_day_11 gf_TM_7 (by exact ⟨by decide, rfl⟩) (by exact hR _ rfl) ?_
        refine E_iconst (v := nI 5) d_TM_day_14 rfl ?_
        refine E_iald d_TM_day_15 (by exact ⟨by decide, rfl⟩) (by exact ⟨by with_reducible rfl, by omega, by decide⟩) (by exact er) ?_
        refine E_iload_n d_TM_day_16 rfl ?_
        first | (with_reducible refine E_isN2 ?_; refine E_iaddN d_TM_day_17 ?_) | refine E_iadd d_TM_day_17 ?_
        refine E_sipush (v := nI 9999) d_TM_day_18 (by decide) ?_
        first | (with_reducible refine E_isN2 ?_; refine E_icmp_gt 42 d_TM_day_21 rfl (nb_lt (by omega) (by omega) fun h21 => ?_) (nb_nlt (by omega) (by omega) fun h21 => ?_)) | refine E_icmp_gt 42 d_TM_day_21 rfl (fun h21 => ?_) (fun h21 => ?_)
        rotate_left
        · exfalso; have := hl.mp h7; exact hd3 (by omega) (by omega)
        refine E_iconst (v := (-1)) d_TM_day_42 rfl ?_
        refine E_retI d_TM_day_43 rfl ?_
        exact ⟨rfl, hM, Sx.rf⟩
  · have hd : ¬ dayP c x := fun q => hx q.1
    rw [ans_day, st_day, if_neg hd, if_neg hd]
    refine E_iload_n d_TM_day_0 rfl ?_
    refine E_iconst (v := nI 1) d_TM_day_1 rfl ?_
    refine E_bipush (v := nI 60) d_TM_day_2 (by decide) ?_
    refine E_S3 (sp_TM_isIn _ _ _) d_TM_day_4 ml_TM_69 cb_TM_isIn cs_TM_isIn ⟨by decide, by decide⟩ rfl (Nat.le_of_ble_eq_true rfl) (Nat.le_of_ble_eq_true rfl) (kI fun r1 M1 hc => ?_)
    obtain ⟨rfl, rfl⟩ := hc
    first | (with_reducible refine E_isP ?_; refine E_if_eq 42 d_TM_day_7 rfl (pb_0 fun h7 => ?_) (pb_1 fun h7 => ?_)) | (with_reducible refine E_isN1 ?_; refine E_if_eq 42 d_TM_day_7 rfl (nz_eq (by omega) fun h7 => ?_) (nz_ne fun h7 => ?_)) | refine E_if_eq 42 d_TM_day_7 rfl (fun h7 => ?_) (fun h7 => ?_)
    rotate_left
    · exfalso; have := hl.mp h7; exact hx ⟨by omega, by omega⟩
    refine E_iconst (v := (-1)) d_TM_day_42 rfl ?_
    refine E_retI d_TM_day_43 rfl ?_
    exact ⟨rfl, hM, Sx.rf⟩
def happ (c : Cr) (x : Nat) : Cr :=
  if x % 6 = 0 then (if nudP c (nI (x / 6 % 8)) 1 then shiftS c (x / 6 % 8) 1 else c)
  else if x % 6 = 1 then (if nudP c (nI (x / 6 % 8)) (-1) then shiftS c (x / 6 % 8) (-1) else c)
  else if x % 6 = 2 then (if x % 4 = 2 ∧ x / 6 % 9 ≤ c.now.people ∧ c.now.round < 9999 then passS true c (x / 6 % 9) else c)
  else if c.now.round < 9999 then passS true c c.now.figure else c
theorem sp_TM_happens {c : Cr} {M : Mem} {x : Nat} (hM : HM c M) (hw : mI M 0 23 = nI 1) (hx : x < 31033) : E 6 0 0 Y_TM_happens 0 [some (.ref 0), some (.int (nI x)), none] [] GM M (QV GM fun M' => HM (happ c x) M' ∧ Sx S1 M M') := by
  have hR := hM.R
  have hA := hM.A
  have hwf := hM.w
  have hp8 := hwf.p8
  have hr := hwf.round
  have er := hA.round
  have ef := hA.figure
  have hf8 := hwf.fig8
  by_cases h0 : x % 6 = 0
  · rw [happ, if_pos h0]
    by_cases hn : nudP c (nI (x / 6 % 8)) 1
    · rw [if_pos hn]
      have hp := (in_nI hn.1).2
      have htn : tN (nI (x / 6 % 8)) = x / 6 % 8 := tN_nI (by omega)
      rw [htn] at hp
      have hl9 := hwf.lean9 (x / 6 % 8)
      have el := hA.lean hp
      have hM2 : HM (shiftS c (x / 6 % 8) 1) (wI M 1 (10 + x / 6 % 8) (nI (c.now.lean (x / 6 % 8) + 1))) := by
        have := HM_shift (v := nI (c.now.lean (x / 6 % 8) + 1)) hM hn (by rw [htn, ← nI_add]; rfl)
        rwa [htn] at this
      refine E_iload_n d_TM_happens_0 rfl ?_
      refine E_bipush (v := nI 6) d_TM_happens_1 (by decide) ?_
      first | (with_reducible refine E_isN2 ?_; refine E_idivN d_TM_happens_3 (by omega) (by omega) (by omega) ?_) | refine E_idiv d_TM_happens_3 (by decide) ?_
      refine E_bipush (v := nI 8) d_TM_happens_4 (by decide) ?_
      first | (with_reducible refine E_isN2 ?_; refine E_iremN d_TM_happens_6 (by omega) (by omega) (by omega) ?_) | refine E_irem d_TM_happens_6 (by decide) ?_
      refine E_istore_2 d_TM_happens_7 rfl ?_
      refine E_iload_n d_TM_happens_8 rfl ?_
      refine E_bipush (v := nI 6) d_TM_happens_9 (by decide) ?_
      first | (with_reducible refine E_isN2 ?_; refine E_iremN d_TM_happens_11 (by omega) (by omega) (by omega) ?_) | refine E_irem d_TM_happens_11 (by decide) ?_
      rw [h0]
      refine E_tableIn 40 d_TM_happens_12 (by decide) (by decide) (by first | rfl | decide) rfl ?_
      first | refine E_aload_n d_TM_happens_40 rfl ?_ | refine E_aload_nN d_TM_happens_40 rfl ?_
      refine E_iload_n d_TM_happens_41 rfl ?_
      refine E_iconst (v := nI 1) d_TM_happens_42 rfl ?_
      refine E_V2 (sp_TM_canNudge hM _ _) d_TM_happens_43 ml_TM_320 cb_TM_canNudge cv_TM_canNudge (by exact ⟨by decide, rfl⟩) ⟨by decide, rfl⟩ ⟨by decide, by decide⟩ rfl (Nat.le_of_ble_eq_true rfl) (Nat.le_of_ble_eq_true rfl) (kI fun r1 M1 hc => ?_)
      obtain ⟨rfl, rfl⟩ := hc
      first | (with_reducible refine E_isP ?_; refine E_if_eq 160 d_TM_happens_46 rfl (pb_0 fun h46 => ?_) (pb_1 fun h46 => ?_)) | (with_reducible refine E_isN1 ?_; refine E_if_eq 160 d_TM_happens_46 rfl (nz_eq (by omega) fun h46 => ?_) (nz_ne fun h46 => ?_)) | refine E_if_eq 160 d_TM_happens_46 rfl (fun h46 => ?_) (fun h46 => ?_)
      · exfalso; exact h46 hn
      first | refine E_aload_n d_TM_happens_49 rfl ?_ | refine E_aload_nN d_TM_happens_49 rfl ?_
      refine E_getR (q := 1) d_TM_happens_50 gf_TM_7 (by exact ⟨by decide, rfl⟩) (by exact hR _ rfl) ?_
      refine E_bipush (v := nI 10) d_TM_happens_53 (by decide) ?_
      refine E_iload_n d_TM_happens_55 rfl ?_
      first | (with_reducible refine E_isN2 ?_; refine E_iaddN d_TM_happens_56 ?_) | refine E_iadd d_TM_happens_56 ?_
      refine E_dup2 d_TM_happens_57 rfl rfl ?_
      refine E_iald d_TM_happens_58 (by exact ⟨by decide, rfl⟩) (by exact ⟨by with_reducible rfl, by omega, by decide⟩) (by exact el) ?_
      refine E_iconst (v := nI 1) d_TM_happens_59 rfl ?_
      first | (with_reducible refine E_isN2 ?_; refine E_iaddN d_TM_happens_60 ?_) | refine E_iadd d_TM_happens_60 ?_
      refine E_iast d_TM_happens_61 (by exact ⟨by decide, rfl⟩) (by exact ⟨by with_reducible rfl, by omega, by decide⟩) ?_
      refine E_goto 160 d_TM_happens_62 rfl ?_
      refine E_retV d_TM_happens_160 rfl ?_
      exact ⟨hM2, Sx.rf.wI S1.o⟩
    · rw [if_neg hn]
      refine E_iload_n d_TM_happens_0 rfl ?_
      refine E_bipush (v := nI 6) d_TM_happens_1 (by decide) ?_
      first | (with_reducible refine E_isN2 ?_; refine E_idivN d_TM_happens_3 (by omega) (by omega) (by omega) ?_) | refine E_idiv d_TM_happens_3 (by decide) ?_
      refine E_bipush (v := nI 8) d_TM_happens_4 (by decide) ?_
      first | (with_reducible refine E_isN2 ?_; refine E_iremN d_TM_happens_6 (by omega) (by omega) (by omega) ?_) | refine E_irem d_TM_happens_6 (by decide) ?_
      refine E_istore_2 d_TM_happens_7 rfl ?_
      refine E_iload_n d_TM_happens_8 rfl ?_
      refine E_bipush (v := nI 6) d_TM_happens_9 (by decide) ?_
      first | (with_reducible refine E_isN2 ?_; refine E_iremN d_TM_happens_11 (by omega) (by omega) (by omega) ?_) | refine E_irem d_TM_happens_11 (by decide) ?_
      rw [h0]
      refine E_tableIn 40 d_TM_happens_12 (by decide) (by decide) (by first | rfl | decide) rfl ?_
      first | refine E_aload_n d_TM_happens_40 rfl ?_ | refine E_aload_nN d_TM_happens_40 rfl ?_
      refine E_iload_n d_TM_happens_41 rfl ?_
      refine E_iconst (v := nI 1) d_TM_happens_42 rfl ?_
      refine E_V2 (sp_TM_canNudge hM _ _) d_TM_happens_43 ml_TM_320 cb_TM_canNudge cv_TM_canNudge (by exact ⟨by decide, rfl⟩) ⟨by decide, rfl⟩ ⟨by decide, by decide⟩ rfl (Nat.le_of_ble_eq_true rfl) (Nat.le_of_ble_eq_true rfl) (kI fun r1 M1 hc => ?_)
      obtain ⟨rfl, rfl⟩ := hc
      first | (with_reducible refine E_isP ?_; refine E_if_eq 160 d_TM_happens_46 rfl (pb_0 fun h46 => ?_) (pb_1 fun h46 => ?_)) | (with_reducible refine E_isN1 ?_; refine E_if_eq 160 d_TM_happens_46 rfl (nz_eq (by omega) fun h46 => ?_) (nz_ne fun h46 => ?_)) | refine E_if_eq 160 d_TM_happens_46 rfl (fun h46 => ?_) (fun h46 => ?_)
      rotate_left
      · exfalso; exact hn h46
      refine E_retV d_TM_happens_160 rfl ?_
      exact ⟨hM, Sx.rf⟩
  · by_cases h1 : x % 6 = 1
    · rw [happ, if_neg h0, if_pos h1]
      by_cases hn : nudP c (nI (x / 6 % 8)) (-1)
      · rw [if_pos hn]
        have hp := (in_nI hn.1).2
        have htn : tN (nI (x / 6 % 8)) = x / 6 % 8 := tN_nI (by omega)
        rw [htn] at hp
        have hl9 := hwf.lean9 (x / 6 % 8)
        have el := hA.lean hp
        have h11 : 1 ≤ c.now.lean (x / 6 % 8) := by
          have := hn.2.2.2.1
          rw [htn, show (-1 : Int32).toInt = -1 from by decide] at this
          omega
        have hM2 : HM (shiftS c (x / 6 % 8) (-1)) (wI M 1 (10 + x / 6 % 8) (nI (c.now.lean (x / 6 % 8) - 1))) := by
          have := HM_shift (v := nI (c.now.lean (x / 6 % 8) - 1)) hM hn (by rw [htn, ← pk_sub h11, Int32.sub_eq_add_neg]; rfl)
          rwa [htn] at this
        refine E_iload_n d_TM_happens_0 rfl ?_
        refine E_bipush (v := nI 6) d_TM_happens_1 (by decide) ?_
        first | (with_reducible refine E_isN2 ?_; refine E_idivN d_TM_happens_3 (by omega) (by omega) (by omega) ?_) | refine E_idiv d_TM_happens_3 (by decide) ?_
        refine E_bipush (v := nI 8) d_TM_happens_4 (by decide) ?_
        first | (with_reducible refine E_isN2 ?_; refine E_iremN d_TM_happens_6 (by omega) (by omega) (by omega) ?_) | refine E_irem d_TM_happens_6 (by decide) ?_
        refine E_istore_2 d_TM_happens_7 rfl ?_
        refine E_iload_n d_TM_happens_8 rfl ?_
        refine E_bipush (v := nI 6) d_TM_happens_9 (by decide) ?_
        first | (with_reducible refine E_isN2 ?_; refine E_iremN d_TM_happens_11 (by omega) (by omega) (by omega) ?_) | refine E_irem d_TM_happens_11 (by decide) ?_
        rw [h1]
        refine E_tableIn 65 d_TM_happens_12 (by decide) (by decide) (by first | rfl | decide) rfl ?_
        first | refine E_aload_n d_TM_happens_65 rfl ?_ | refine E_aload_nN d_TM_happens_65 rfl ?_
        refine E_iload_n d_TM_happens_66 rfl ?_
        refine E_iconst (v := (-1)) d_TM_happens_67 rfl ?_
        refine E_V2 (sp_TM_canNudge hM _ _) d_TM_happens_68 ml_TM_320 cb_TM_canNudge cv_TM_canNudge (by exact ⟨by decide, rfl⟩) ⟨by decide, rfl⟩ ⟨by decide, by decide⟩ rfl (Nat.le_of_ble_eq_true rfl) (Nat.le_of_ble_eq_true rfl) (kI fun r1 M1 hc => ?_)
        obtain ⟨rfl, rfl⟩ := hc
        first | (with_reducible refine E_isP ?_; refine E_if_eq 160 d_TM_happens_71 rfl (pb_0 fun h71 => ?_) (pb_1 fun h71 => ?_)) | (with_reducible refine E_isN1 ?_; refine E_if_eq 160 d_TM_happens_71 rfl (nz_eq (by omega) fun h71 => ?_) (nz_ne fun h71 => ?_)) | refine E_if_eq 160 d_TM_happens_71 rfl (fun h71 => ?_) (fun h71 => ?_)
        · exfalso; exact h71 hn
        first | refine E_aload_n d_TM_happens_74 rfl ?_ | refine E_aload_nN d_TM_happens_74 rfl ?_
        refine E_getR (q := 1) d_TM_happens_75 gf_TM_7 (by exact ⟨by decide, rfl⟩) (by exact hR _ rfl) ?_
        refine E_bipush (v := nI 10) d_TM_happens_78 (by decide) ?_
        refine E_iload_n d_TM_happens_80 rfl ?_
        first | (with_reducible refine E_isN2 ?_; refine E_iaddN d_TM_happens_81 ?_) | refine E_iadd d_TM_happens_81 ?_
        refine E_dup2 d_TM_happens_82 rfl rfl ?_
        refine E_iald d_TM_happens_83 (by exact ⟨by decide, rfl⟩) (by exact ⟨by with_reducible rfl, by omega, by decide⟩) (by exact el) ?_
        refine E_iconst (v := nI 1) d_TM_happens_84 rfl ?_
        first | (with_reducible refine E_isN2 ?_; refine E_isubN d_TM_happens_85 (by omega) ?_) | refine E_isub d_TM_happens_85 ?_
        refine E_iast d_TM_happens_86 (by exact ⟨by decide, rfl⟩) (by exact ⟨by with_reducible rfl, by omega, by decide⟩) ?_
        refine E_goto 160 d_TM_happens_87 rfl ?_
        refine E_retV d_TM_happens_160 rfl ?_
        exact ⟨hM2, Sx.rf.wI S1.o⟩
      · rw [if_neg hn]
        refine E_iload_n d_TM_happens_0 rfl ?_
        refine E_bipush (v := nI 6) d_TM_happens_1 (by decide) ?_
        first | (with_reducible refine E_isN2 ?_; refine E_idivN d_TM_happens_3 (by omega) (by omega) (by omega) ?_) | refine E_idiv d_TM_happens_3 (by decide) ?_
        refine E_bipush (v := nI 8) d_TM_happens_4 (by decide) ?_
        first | (with_reducible refine E_isN2 ?_; refine E_iremN d_TM_happens_6 (by omega) (by omega) (by omega) ?_) | refine E_irem d_TM_happens_6 (by decide) ?_
        refine E_istore_2 d_TM_happens_7 rfl ?_
        refine E_iload_n d_TM_happens_8 rfl ?_
        refine E_bipush (v := nI 6) d_TM_happens_9 (by decide) ?_
        first | (with_reducible refine E_isN2 ?_; refine E_iremN d_TM_happens_11 (by omega) (by omega) (by omega) ?_) | refine E_irem d_TM_happens_11 (by decide) ?_
        rw [h1]
        refine E_tableIn 65 d_TM_happens_12 (by decide) (by decide) (by first | rfl | decide) rfl ?_
        first | refine E_aload_n d_TM_happens_65 rfl ?_ | refine E_aload_nN d_TM_happens_65 rfl ?_
        refine E_iload_n d_TM_happens_66 rfl ?_
        refine E_iconst (v := (-1)) d_TM_happens_67 rfl ?_
        refine E_V2 (sp_TM_canNudge hM _ _) d_TM_happens_68 ml_TM_320 cb_TM_canNudge cv_TM_canNudge (by exact ⟨by decide, rfl⟩) ⟨by decide, rfl⟩ ⟨by decide, by decide⟩ rfl (Nat.le_of_ble_eq_true rfl) (Nat.le_of_ble_eq_true rfl) (kI fun r1 M1 hc => ?_)
        obtain ⟨rfl, rfl⟩ := hc
        first | (with_reducible refine E_isP ?_; refine E_if_eq 160 d_TM_happens_71 rfl (pb_0 fun h71 => ?_) (pb_1 fun h71 => ?_)) | (with_reducible refine E_isN1 ?_; refine E_if_eq 160 d_TM_happens_71 rfl (nz_eq (by omega) fun h71 => ?_) (nz_ne fun h71 => ?_)) | refine E_if_eq 160 d_TM_happens_71 rfl (fun h71 => ?_) (fun h71 => ?_)
        rotate_left
        · exfalso; exact hn h71
        refine E_retV d_TM_happens_160 rfl ?_
        exact ⟨hM, Sx.rf⟩
    · by_cases h2 : x % 6 = 2
      · rw [happ, if_neg h0, if_neg h1, if_pos h2]
        have hin : inN (nI (x / 6 % 9)) (c.now.people + 1) ↔ x / 6 % 9 < c.now.people + 1 := inN_nI (by omega)
        by_cases hc : x % 4 = 2 ∧ x / 6 % 9 ≤ c.now.people ∧ c.now.round < 9999
        · rw [if_pos hc]
          have c1 := hc.1
          have c2 := hc.2.1
          have c3 := hc.2.2
          refine E_iload_n d_TM_happens_0 rfl ?_
          refine E_bipush (v := nI 6) d_TM_happens_1 (by decide) ?_
          first | (with_reducible refine E_isN2 ?_; refine E_idivN d_TM_happens_3 (by omega) (by omega) (by omega) ?_) | refine E_idiv d_TM_happens_3 (by decide) ?_
          refine E_bipush (v := nI 8) d_TM_happens_4 (by decide) ?_
          first | (with_reducible refine E_isN2 ?_; refine E_iremN d_TM_happens_6 (by omega) (by omega) (by omega) ?_) | refine E_irem d_TM_happens_6 (by decide) ?_
          refine E_istore_2 d_TM_happens_7 rfl ?_
          refine E_iload_n d_TM_happens_8 rfl ?_
          refine E_bipush (v := nI 6) d_TM_happens_9 (by decide) ?_
          first | (with_reducible refine E_isN2 ?_; refine E_iremN d_TM_happens_11 (by omega) (by omega) (by omega) ?_) | refine E_irem d_TM_happens_11 (by decide) ?_
          rw [h2]
          refine E_tableIn 90 d_TM_happens_12 (by decide) (by decide) (by first | rfl | decide) rfl ?_
          refine E_iload_n d_TM_happens_90 rfl ?_
          refine E_iconst (v := nI 4) d_TM_happens_91 rfl ?_
          first | (with_reducible refine E_isN2 ?_; refine E_iremN d_TM_happens_92 (by omega) (by omega) (by omega) ?_) | refine E_irem d_TM_happens_92 (by decide) ?_
          refine E_iconst (v := nI 2) d_TM_happens_93 rfl ?_
          first | (with_reducible refine E_isN2 ?_; refine E_icmp_ne 160 d_TM_happens_94 rfl (nb_ne fun h94 => ?_) (nb_eq (by omega) (by omega) fun h94 => ?_)) | refine E_icmp_ne 160 d_TM_happens_94 rfl (fun h94 => ?_) (fun h94 => ?_)
          · exfalso; omega
          first | refine E_aload_n d_TM_happens_97 rfl ?_ | refine E_aload_nN d_TM_happens_97 rfl ?_
          refine E_iload_n d_TM_happens_98 rfl ?_
          refine E_bipush (v := nI 6) d_TM_happens_99 (by decide) ?_
          first | (with_reducible refine E_isN2 ?_; refine E_idivN d_TM_happens_101 (by omega) (by omega) (by omega) ?_) | refine E_idiv d_TM_happens_101 (by decide) ?_
          refine E_bipush (v := nI 9) d_TM_happens_102 (by decide) ?_
          first | (with_reducible refine E_isN2 ?_; refine E_iremN d_TM_happens_104 (by omega) (by omega) (by omega) ?_) | refine E_irem d_TM_happens_104 (by decide) ?_
          refine E_V1 (sp_TM_canBeTold hR hA hwf _) d_TM_happens_105 ml_TM_311 cb_TM_canBeTold cv_TM_canBeTold (by exact ⟨by decide, rfl⟩) ⟨by decide, rfl⟩ ⟨by decide, by decide⟩ rfl (Nat.le_of_ble_eq_true rfl) (Nat.le_of_ble_eq_true rfl) (kI fun r1 M1 hc => ?_)
          obtain ⟨rfl, rfl⟩ := hc
          first | (with_reducible refine E_isP ?_; refine E_if_eq 160 d_TM_happens_108 rfl (pb_0 fun h108 => ?_) (pb_1 fun h108 => ?_)) | (with_reducible refine E_isN1 ?_; refine E_if_eq 160 d_TM_happens_108 rfl (nz_eq (by omega) fun h108 => ?_) (nz_ne fun h108 => ?_)) | refine E_if_eq 160 d_TM_happens_108 rfl (fun h108 => ?_) (fun h108 => ?_)
          · exfalso; exact h108 (hin.mpr (by omega))
          first | refine E_aload_n d_TM_happens_111 rfl ?_ | refine E_aload_nN d_TM_happens_111 rfl ?_
          refine E_getR (q := 1) d_TM_happens_112 gf_TM_7 (by exact ⟨by decide, rfl⟩) (by exact hR _ rfl) ?_
          refine E_iconst (v := nI 5) d_TM_happens_115 rfl ?_
          refine E_iald d_TM_happens_116 (by exact ⟨by decide, rfl⟩) (by exact ⟨by with_reducible rfl, by omega, by decide⟩) (by exact er) ?_
          refine E_sipush (v := nI 9999) d_TM_happens_117 (by decide) ?_
          first | (with_reducible refine E_isN2 ?_; refine E_icmp_ge 160 d_TM_happens_120 rfl (nb_le (by omega) (by omega) fun h120 => ?_) (nb_nle (by omega) (by omega) fun h120 => ?_)) | refine E_icmp_ge 160 d_TM_happens_120 rfl (fun h120 => ?_) (fun h120 => ?_)
          · exfalso; omega
          first | refine E_aload_n d_TM_happens_123 rfl ?_ | refine E_aload_nN d_TM_happens_123 rfl ?_
          refine E_iload_n d_TM_happens_124 rfl ?_
          refine E_bipush (v := nI 6) d_TM_happens_125 (by decide) ?_
          first | (with_reducible refine E_isN2 ?_; refine E_idivN d_TM_happens_127 (by omega) (by omega) (by omega) ?_) | refine E_idiv d_TM_happens_127 (by decide) ?_
          refine E_bipush (v := nI 9) d_TM_happens_128 (by decide) ?_
          first | (with_reducible refine E_isN2 ?_; refine E_iremN d_TM_happens_130 (by omega) (by omega) (by omega) ?_) | refine E_irem d_TM_happens_130 (by decide) ?_
          refine E_V1 (sp_TM_pass true hM hw (by omega) c3) d_TM_happens_131 ml_TM_317 cb_TM_pass cv_TM_pass (by exact ⟨by decide, rfl⟩) ⟨by decide, rfl⟩ ⟨by decide, by decide⟩ rfl (Nat.le_of_ble_eq_true rfl) (Nat.le_of_ble_eq_true rfl) (kV fun M1 hc => ?_)
          obtain ⟨hM1, hS1⟩ := hc
          refine E_goto 160 d_TM_happens_134 rfl ?_
          refine E_retV d_TM_happens_160 rfl ?_
          exact ⟨hM1, hS1⟩
        · rw [if_neg hc]
          have hcc : x % 4 = 2 → x / 6 % 9 < c.now.people + 1 → c.now.round < 9999 → False := fun a b d => hc ⟨a, by omega, d⟩
          refine E_iload_n d_TM_happens_0 rfl ?_
          refine E_bipush (v := nI 6) d_TM_happens_1 (by decide) ?_
          first | (with_reducible refine E_isN2 ?_; refine E_idivN d_TM_happens_3 (by omega) (by omega) (by omega) ?_) | refine E_idiv d_TM_happens_3 (by decide) ?_
          refine E_bipush (v := nI 8) d_TM_happens_4 (by decide) ?_
          first | (with_reducible refine E_isN2 ?_; refine E_iremN d_TM_happens_6 (by omega) (by omega) (by omega) ?_) | refine E_irem d_TM_happens_6 (by decide) ?_
          refine E_istore_2 d_TM_happens_7 rfl ?_
          refine E_iload_n d_TM_happens_8 rfl ?_
          refine E_bipush (v := nI 6) d_TM_happens_9 (by decide) ?_
          first | (with_reducible refine E_isN2 ?_; refine E_iremN d_TM_happens_11 (by omega) (by omega) (by omega) ?_) | refine E_irem d_TM_happens_11 (by decide) ?_
          rw [h2]
          refine E_tableIn 90 d_TM_happens_12 (by decide) (by decide) (by first | rfl | decide) rfl ?_
          refine E_iload_n d_TM_happens_90 rfl ?_
          refine E_iconst (v := nI 4) d_TM_happens_91 rfl ?_
          first | (with_reducible refine E_isN2 ?_; refine E_iremN d_TM_happens_92 (by omega) (by omega) (by omega) ?_) | refine E_irem d_TM_happens_92 (by decide) ?_
          refine E_iconst (v := nI 2) d_TM_happens_93 rfl ?_
          first | (with_reducible refine E_isN2 ?_; refine E_icmp_ne 160 d_TM_happens_94 rfl (nb_ne fun h94 => ?_) (nb_eq (by omega) (by omega) fun h94 => ?_)) | refine E_icmp_ne 160 d_TM_happens_94 rfl (fun h94 => ?_) (fun h94 => ?_)
          · refine E_retV d_TM_happens_160 rfl ?_
            exact ⟨hM, Sx.rf⟩
          · first | refine E_aload_n d_TM_happens_97 rfl ?_ | refine E_aload_nN d_TM_happens_97 rfl ?_
            refine E_iload_n d_TM_happens_98 rfl ?_
            refine E_bipush (v := nI 6) d_TM_happens_99 (by decide) ?_
            first | (with_reducible refine E_isN2 ?_; refine E_idivN d_TM_happens_101 (by omega) (by omega) (by omega) ?_) | refine E_idiv d_TM_happens_101 (by decide) ?_
            refine E_bipush (v := nI 9) d_TM_happens_102 (by decide) ?_
            first | (with_reducible refine E_isN2 ?_; refine E_iremN d_TM_happens_104 (by omega) (by omega) (by omega) ?_) | refine E_irem d_TM_happens_104 (by decide) ?_
            refine E_V1 (sp_TM_canBeTold hR hA hwf _) d_TM_happens_105 ml_TM_311 cb_TM_canBeTold cv_TM_canBeTold (by exact ⟨by decide, rfl⟩) ⟨by decide, rfl⟩ ⟨by decide, by decide⟩ rfl (Nat.le_of_ble_eq_true rfl) (Nat.le_of_ble_eq_true rfl) (kI fun r1 M1 hc => ?_)
            obtain ⟨rfl, rfl⟩ := hc
            first | (with_reducible refine E_isP ?_; refine E_if_eq 160 d_TM_happens_108 rfl (pb_0 fun h108 => ?_) (pb_1 fun h108 => ?_)) | (with_reducible refine E_isN1 ?_; refine E_if_eq 160 d_TM_happens_108 rfl (nz_eq (by omega) fun h108 => ?_) (nz_ne fun h108 => ?_)) | refine E_if_eq 160 d_TM_happens_108 rfl (fun h108 => ?_) (fun h108 => ?_)
            · refine E_retV d_TM_happens_160 rfl ?_
              exact ⟨hM, Sx.rf⟩
            · first | refine E_aload_n d_TM_happens_111 rfl ?_ | refine E_aload_nN d_TM_happens_111 rfl ?_
              refine E_getR (q := 1) d_TM_happens_112 gf_TM_7 (by exact ⟨by decide, rfl⟩) (by exact hR _ rfl) ?_
              refine E_iconst (v := nI 5) d_TM_happens_115 rfl ?_
              refine E_iald d_TM_happens_116 (by exact ⟨by decide, rfl⟩) (by exact ⟨by with_reducible rfl, by omega, by decide⟩) (by exact er) ?_
              refine E_sipush (v := nI 9999) d_TM_happens_117 (by decide) ?_
              first | (with_reducible refine E_isN2 ?_; refine E_icmp_ge 160 d_TM_happens_120 rfl (nb_le (by omega) (by omega) fun h120 => ?_) (nb_nle (by omega) (by omega) fun h120 => ?_)) | refine E_icmp_ge 160 d_TM_happens_120 rfl (fun h120 => ?_) (fun h120 => ?_)
              rotate_left
              · exfalso; exact hcc h94 (hin.mp h108) h120
              refine E_retV d_TM_happens_160 rfl ?_
              exact ⟨hM, Sx.rf⟩
      · have h6 : x % 6 < 6 := Nat.mod_lt _ (by decide)
        have hsw : (nI (x % 6)).toInt < 0 ∨ 2 < (nI (x % 6)).toInt := by rw [nI_toInt (by omega)]; omega
        rw [happ, if_neg h0, if_neg h1, if_neg h2]
        by_cases hc : c.now.round < 9999
        · rw [if_pos hc]
          refine E_iload_n d_TM_happens_0 rfl ?_
          refine E_bipush (v := nI 6) d_TM_happens_1 (by decide) ?_
          first | (with_reducible refine E_isN2 ?_; refine E_idivN d_TM_happens_3 (by omega) (by omega) (by omega) ?_) | refine E_idiv d_TM_happens_3 (by decide) ?_
          refine E_bipush (v := nI 8) d_TM_happens_4 (by decide) ?_
          first | (with_reducible refine E_isN2 ?_; refine E_iremN d_TM_happens_6 (by omega) (by omega) (by omega) ?_) | refine E_irem d_TM_happens_6 (by decide) ?_
          refine E_istore_2 d_TM_happens_7 rfl ?_
          refine E_iload_n d_TM_happens_8 rfl ?_
          refine E_bipush (v := nI 6) d_TM_happens_9 (by decide) ?_
          first | (with_reducible refine E_isN2 ?_; refine E_iremN d_TM_happens_11 (by omega) (by omega) (by omega) ?_) | refine E_irem d_TM_happens_11 (by decide) ?_
          refine E_tableOut 137 d_TM_happens_12 (by exact hsw) rfl ?_
          first | refine E_aload_n d_TM_happens_137 rfl ?_ | refine E_aload_nN d_TM_happens_137 rfl ?_
          refine E_getR (q := 1) d_TM_happens_138 gf_TM_7 (by exact ⟨by decide, rfl⟩) (by exact hR _ rfl) ?_
          refine E_iconst (v := nI 5) d_TM_happens_141 rfl ?_
          refine E_iald d_TM_happens_142 (by exact ⟨by decide, rfl⟩) (by exact ⟨by with_reducible rfl, by omega, by decide⟩) (by exact er) ?_
          refine E_sipush (v := nI 9999) d_TM_happens_143 (by decide) ?_
          first | (with_reducible refine E_isN2 ?_; refine E_icmp_ge 160 d_TM_happens_146 rfl (nb_le (by omega) (by omega) fun h146 => ?_) (nb_nle (by omega) (by omega) fun h146 => ?_)) | refine E_icmp_ge 160 d_TM_happens_146 rfl (fun h146 => ?_) (fun h146 => ?_)
          · exfalso; omega
          first | refine E_aload_n d_TM_happens_149 rfl ?_ | refine E_aload_nN d_TM_happens_149 rfl ?_
          first | refine E_aload_n d_TM_happens_150 rfl ?_ | refine E_aload_nN d_TM_happens_150 rfl ?_
          refine E_getR (q := 1) d_TM_happens_151 gf_TM_7 (by exact ⟨by decide, rfl⟩) (by exact hR _ rfl) ?_
          refine E_bipush (v := nI 7) d_TM_happens_154 (by decide) ?_
          refine E_iald d_TM_happens_156 (by exact ⟨by decide, rfl⟩) (by exact ⟨by with_reducible rfl, by omega, by decide⟩) (by exact ef) ?_
          refine E_V1 (sp_TM_pass true hM hw hf8 hc) d_TM_happens_157 ml_TM_317 cb_TM_pass cv_TM_pass (by exact ⟨by decide, rfl⟩) ⟨by decide, rfl⟩ ⟨by decide, by decide⟩ rfl (Nat.le_of_ble_eq_true rfl) (Nat.le_of_ble_eq_true rfl) (kV fun M1 hc => ?_)
          obtain ⟨hM1, hS1⟩ := hc
          refine E_retV d_TM_happens_160 rfl ?_
          exact ⟨hM1, hS1⟩
        · rw [if_neg hc]
          refine E_iload_n d_TM_happens_0 rfl ?_
          refine E_bipush (v := nI 6) d_TM_happens_1 (by decide) ?_
          first | (with_reducible refine E_isN2 ?_; refine E_idivN d_TM_happens_3 (by omega) (by omega) (by omega) ?_) | refine E_idiv d_TM_happens_3 (by decide) ?_
          refine E_bipush (v := nI 8) d_TM_happens_4 (by decide) ?_
          first | (with_reducible refine E_isN2 ?_; refine E_iremN d_TM_happens_6 (by omega) (by omega) (by omega) ?_) | refine E_irem d_TM_happens_6 (by decide) ?_
          refine E_istore_2 d_TM_happens_7 rfl ?_
          refine E_iload_n d_TM_happens_8 rfl ?_
          refine E_bipush (v := nI 6) d_TM_happens_9 (by decide) ?_
          first | (with_reducible refine E_isN2 ?_; refine E_iremN d_TM_happens_11 (by omega) (by omega) (by omega) ?_) | refine E_irem d_TM_happens_11 (by decide) ?_
          refine E_tableOut 137 d_TM_happens_12 (by exact hsw) rfl ?_
          first | refine E_aload_n d_TM_happens_137 rfl ?_ | refine E_aload_nN d_TM_happens_137 rfl ?_
          refine E_getR (q := 1) d_TM_happens_138 gf_TM_7 (by exact ⟨by decide, rfl⟩) (by exact hR _ rfl) ?_
          refine E_iconst (v := nI 5) d_TM_happens_141 rfl ?_
          refine E_iald d_TM_happens_142 (by exact ⟨by decide, rfl⟩) (by exact ⟨by with_reducible rfl, by omega, by decide⟩) (by exact er) ?_
          refine E_sipush (v := nI 9999) d_TM_happens_143 (by decide) ?_
          first | (with_reducible refine E_isN2 ?_; refine E_icmp_ge 160 d_TM_happens_146 rfl (nb_le (by omega) (by omega) fun h146 => ?_) (nb_nle (by omega) (by omega) fun h146 => ?_)) | refine E_icmp_ge 160 d_TM_happens_146 rfl (fun h146 => ?_) (fun h146 => ?_)
          rotate_left
          · exfalso; omega
          refine E_retV d_TM_happens_160 rfl ?_
          exact ⟨hM, Sx.rf⟩
def yearA : Nat → Cr → Cr
  | 0, c => c
  | n + 1, c => yearA n (happ (c.setNow (c.now.setX (nx c.now.x))) c.now.x)
abbrev yeaP (x y : Int32) : Prop := inN x 10000 ∧ inN y 41 ∧ tN y ≠ 0
def yearS (c : Cr) (s n : Nat) : Cr := yearA n ((keepS c).setNow ((keepS c).now.setX (s * 2 + 449)))
def st_years (c : Cr) (x y : Int32) : Cr := if yeaP x y then yearS c (tN x) (tN y) else c
def ans_years (c : Cr) (x y : Int32) : Int32 := if yeaP x y then nI (yearS c (tN x) (tN y)).now.round else -1
theorem lp_TM_years {M0 : Mem} {s n : Nat} {R : Cr} (hn : n ≤ 40) : ∀ k i, i + k = n → ∀ c M, yearA k c = R → HM c M → mI M 0 23 = nI 1 → Sx S1 M0 M → E 7 0 0 Y_TM_years 43 [some (.ref 0), some (.int (nI s)), some (.int (nI n)), some (.int (nI i)), none] [] GM M (QI GM fun r M' => r = nI R.now.round ∧ HM R M' ∧ Sx S1 M0 M') := by
  intro k
  induction k with
  | zero =>
    intro i hi c M hv hM hw hX
    have hR := hM.R
    have hi2 : i = n := by omega
    subst hi2
    have hv2 : c = R := hv
    subst hv2
    refine E_iload_n d_TM_years_43 rfl ?_
    refine E_iload_n d_TM_years_44 rfl ?_
    first | (with_reducible refine E_isN2 ?_; refine E_icmp_ge 73 d_TM_years_45 rfl (nb_le (by omega) (by omega) fun h45 => ?_) (nb_nle (by omega) (by omega) fun h45 => ?_)) | refine E_icmp_ge 73 d_TM_years_45 rfl (fun h45 => ?_) (fun h45 => ?_)
    rotate_left
    · exfalso; omega
    first | refine E_aload_n d_TM_years_73 rfl ?_ | refine E_aload_nN d_TM_years_73 rfl ?_
    refine E_getR (q := 1) d_TM_years_74 gf_TM_7 (by exact ⟨by decide, rfl⟩) (by exact hR _ rfl) ?_
    refine E_iconst (v := nI 5) d_TM_years_77 rfl ?_
    refine E_iald d_TM_years_78 (by exact ⟨by decide, rfl⟩) (by exact ⟨by with_reducible rfl, by omega, by decide⟩) (by exact hM.A.round) ?_
    refine E_retI d_TM_years_79 rfl ?_
    exact ⟨rfl, hM, hX⟩
  | succ k ih =>
    intro i hi c M hv hM hw hX
    have hR := hM.R
    have hx := hM.w.x
    rw [yearA] at hv
    refine E_iload_n d_TM_years_43 rfl ?_
    refine E_iload_n d_TM_years_44 rfl ?_
    first | (with_reducible refine E_isN2 ?_; refine E_icmp_ge 73 d_TM_years_45 rfl (nb_le (by omega) (by omega) fun h45 => ?_) (nb_nle (by omega) (by omega) fun h45 => ?_)) | refine E_icmp_ge 73 d_TM_years_45 rfl (fun h45 => ?_) (fun h45 => ?_)
    · exfalso; omega
    first | refine E_aload_n d_TM_years_48 rfl ?_ | refine E_aload_nN d_TM_years_48 rfl ?_
    refine E_getR (q := 1) d_TM_years_49 gf_TM_7 (by exact ⟨by decide, rfl⟩) (by exact hR _ rfl) ?_
    refine E_bipush (v := nI 6) d_TM_years_52 (by decide) ?_
    refine E_iald d_TM_years_54 (by exact ⟨by decide, rfl⟩) (by exact ⟨by with_reducible rfl, by omega, by decide⟩) (by exact hM.A.x) ?_
    refine E_istore_4 d_TM_years_55 rfl ?_
    first | refine E_aload_n d_TM_years_57 rfl ?_ | refine E_aload_nN d_TM_years_57 rfl ?_
    refine E_V0 (sp_TM_anew hR hM.A.x hx) d_TM_years_58 ml_TM_290 cb_TM_anew cv_TM_anew (by exact ⟨by decide, rfl⟩) ⟨by decide, rfl⟩ ⟨by decide, by decide⟩ rfl (Nat.le_of_ble_eq_true rfl) (Nat.le_of_ble_eq_true rfl) (kV fun M1 hc => ?_)
    subst hc
    have hM1 := HM_setX hM (nx_lt c.now.x)
    first | refine E_aload_n d_TM_years_61 rfl ?_ | refine E_aload_nN d_TM_years_61 rfl ?_
    refine E_iload d_TM_years_62 rfl ?_
    refine E_V1 (sp_TM_happens hM1 ((mI_wx (by decide)).trans hw) hx) d_TM_years_64 ml_TM_341 cb_TM_happens cv_TM_happens (by exact ⟨by decide, rfl⟩) ⟨by decide, rfl⟩ ⟨by decide, by decide⟩ rfl (Nat.le_of_ble_eq_true rfl) (Nat.le_of_ble_eq_true rfl) (kV fun M1 hc => ?_)
    obtain ⟨hM2, hS2⟩ := hc
    first | (with_reducible refine E_isL3 ?_; refine E_iincN3 (m := 1) d_TM_years_67 rfl rfl ?_) | refine E_iinc_3 d_TM_years_67 rfl rfl ?_
    refine E_goto 43 d_TM_years_70 rfl ?_
    refine E_wk ?_ (ih (i + 1) (by omega) _ _ hv hM2 (fl1 hS2 ((mI_wx (by decide)).trans hw)) ((hX.wI S1.o).tr hS2)); exact ⟨Or.inl rfl, Or.inl rfl, Or.inl rfl, Or.inl rfl, Or.inr rfl, trivial⟩
theorem sp_TM_years {c : Cr} {M : Mem} (hM : HM c M) (hw : mI M 0 23 = nI 1) (x y : Int32) : E 7 0 0 Y_TM_years 0 [some (.ref 0), some (.int x), some (.int y), none, none] [] GM M (QI GM fun r M' => r = ans_years c x y ∧ HM (st_years c x y) M' ∧ Sx S1 M M') := by
  have hl : (nI 1 ≤ y ∧ y ≤ nI 40) ↔ (1 ≤ y.toInt ∧ y.toInt ≤ 40) := isIn_lh (by decide) (by decide)
  revert hl
  revert x y
  refine args2 10000 41 (fun s n hs hx ht hn hy ht2 hl => ?_) (fun x y hx hl => ?_) (fun x y hx hy hl => ?_)
  · rw [nI_toInt (by omega)] at hl
    by_cases h0 : n = 0
    · have hn2 : ¬ yeaP (nI s) (nI n) := fun q => q.2.2 (by rw [ht2]; exact h0)
      rw [ans_years, st_years, if_neg hn2, if_neg hn2]
      refine E_iload_n d_TM_years_0 rfl ?_
      refine E_iconst (v := nI 0) d_TM_years_1 rfl ?_
      refine E_sipush (v := nI 9999) d_TM_years_2 (by decide) ?_
      refine E_S3 (sp_TM_in _ 9999 (by decide)) d_TM_years_5 ml_TM_69 cb_TM_isIn cs_TM_isIn ⟨by decide, by decide⟩ rfl (Nat.le_of_ble_eq_true rfl) (Nat.le_of_ble_eq_true rfl) (kI fun r1 M1 hc => ?_)
      obtain ⟨rfl, rfl⟩ := hc
      first | (with_reducible refine E_isP ?_; refine E_if_eq 21 d_TM_years_8 rfl (pb_0 fun h8 => ?_) (pb_1 fun h8 => ?_)) | (with_reducible refine E_isN1 ?_; refine E_if_eq 21 d_TM_years_8 rfl (nz_eq (by omega) fun h8 => ?_) (nz_ne fun h8 => ?_)) | refine E_if_eq 21 d_TM_years_8 rfl (fun h8 => ?_) (fun h8 => ?_)
      · exfalso; exact h8 hx
      refine E_iload_n d_TM_years_11 rfl ?_
      refine E_iconst (v := nI 1) d_TM_years_12 rfl ?_
      refine E_bipush (v := nI 40) d_TM_years_13 (by decide) ?_
      refine E_S3 (sp_TM_isIn _ _ _) d_TM_years_15 ml_TM_69 cb_TM_isIn cs_TM_isIn ⟨by decide, by decide⟩ rfl (Nat.le_of_ble_eq_true rfl) (Nat.le_of_ble_eq_true rfl) (kI fun r1 M1 hc => ?_)
      obtain ⟨rfl, rfl⟩ := hc
      first | (with_reducible refine E_isP ?_; refine E_if_ne 23 d_TM_years_18 rfl (pb_1 fun h18 => ?_) (pb_0 fun h18 => ?_)) | (with_reducible refine E_isN1 ?_; refine E_if_ne 23 d_TM_years_18 rfl (nz_ne fun h18 => ?_) (nz_eq (by omega) fun h18 => ?_)) | refine E_if_ne 23 d_TM_years_18 rfl (fun h18 => ?_) (fun h18 => ?_)
      · exfalso; have := hl.mp h18; omega
      refine E_iconst (v := (-1)) d_TM_years_21 rfl ?_
      refine E_retI d_TM_years_22 rfl ?_
      exact ⟨rfl, hM, Sx.rf⟩
    · have hP : yeaP (nI s) (nI n) := ⟨hx, hy, by rw [ht2]; exact h0⟩
      rw [ans_years, st_years, if_pos hP, if_pos hP, ht, ht2]
      refine E_iload_n d_TM_years_0 rfl ?_
      refine E_iconst (v := nI 0) d_TM_years_1 rfl ?_
      refine E_sipush (v := nI 9999) d_TM_years_2 (by decide) ?_
      refine E_S3 (sp_TM_in _ 9999 (by decide)) d_TM_years_5 ml_TM_69 cb_TM_isIn cs_TM_isIn ⟨by decide, by decide⟩ rfl (Nat.le_of_ble_eq_true rfl) (Nat.le_of_ble_eq_true rfl) (kI fun r1 M1 hc => ?_)
      obtain ⟨rfl, rfl⟩ := hc
      first | (with_reducible refine E_isP ?_; refine E_if_eq 21 d_TM_years_8 rfl (pb_0 fun h8 => ?_) (pb_1 fun h8 => ?_)) | (with_reducible refine E_isN1 ?_; refine E_if_eq 21 d_TM_years_8 rfl (nz_eq (by omega) fun h8 => ?_) (nz_ne fun h8 => ?_)) | refine E_if_eq 21 d_TM_years_8 rfl (fun h8 => ?_) (fun h8 => ?_)
      · exfalso; exact h8 hx
      refine E_iload_n d_TM_years_11 rfl ?_
      refine E_iconst (v := nI 1) d_TM_years_12 rfl ?_
      refine E_bipush (v := nI 40) d_TM_years_13 (by decide) ?_
      refine E_S3 (sp_TM_isIn _ _ _) d_TM_years_15 ml_TM_69 cb_TM_isIn cs_TM_isIn ⟨by decide, by decide⟩ rfl (Nat.le_of_ble_eq_true rfl) (Nat.le_of_ble_eq_true rfl) (kI fun r1 M1 hc => ?_)
      obtain ⟨rfl, rfl⟩ := hc
      first | (with_reducible refine E_isP ?_; refine E_if_ne 23 d_TM_years_18 rfl (pb_1 fun h18 => ?_) (pb_0 fun h18 => ?_)) | (with_reducible refine E_isN1 ?_; refine E_if_ne 23 d_TM_years_18 rfl (nz_ne fun h18 => ?_) (nz_eq (by omega) fun h18 => ?_)) | refine E_if_ne 23 d_TM_years_18 rfl (fun h18 => ?_) (fun h18 => ?_)
      rotate_left
      · exfalso; exact h18 (hl.mpr ⟨by omega, by omega⟩)
      first | refine E_aload_n d_TM_years_23 rfl ?_ | refine E_aload_nN d_TM_years_23 rfl ?_
      refine E_V0 (sp_TM_keep hM) d_TM_years_24 ml_TM_314 cb_TM_keep cv_TM_keep (by exact ⟨by decide, rfl⟩) ⟨by decide, rfl⟩ ⟨by decide, by decide⟩ rfl (Nat.le_of_ble_eq_true rfl) (Nat.le_of_ble_eq_true rfl) (kV fun M1 hc => ?_)
      obtain ⟨hM1, hS1⟩ := hc
      have hX1 : Sx S1 _ M1 := hS1.wk fun _ => S01.s
      have hR := hM1.R
      first | refine E_aload_n d_TM_years_27 rfl ?_ | refine E_aload_nN d_TM_years_27 rfl ?_
      refine E_getR (q := 1) d_TM_years_28 gf_TM_7 (by exact ⟨by decide, rfl⟩) (by exact hR _ rfl) ?_
      refine E_bipush (v := nI 6) d_TM_years_31 (by decide) ?_
      refine E_iload_n d_TM_years_33 rfl ?_
      refine E_iconst (v := nI 2) d_TM_years_34 rfl ?_
      first | (with_reducible refine E_isN2 ?_; refine E_imulN d_TM_years_35 ?_) | refine E_imul d_TM_years_35 ?_
      refine E_sipush (v := nI 449) d_TM_years_36 (by decide) ?_
      first | (with_reducible refine E_isN2 ?_; refine E_iaddN d_TM_years_39 ?_) | refine E_iadd d_TM_years_39 ?_
      refine E_iast d_TM_years_40 (by exact ⟨by decide, rfl⟩) (by exact ⟨by with_reducible rfl, by omega, by decide⟩) ?_
      refine E_iconst (v := nI 0) d_TM_years_41 rfl ?_
      refine E_istore_3 d_TM_years_42 rfl ?_
      exact lp_TM_years (by omega) n 0 (Nat.zero_add _) _ _ rfl (HM_setX hM1 (by omega)) ((mI_wx (by decide)).trans (fl1 hX1 hw)) (hX1.wI S1.o)
  · have hn : ¬ yeaP x y := fun q => hx q.1
    rw [ans_years, st_years, if_neg hn, if_neg hn]
    refine E_iload_n d_TM_years_0 rfl ?_
    refine E_iconst (v := nI 0) d_TM_years_1 rfl ?_
    refine E_sipush (v := nI 9999) d_TM_years_2 (by decide) ?_
    refine E_S3 (sp_TM_in _ 9999 (by decide)) d_TM_years_5 ml_TM_69 cb_TM_isIn cs_TM_isIn ⟨by decide, by decide⟩ rfl (Nat.le_of_ble_eq_true rfl) (Nat.le_of_ble_eq_true rfl) (kI fun r1 M1 hc => ?_)
    obtain ⟨rfl, rfl⟩ := hc
    first | (with_reducible refine E_isP ?_; refine E_if_eq 21 d_TM_years_8 rfl (pb_0 fun h8 => ?_) (pb_1 fun h8 => ?_)) | (with_reducible refine E_isN1 ?_; refine E_if_eq 21 d_TM_years_8 rfl (nz_eq (by omega) fun h8 => ?_) (nz_ne fun h8 => ?_)) | refine E_if_eq 21 d_TM_years_8 rfl (fun h8 => ?_) (fun h8 => ?_)
    rotate_left
    · exfalso; exact hx h8
    refine E_iconst (v := (-1)) d_TM_years_21 rfl ?_
    refine E_retI d_TM_years_22 rfl ?_
    exact ⟨rfl, hM, Sx.rf⟩
  · have hn : ¬ yeaP x y := fun q => hy q.2.1
    rw [ans_years, st_years, if_neg hn, if_neg hn]
    refine E_iload_n d_TM_years_0 rfl ?_
    refine E_iconst (v := nI 0) d_TM_years_1 rfl ?_
    refine E_sipush (v := nI 9999) d_TM_years_2 (by decide) ?_
    refine E_S3 (sp_TM_in _ 9999 (by decide)) d_TM_years_5 ml_TM_69 cb_TM_isIn cs_TM_isIn ⟨by decide, by decide⟩ rfl (Nat.le_of_ble_eq_true rfl) (Nat.le_of_ble_eq_true rfl) (kI fun r1 M1 hc => ?_)
    obtain ⟨rfl, rfl⟩ := hc
    first | (with_reducible refine E_isP ?_; refine E_if_eq 21 d_TM_years_8 rfl (pb_0 fun h8 => ?_) (pb_1 fun h8 => ?_)) | (with_reducible refine E_isN1 ?_; refine E_if_eq 21 d_TM_years_8 rfl (nz_eq (by omega) fun h8 => ?_) (nz_ne fun h8 => ?_)) | refine E_if_eq 21 d_TM_years_8 rfl (fun h8 => ?_) (fun h8 => ?_)
    · exfalso; exact h8 hx
    refine E_iload_n d_TM_years_11 rfl ?_
    refine E_iconst (v := nI 1) d_TM_years_12 rfl ?_
    refine E_bipush (v := nI 40) d_TM_years_13 (by decide) ?_
    refine E_S3 (sp_TM_isIn _ _ _) d_TM_years_15 ml_TM_69 cb_TM_isIn cs_TM_isIn ⟨by decide, by decide⟩ rfl (Nat.le_of_ble_eq_true rfl) (Nat.le_of_ble_eq_true rfl) (kI fun r1 M1 hc => ?_)
    obtain ⟨rfl, rfl⟩ := hc
    first | (with_reducible refine E_isP ?_; refine E_if_ne 23 d_TM_years_18 rfl (pb_1 fun h18 => ?_) (pb_0 fun h18 => ?_)) | (with_reducible refine E_isN1 ?_; refine E_if_ne 23 d_TM_years_18 rfl (nz_ne fun h18 => ?_) (nz_eq (by omega) fun h18 => ?_)) | refine E_if_ne 23 d_TM_years_18 rfl (fun h18 => ?_) (fun h18 => ?_)
    · exfalso; have := hl.mp h18; exact hy ⟨by omega, by omega⟩
    refine E_iconst (v := (-1)) d_TM_years_21 rfl ?_
    refine E_retI d_TM_years_22 rfl ?_
    exact ⟨rfl, hM, Sx.rf⟩
