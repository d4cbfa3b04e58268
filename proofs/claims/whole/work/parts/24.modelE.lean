theorem sp_TM_areTrue {G : Geo} {M : Mem} {s x y a b : Nat} (hx : x < 512) (hy : y < 512) (ha : a ≤ 9) (hb : b ≤ 9) : E 1 0 0 Y_TM_areTrue 0 [some (.int (nI s)), some (.int (nI x)), some (.int (nI y)), some (.int (nI a)), some (.int (nI b))] [] G M (QI G fun r M' => r = pI (truB a b x y s = true) ∧ M' = M) := by
  have h1 : x &&& s < 512 := and_lt (n := 9) s hx
  have h2 : andn y s < 512 := andn_lt (n := 9) s hy
  have p1 := pc9_le9 h1
  have p2 := pc9_le9 h2
  refine E_iload_n d_TM_areTrue_0 rfl ?_
  refine E_iload_n d_TM_areTrue_1 rfl ?_
  first | (with_reducible refine E_isN2 ?_; refine E_iandN d_TM_areTrue_2 ?_) | refine E_iand d_TM_areTrue_2 ?_
  refine E_S1 (sp_TM_bits _ (by assumption)) d_TM_areTrue_3 ml_TM_267 cb_TM_bits cs_TM_bits ⟨by decide, by decide⟩ rfl (Nat.le_of_ble_eq_true rfl) (Nat.le_of_ble_eq_true rfl) (kI fun r1 M1 hc => ?_)
  obtain ⟨rfl, rfl⟩ := hc
  refine E_iload_n d_TM_areTrue_6 rfl ?_
  first | (with_reducible refine E_isN2 ?_; refine E_icmp_ne 27 d_TM_areTrue_7 rfl (nb_ne fun h7 => ?_) (nb_eq (by omega) (by omega) fun h7 => ?_)) | refine E_icmp_ne 27 d_TM_areTrue_7 rfl (fun h7 => ?_) (fun h7 => ?_)
  · refine E_iconst (v := nI 0) d_TM_areTrue_27 rfl ?_
    refine E_retZ d_TM_areTrue_28 rfl (by first | exact pI_01 _ | decide) ?_
    exact ⟨by first | exact (pI_t (by simp only [truB, Bool.and_eq_true, decide_eq_true_eq]; omega)).symm | exact (pI_f (by simp only [truB, Bool.and_eq_true, decide_eq_true_eq]; omega)).symm, rfl⟩
  · refine E_iload_n d_TM_areTrue_10 rfl ?_
    refine E_iload_n d_TM_areTrue_11 rfl ?_
    refine E_iconst (v := (-1)) d_TM_areTrue_12 rfl ?_
    first | (with_reducible refine E_isN2 ?_; refine E_ixorN d_TM_areTrue_13 ?_) | refine E_ixor d_TM_areTrue_13 ?_
    first | (with_reducible refine E_isN2 ?_; refine E_iandN d_TM_areTrue_14 ?_) | refine E_iand d_TM_areTrue_14 ?_
    rw [nI_andn]
    refine E_S1 (sp_TM_bits _ (by assumption)) d_TM_areTrue_15 ml_TM_267 cb_TM_bits cs_TM_bits ⟨by decide, by decide⟩ rfl (Nat.le_of_ble_eq_true rfl) (Nat.le_of_ble_eq_true rfl) (kI fun r1 M1 hc => ?_)
    obtain ⟨rfl, rfl⟩ := hc
    refine E_iload d_TM_areTrue_18 rfl ?_
    first | (with_reducible refine E_isN2 ?_; refine E_icmp_ne 27 d_TM_areTrue_20 rfl (nb_ne fun h20 => ?_) (nb_eq (by omega) (by omega) fun h20 => ?_)) | refine E_icmp_ne 27 d_TM_areTrue_20 rfl (fun h20 => ?_) (fun h20 => ?_)
    · refine E_iconst (v := nI 0) d_TM_areTrue_27 rfl ?_
      refine E_retZ d_TM_areTrue_28 rfl (by first | exact pI_01 _ | decide) ?_
      exact ⟨by first | exact (pI_t (by simp only [truB, Bool.and_eq_true, decide_eq_true_eq]; omega)).symm | exact (pI_f (by simp only [truB, Bool.and_eq_true, decide_eq_true_eq]; omega)).symm, rfl⟩
    · refine E_iconst (v := nI 1) d_TM_areTrue_23 rfl ?_
      refine E_goto 28 d_TM_areTrue_24 rfl ?_
      refine E_retZ d_TM_areTrue_28 rfl (by first | exact pI_01 _ | decide) ?_
      exact ⟨by first | exact (pI_t (by simp only [truB, Bool.and_eq_true, decide_eq_true_eq]; omega)).symm | exact (pI_f (by simp only [truB, Bool.and_eq_true, decide_eq_true_eq]; omega)).symm, rfl⟩
theorem winA_le (y f : Nat) : ∀ k w, w ≤ 256 → k ≤ 256 → winA y f k w ≤ 256 := by
  intro k
  induction k with
  | zero => intro w hw _; exact hw
  | succ k ih =>
    intro w hw hk
    rw [winA]
    exact ih _ (by split <;> omega) (by omega)
theorem sp_TM_bits' {G : Geo} {M : Mem} (s : Nat) (hs : s ≤ 256) : E 0 0 0 Y_TM_bits 0 [some (.int (nI s)), none, none] [] G M (QI G fun r M' => r = nI (pc9 s) ∧ M' = M) := sp_TM_bits s (by omega)
theorem lp_TM_win {c : Cr} {M : Mem} {M0 : Mem} {f : Nat} {z : Int32} (hM : HM c M) (hS : Sx SQ M0 M) (hf : f ≤ c.now.people) :
    ∀ (k w : Nat), k ≤ 256 → w ≤ 256 → winA (yesN c f) f k w = winN c f → E 6 0 0 Y_TM_win 25 [some (.ref 0), some (.int (nI f)), some (.int z), some (.int (nI (yesN c f))), some (.int (wE w)), some (.int (pM k))] [] GM M (QI GM fun r M' => r = ans_win c (nI f) z ∧ Sx SQ M0 M') := by
  have hp8 := hM.w.p8
  have hy := yesN_lt c f
  have hy8 : yesN c f < 512 := Nat.lt_of_lt_of_le hy (show 2 ^ c.now.people ≤ 2 ^ 9 from Nat.pow_le_pow_right (by decide) (by omega))
  intro k
  induction k with
  | zero =>
    intro w hk hw hv
    rw [winA] at hv
    have hpm : pM 0 = -1 := rfl
    have hans : ans_win c (nI f) z = (if winN c f = 0 then -1 else if z = 0 then nI (winN c f - 1) else nI (pc9 (winN c f - 1))) := by
      rw [ans_win, if_pos ((inN_nI (by omega)).mpr (by omega)), tN_nI (by omega)]
    rw [hpm]
    cases w with
    | zero =>
      have hw0 : wE 0 = -1 := rfl
      rw [hw0]
      refine E_iload d_TM_win_25 rfl ?_
      first | (with_reducible refine E_isN1 ?_; refine E_if_lt 70 d_TM_win_27 rfl (nz_lt (by omega) fun h27 => ?_) (nz_nlt (by omega) fun h27 => ?_)) | refine E_if_lt 70 d_TM_win_27 rfl (fun h27 => ?_) (fun h27 => ?_)
      rotate_left
      · exfalso; exact h27 (by decide)
      refine E_iload d_TM_win_70 rfl ?_
      refine E_iconst (v := (-1)) d_TM_win_72 rfl ?_
      first | (with_reducible refine E_isN2 ?_; refine E_icmp_ne 80 d_TM_win_73 rfl (nb_ne fun h73 => ?_) (nb_eq (by omega) (by omega) fun h73 => ?_)) | refine E_icmp_ne 80 d_TM_win_73 rfl (fun h73 => ?_) (fun h73 => ?_)
      · exfalso; exact h73 rfl
      refine E_iconst (v := (-1)) d_TM_win_76 rfl ?_
      refine E_goto 94 d_TM_win_77 rfl ?_
      refine E_retI d_TM_win_94 rfl ?_
      exact ⟨by rw [hans, if_pos hv.symm], hS⟩
    | succ w =>
      have hw0 : wE (w + 1) = nI w := rfl
      have hne : ¬ nI w = (-1 : Int32) := fun q => by
        have e2 := congrArg Int32.toInt q
        rw [nI_toInt (by omega)] at e2
        have : (-1 : Int32).toInt = -1 := by decide
        omega
      rw [hw0]
      refine E_iload d_TM_win_25 rfl ?_
      first | (with_reducible refine E_isN1 ?_; refine E_if_lt 70 d_TM_win_27 rfl (nz_lt (by omega) fun h27 => ?_) (nz_nlt (by omega) fun h27 => ?_)) | refine E_if_lt 70 d_TM_win_27 rfl (fun h27 => ?_) (fun h27 => ?_)
      rotate_left
      · exfalso; exact h27 (by decide)
      refine E_iload d_TM_win_70 rfl ?_
      refine E_iconst (v := (-1)) d_TM_win_72 rfl ?_
      first | (with_reducible refine E_isN2 ?_; refine E_icmp_ne 80 d_TM_win_73 rfl (nb_ne fun h73 => ?_) (nb_eq (by omega) (by omega) fun h73 => ?_)) | refine E_icmp_ne 80 d_TM_win_73 rfl (fun h73 => ?_) (fun h73 => ?_)
      rotate_left
      · exfalso; exact hne h73
      refine E_iload_n d_TM_win_80 rfl ?_
      first | (with_reducible refine E_isP ?_; refine E_if_eq 92 d_TM_win_81 rfl (pb_0 fun h81 => ?_) (pb_1 fun h81 => ?_)) | (with_reducible refine E_isN1 ?_; refine E_if_eq 92 d_TM_win_81 rfl (nz_eq (by omega) fun h81 => ?_) (nz_ne fun h81 => ?_)) | refine E_if_eq 92 d_TM_win_81 rfl (fun h81 => ?_) (fun h81 => ?_)
      · refine E_iload d_TM_win_92 rfl ?_
        refine E_retI d_TM_win_94 rfl ?_
        exact ⟨by first | (rw [hans, ← hv, if_neg (Nat.succ_ne_zero w), if_pos (by assumption)]; rfl) | (rw [hans, ← hv, if_neg (Nat.succ_ne_zero w), if_neg (by assumption)]; rfl), hS⟩
      · refine E_iload d_TM_win_84 rfl ?_
        refine E_S1 (sp_TM_bits' _ (by omega)) d_TM_win_86 ml_TM_267 cb_TM_bits cs_TM_bits ⟨by decide, by decide⟩ rfl (Nat.le_of_ble_eq_true rfl) (Nat.le_of_ble_eq_true rfl) (kI fun r1 M1 hc => ?_)
        obtain ⟨rfl, rfl⟩ := hc
        refine E_goto 94 d_TM_win_89 rfl ?_
        refine E_retI d_TM_win_94 rfl ?_
        exact ⟨by first | (rw [hans, ← hv, if_neg (Nat.succ_ne_zero w), if_pos (by assumption)]; rfl) | (rw [hans, ← hv, if_neg (Nat.succ_ne_zero w), if_neg (by assumption)]; rfl), hS⟩
  | succ k ih =>
    intro w hk hw hv
    have hpm : pM (k + 1) = nI k := rfl
    have hor : yesN c f ||| k < 512 := or_lt (n := 9) hy8 (by omega)
    have p1 := pc9_le9 hor
    have p2 := pc9_le9 (s := k) (by omega)
    rw [hpm]
    rw [winA] at hv
    cases w with
    | zero =>
      have hw0 : wE 0 = -1 := rfl
      rw [hw0]
      refine E_iload d_TM_win_25 rfl ?_
      first | (with_reducible refine E_isN1 ?_; refine E_if_lt 70 d_TM_win_27 rfl (nz_lt (by omega) fun h27 => ?_) (nz_nlt (by omega) fun h27 => ?_)) | refine E_if_lt 70 d_TM_win_27 rfl (fun h27 => ?_) (fun h27 => ?_)
      · exfalso; omega
      refine E_iload_n d_TM_win_30 rfl ?_
      refine E_iload d_TM_win_31 rfl ?_
      first | (with_reducible refine E_isN2 ?_; refine E_iorN d_TM_win_33 ?_) | refine E_ior d_TM_win_33 ?_
      refine E_S1 (sp_TM_bits _ (by omega)) d_TM_win_34 ml_TM_267 cb_TM_bits cs_TM_bits ⟨by decide, by decide⟩ rfl (Nat.le_of_ble_eq_true rfl) (Nat.le_of_ble_eq_true rfl) (kI fun r1 M1 hc => ?_)
      obtain ⟨rfl, rfl⟩ := hc
      refine E_iload_n d_TM_win_37 rfl ?_
      first | (with_reducible refine E_isN2 ?_; refine E_icmp_ne 64 d_TM_win_38 rfl (nb_ne fun h38 => ?_) (nb_eq (by omega) (by omega) fun h38 => ?_)) | refine E_icmp_ne 64 d_TM_win_38 rfl (fun h38 => ?_) (fun h38 => ?_)
      · first | (with_reducible refine E_isL5 ?_; refine E_iincD5 (m := 1) d_TM_win_64 (by decide) (by omega) rfl ?_) | refine E_iinc_5 d_TM_win_64 rfl rfl ?_
        refine E_goto 25 d_TM_win_67 rfl ?_
        first | (rw [pM_dec, show (-1 : Int32) = wE 0 from rfl]; exact ih 0 (by omega) (by omega) (by rw [if_neg (by omega)] at hv; exact hv)) | (rw [pM_dec]; exact ih (k + 1) (by omega) (by omega) (by rw [if_pos ⟨h38, Or.inl rfl⟩] at hv; exact hv))
      · refine E_iload d_TM_win_41 rfl ?_
        refine E_iconst (v := (-1)) d_TM_win_43 rfl ?_
        first | (with_reducible refine E_isN2 ?_; refine E_icmp_eq 60 d_TM_win_44 rfl (nb_eq (by omega) (by omega) fun h44 => ?_) (nb_ne fun h44 => ?_)) | refine E_icmp_eq 60 d_TM_win_44 rfl (fun h44 => ?_) (fun h44 => ?_)
        rotate_left
        · exfalso; exact h44 rfl
        refine E_iload d_TM_win_60 rfl ?_
        refine E_istore_4 d_TM_win_62 rfl ?_
        first | (with_reducible refine E_isL5 ?_; refine E_iincD5 (m := 1) d_TM_win_64 (by decide) (by omega) rfl ?_) | refine E_iinc_5 d_TM_win_64 rfl rfl ?_
        refine E_goto 25 d_TM_win_67 rfl ?_
        first | (rw [pM_dec, show (-1 : Int32) = wE 0 from rfl]; exact ih 0 (by omega) (by omega) (by rw [if_neg (by omega)] at hv; exact hv)) | (rw [pM_dec]; exact ih (k + 1) (by omega) (by omega) (by rw [if_pos ⟨h38, Or.inl rfl⟩] at hv; exact hv))
    | succ w =>
      have hw0 : wE (w + 1) = nI w := rfl
      have hne : ¬ nI w = (-1 : Int32) := fun q => by
        have e2 := congrArg Int32.toInt q
        rw [nI_toInt (by omega)] at e2
        have : (-1 : Int32).toInt = -1 := by decide
        omega
      have p3 := pc9_le9 (s := w) (by omega)
      rw [hw0]
      refine E_iload d_TM_win_25 rfl ?_
      first | (with_reducible refine E_isN1 ?_; refine E_if_lt 70 d_TM_win_27 rfl (nz_lt (by omega) fun h27 => ?_) (nz_nlt (by omega) fun h27 => ?_)) | refine E_if_lt 70 d_TM_win_27 rfl (fun h27 => ?_) (fun h27 => ?_)
      · exfalso; omega
      refine E_iload_n d_TM_win_30 rfl ?_
      refine E_iload d_TM_win_31 rfl ?_
      first | (with_reducible refine E_isN2 ?_; refine E_iorN d_TM_win_33 ?_) | refine E_ior d_TM_win_33 ?_
      refine E_S1 (sp_TM_bits _ (by omega)) d_TM_win_34 ml_TM_267 cb_TM_bits cs_TM_bits ⟨by decide, by decide⟩ rfl (Nat.le_of_ble_eq_true rfl) (Nat.le_of_ble_eq_true rfl) (kI fun r1 M1 hc => ?_)
      obtain ⟨rfl, rfl⟩ := hc
      refine E_iload_n d_TM_win_37 rfl ?_
      first | (with_reducible refine E_isN2 ?_; refine E_icmp_ne 64 d_TM_win_38 rfl (nb_ne fun h38 => ?_) (nb_eq (by omega) (by omega) fun h38 => ?_)) | refine E_icmp_ne 64 d_TM_win_38 rfl (fun h38 => ?_) (fun h38 => ?_)
      · first | (with_reducible refine E_isL5 ?_; refine E_iincD5 (m := 1) d_TM_win_64 (by decide) (by omega) rfl ?_) | refine E_iinc_5 d_TM_win_64 rfl rfl ?_
        refine E_goto 25 d_TM_win_67 rfl ?_
        first | (rw [pM_dec]; exact ih (w + 1) (by omega) (by omega) (by rw [if_neg (by simp only [Nat.add_sub_cancel]; omega)] at hv; exact hv)) | (rw [pM_dec]; exact ih (k + 1) (by omega) (by omega) (by rw [if_pos ⟨h38, Or.inr h57⟩] at hv; exact hv))
      · refine E_iload d_TM_win_41 rfl ?_
        refine E_iconst (v := (-1)) d_TM_win_43 rfl ?_
        first | (with_reducible refine E_isN2 ?_; refine E_icmp_eq 60 d_TM_win_44 rfl (nb_eq (by omega) (by omega) fun h44 => ?_) (nb_ne fun h44 => ?_)) | refine E_icmp_eq 60 d_TM_win_44 rfl (fun h44 => ?_) (fun h44 => ?_)
        · exfalso; exact hne h44
        refine E_iload d_TM_win_47 rfl ?_
        refine E_S1 (sp_TM_bits _ (by omega)) d_TM_win_49 ml_TM_267 cb_TM_bits cs_TM_bits ⟨by decide, by decide⟩ rfl (Nat.le_of_ble_eq_true rfl) (Nat.le_of_ble_eq_true rfl) (kI fun r1 M1 hc => ?_)
        obtain ⟨rfl, rfl⟩ := hc
        refine E_iload d_TM_win_52 rfl ?_
        refine E_S1 (sp_TM_bits _ (by omega)) d_TM_win_54 ml_TM_267 cb_TM_bits cs_TM_bits ⟨by decide, by decide⟩ rfl (Nat.le_of_ble_eq_true rfl) (Nat.le_of_ble_eq_true rfl) (kI fun r1 M1 hc => ?_)
        obtain ⟨rfl, rfl⟩ := hc
        first | (with_reducible refine E_isN2 ?_; refine E_icmp_gt 64 d_TM_win_57 rfl (nb_lt (by omega) (by omega) fun h57 => ?_) (nb_nlt (by omega) (by omega) fun h57 => ?_)) | refine E_icmp_gt 64 d_TM_win_57 rfl (fun h57 => ?_) (fun h57 => ?_)
        · first | (with_reducible refine E_isL5 ?_; refine E_iincD5 (m := 1) d_TM_win_64 (by decide) (by omega) rfl ?_) | refine E_iinc_5 d_TM_win_64 rfl rfl ?_
          refine E_goto 25 d_TM_win_67 rfl ?_
          first | (rw [pM_dec]; exact ih (w + 1) (by omega) (by omega) (by rw [if_neg (by simp only [Nat.add_sub_cancel]; omega)] at hv; exact hv)) | (rw [pM_dec]; exact ih (k + 1) (by omega) (by omega) (by rw [if_pos ⟨h38, Or.inr h57⟩] at hv; exact hv))
        · refine E_iload d_TM_win_60 rfl ?_
          refine E_istore_4 d_TM_win_62 rfl ?_
          first | (with_reducible refine E_isL5 ?_; refine E_iincD5 (m := 1) d_TM_win_64 (by decide) (by omega) rfl ?_) | refine E_iinc_5 d_TM_win_64 rfl rfl ?_
          refine E_goto 25 d_TM_win_67 rfl ?_
          first | (rw [pM_dec]; exact ih (w + 1) (by omega) (by omega) (by rw [if_neg (by simp only [Nat.add_sub_cancel]; omega)] at hv; exact hv)) | (rw [pM_dec]; exact ih (k + 1) (by omega) (by omega) (by rw [if_pos ⟨h38, Or.inr h57⟩] at hv; exact hv))
theorem pM_pred {n : Nat} (h : 1 ≤ n) : pM n = nI (n - 1) := by
  cases n with
  | zero => omega
  | succ n => rfl
theorem sp_TM_win {c : Cr} {M : Mem} (hM : HM c M) (x z : Int32) : E 6 0 0 Y_TM_win 0 [some (.ref 0), some (.int x), some (.int z), none, none, none] [] GM M (QI GM fun r M' => r = ans_win c x z ∧ Sx SQ M M') := by
  have hp8 := hM.w.p8
  have h256 : 2 ^ c.now.people ≤ 256 := show 2 ^ c.now.people ≤ 2 ^ 8 from Nat.pow_le_pow_right (by decide) hp8
  have hpos : 1 ≤ 2 ^ c.now.people := Nat.one_le_two_pow
  revert x
  refine args1 (c.now.people + 1) (fun k hk hx ht => ?_) (fun x hx => ?_)
  · first | refine E_aload_n d_TM_win_0 rfl ?_ | refine E_aload_nN d_TM_win_0 rfl ?_
    refine E_iload_n d_TM_win_1 rfl ?_
    refine E_V1 (sp_TM_canBeTold hM.R hM.A hM.w _) d_TM_win_2 ml_TM_311 cb_TM_canBeTold cv_TM_canBeTold (by exact ⟨by decide, rfl⟩) ⟨by decide, rfl⟩ ⟨by decide, by decide⟩ rfl (Nat.le_of_ble_eq_true rfl) (Nat.le_of_ble_eq_true rfl) (kI fun r1 M1 hc => ?_)
    obtain ⟨rfl, rfl⟩ := hc
    first | (with_reducible refine E_isP ?_; refine E_if_ne 10 d_TM_win_5 rfl (pb_1 fun h5 => ?_) (pb_0 fun h5 => ?_)) | (with_reducible refine E_isN1 ?_; refine E_if_ne 10 d_TM_win_5 rfl (nz_ne fun h5 => ?_) (nz_eq (by omega) fun h5 => ?_)) | refine E_if_ne 10 d_TM_win_5 rfl (fun h5 => ?_) (fun h5 => ?_)
    rotate_left
    · exfalso; exact h5 hx
    first | refine E_aload_n d_TM_win_10 rfl ?_ | refine E_aload_nN d_TM_win_10 rfl ?_
    refine E_iload_n d_TM_win_11 rfl ?_
    refine E_V1 (sp_TM_yesTo hM (by omega)) d_TM_win_12 ml_TM_347 cb_TM_yesTo cv_TM_yesTo (by exact ⟨by decide, rfl⟩) ⟨by decide, rfl⟩ ⟨by decide, by decide⟩ rfl (Nat.le_of_ble_eq_true rfl) (Nat.le_of_ble_eq_true rfl) (kI fun r1 M1 hc => ?_)
    obtain ⟨rfl, hS1⟩ := hc
    have hS1 := hS1.wk fun _ => SY.q
    have hM1 := hM.sx hS1
    refine E_istore_3 d_TM_win_15 rfl ?_
    refine E_iconst (v := (-1)) d_TM_win_16 rfl ?_
    refine E_istore_4 d_TM_win_17 rfl ?_
    first | refine E_aload_n d_TM_win_19 rfl ?_ | refine E_aload_nN d_TM_win_19 rfl ?_
    refine E_V0 (sp_TM_everyone hM1.R hM1.A hM1.w) d_TM_win_20 ml_TM_374 cb_TM_everyone cv_TM_everyone (by exact ⟨by decide, rfl⟩) ⟨by decide, rfl⟩ ⟨by decide, by decide⟩ rfl (Nat.le_of_ble_eq_true rfl) (Nat.le_of_ble_eq_true rfl) (kI fun r1 M1 hc => ?_)
    obtain ⟨rfl, rfl⟩ := hc
    refine E_istore_5 d_TM_win_23 rfl ?_
    refine E_eqL ?_ (lp_TM_win hM1 hS1 (by omega) (2 ^ c.now.people) 0 h256 (by omega) rfl)
    rw [pM_pred hpos]
    rfl
  · first | refine E_aload_n d_TM_win_0 rfl ?_ | refine E_aload_nN d_TM_win_0 rfl ?_
    refine E_iload_n d_TM_win_1 rfl ?_
    refine E_V1 (sp_TM_canBeTold hM.R hM.A hM.w _) d_TM_win_2 ml_TM_311 cb_TM_canBeTold cv_TM_canBeTold (by exact ⟨by decide, rfl⟩) ⟨by decide, rfl⟩ ⟨by decide, by decide⟩ rfl (Nat.le_of_ble_eq_true rfl) (Nat.le_of_ble_eq_true rfl) (kI fun r1 M1 hc => ?_)
    obtain ⟨rfl, rfl⟩ := hc
    first | (with_reducible refine E_isP ?_; refine E_if_ne 10 d_TM_win_5 rfl (pb_1 fun h5 => ?_) (pb_0 fun h5 => ?_)) | (with_reducible refine E_isN1 ?_; refine E_if_ne 10 d_TM_win_5 rfl (nz_ne fun h5 => ?_) (nz_eq (by omega) fun h5 => ?_)) | refine E_if_ne 10 d_TM_win_5 rfl (fun h5 => ?_) (fun h5 => ?_)
    · exfalso; exact hx h5
    refine E_iconst (v := (-1)) d_TM_win_8 rfl ?_
    refine E_retI d_TM_win_9 rfl ?_
    exact ⟨by rw [ans_win, if_neg hx], Sx.rf⟩
theorem pow256 {n : Nat} (h : n ≤ 8) : 2 ^ n ≤ 256 := show 2 ^ n ≤ 2 ^ 8 from Nat.pow_le_pow_right (by decide) h
theorem yes512 {c : Cr} (hp8 : c.now.people ≤ 8) (f : Nat) : yesN c f < 256 := Nat.lt_of_lt_of_le (yesN_lt c f) (pow256 hp8)
theorem minA_le (x y : Nat) : ∀ k, minA x y k ≤ 1000000 := by
  intro k
  induction k with
  | zero => exact Nat.le_refl _
  | succ k ih =>
    rw [minA]
    split <;> omega
theorem maxA_le {x y : Nat} (hx : x < 512) (hy : y < 512) : ∀ k, maxA x y k ≤ 9 := by
  intro k
  induction k with
  | zero => exact Nat.zero_le _
  | succ k ih =>
    rw [maxA]
    split
    · exact pc9_le9 (or_lt (n := 9) (and_lt _ hx) (andn_lt _ hy))
    · exact ih
theorem lp_TM_two {c : Cr} {M M0 : Mem} {f g : Nat} {z : Int32} (hM : HM c M) (hS : Sx SQ M0 M) (hf : f ≤ c.now.people) (hg : g ≤ c.now.people) (hz : inN z 3) :
    ∀ (j k : Nat), k + j = 2 ^ c.now.people → ∀ v, E 6 0 0 Y_TM_two 55 [some (.ref 0), some (.int (nI f)), some (.int (nI g)), some (.int z), some (.int (nI (yesN c f))), some (.int (nI (yesN c g))), some (.int (nI (minA (yesN c f) (yesN c g) k))), some (.int (nI (maxA (yesN c f) (yesN c g) k))), some (.int (nI (cnt (truB f g (yesN c f) (yesN c g)) k))), some (.int (nI k)), v] [] GM M (QI GM fun r M' => r = ans_two c (nI f) (nI g) z ∧ Sx SQ M0 M') := by
  have hR := hM.R
  have hA := hM.A
  have hp8 := hM.w.p8
  have h256 := pow256 hp8
  have y1 := yes512 hp8 f
  have y2 := yes512 hp8 g
  have hpos : 1 ≤ 2 ^ c.now.people := Nat.one_le_two_pow
  intro j
  induction j with
  | zero =>
    intro k hk v
    have hans : ans_two c (nI f) (nI g) z = (if z = 0 then nI (minA (yesN c f) (yesN c g) k) else if z = 1 then nI (maxA (yesN c f) (yesN c g) k) else nI (cnt (truB f g (yesN c f) (yesN c g)) k)) := by
      rw [ans_two, if_pos ⟨(inN_nI (by omega)).mpr (by omega), (inN_nI (by omega)).mpr (by omega), hz⟩, tN_nI (by omega), tN_nI (by omega), ← hk, Nat.add_zero]
    refine E_iload d_TM_two_55 rfl ?_
    first | refine E_aload_n d_TM_two_57 rfl ?_ | refine E_aload_nN d_TM_two_57 rfl ?_
    refine E_V0 (sp_TM_everyone hM.R hM.A hM.w) d_TM_two_58 ml_TM_374 cb_TM_everyone cv_TM_everyone (by exact ⟨by decide, rfl⟩) ⟨by decide, rfl⟩ ⟨by decide, by decide⟩ rfl (Nat.le_of_ble_eq_true rfl) (Nat.le_of_ble_eq_true rfl) (kI fun r1 M1 hc => ?_)
    obtain ⟨rfl, rfl⟩ := hc
    first | (with_reducible refine E_isN2 ?_; refine E_icmp_gt 144 d_TM_two_61 rfl (nb_lt (by omega) (by omega) fun h61 => ?_) (nb_nlt (by omega) (by omega) fun h61 => ?_)) | refine E_icmp_gt 144 d_TM_two_61 rfl (fun h61 => ?_) (fun h61 => ?_)
    rotate_left
    · exfalso; omega
    refine E_iload_n d_TM_two_144 rfl ?_
    first | (with_reducible refine E_isP ?_; refine E_if_ne 153 d_TM_two_145 rfl (pb_1 fun h145 => ?_) (pb_0 fun h145 => ?_)) | (with_reducible refine E_isN1 ?_; refine E_if_ne 153 d_TM_two_145 rfl (nz_ne fun h145 => ?_) (nz_eq (by omega) fun h145 => ?_)) | refine E_if_ne 153 d_TM_two_145 rfl (fun h145 => ?_) (fun h145 => ?_)
    · refine E_iload_n d_TM_two_153 rfl ?_
      refine E_iconst (v := nI 1) d_TM_two_154 rfl ?_
      first | (with_reducible refine E_isN2 ?_; refine E_icmp_ne 163 d_TM_two_155 rfl (nb_ne fun h155 => ?_) (nb_eq (by omega) (by omega) fun h155 => ?_)) | refine E_icmp_ne 163 d_TM_two_155 rfl (fun h155 => ?_) (fun h155 => ?_)
      · refine E_iload d_TM_two_163 rfl ?_
        refine E_retI d_TM_two_165 rfl ?_
        exact ⟨by first | rw [hans, if_pos (by assumption)] | (rw [hans, if_neg (by assumption), if_pos (by assumption)]) | (rw [hans, if_neg (by assumption), if_neg (by assumption)]), hS⟩
      · refine E_iload d_TM_two_158 rfl ?_
        refine E_goto 165 d_TM_two_160 rfl ?_
        refine E_retI d_TM_two_165 rfl ?_
        exact ⟨by first | rw [hans, if_pos (by assumption)] | (rw [hans, if_neg (by assumption), if_pos (by assumption)]) | (rw [hans, if_neg (by assumption), if_neg (by assumption)]), hS⟩
    · refine E_iload d_TM_two_148 rfl ?_
      refine E_goto 165 d_TM_two_150 rfl ?_
      refine E_retI d_TM_two_165 rfl ?_
      exact ⟨by first | rw [hans, if_pos (by assumption)] | (rw [hans, if_neg (by assumption), if_pos (by assumption)]) | (rw [hans, if_neg (by assumption), if_neg (by assumption)]), hS⟩
  | succ j ih =>
    intro k hk v
    have hb := pc9_le9 (or_lt (n := 9) (and_lt (y := yesN c f) k (show yesN c f < 2 ^ 9 by omega)) (andn_lt (y := yesN c g) k (show yesN c g < 2 ^ 9 by omega)))
    have hb2 : (yesN c f &&& k) ||| andn (yesN c g) k < 512 := or_lt (n := 9) (and_lt (y := yesN c f) k (show yesN c f < 2 ^ 9 by omega)) (andn_lt (y := yesN c g) k (show yesN c g < 2 ^ 9 by omega))
    have hmin := minA_le (yesN c f) (yesN c g) k
    have hmax := maxA_le (x := yesN c f) (y := yesN c g) (by omega) (by omega) k
    have hcn := cnt_le (truB f g (yesN c f) (yesN c g)) k
    have e1 : minA (yesN c f) (yesN c g) (k + 1) = if pc9 ((yesN c f &&& k) ||| andn (yesN c g) k) < minA (yesN c f) (yesN c g) k then pc9 ((yesN c f &&& k) ||| andn (yesN c g) k) else minA (yesN c f) (yesN c g) k := rfl
    have e2 : maxA (yesN c f) (yesN c g) (k + 1) = if maxA (yesN c f) (yesN c g) k < pc9 ((yesN c f &&& k) ||| andn (yesN c g) k) then pc9 ((yesN c f &&& k) ||| andn (yesN c g) k) else maxA (yesN c f) (yesN c g) k := rfl
    have e3 : cnt (truB f g (yesN c f) (yesN c g)) (k + 1) = cnt (truB f g (yesN c f) (yesN c g)) k + (if truB f g (yesN c f) (yesN c g) k = true then 1 else 0) := rfl
    have ih2 := ih (k + 1) (by omega) (some (.int (nI (pc9 ((yesN c f &&& k) ||| andn (yesN c g) k)))))
    rw [e1, e2, e3] at ih2
    refine E_iload d_TM_two_55 rfl ?_
    first | refine E_aload_n d_TM_two_57 rfl ?_ | refine E_aload_nN d_TM_two_57 rfl ?_
    refine E_V0 (sp_TM_everyone hM.R hM.A hM.w) d_TM_two_58 ml_TM_374 cb_TM_everyone cv_TM_everyone (by exact ⟨by decide, rfl⟩) ⟨by decide, rfl⟩ ⟨by decide, by decide⟩ rfl (Nat.le_of_ble_eq_true rfl) (Nat.le_of_ble_eq_true rfl) (kI fun r1 M1 hc => ?_)
    obtain ⟨rfl, rfl⟩ := hc
    first | (with_reducible refine E_isN2 ?_; refine E_icmp_gt 144 d_TM_two_61 rfl (nb_lt (by omega) (by omega) fun h61 => ?_) (nb_nlt (by omega) (by omega) fun h61 => ?_)) | refine E_icmp_gt 144 d_TM_two_61 rfl (fun h61 => ?_) (fun h61 => ?_)
    · exfalso; omega
    refine E_iload d_TM_two_64 rfl ?_
    refine E_iload d_TM_two_66 rfl ?_
    first | (with_reducible refine E_isN2 ?_; refine E_iandN d_TM_two_68 ?_) | refine E_iand d_TM_two_68 ?_
    refine E_iload d_TM_two_69 rfl ?_
    refine E_iload d_TM_two_71 rfl ?_
    refine E_iconst (v := (-1)) d_TM_two_73 rfl ?_
    first | (with_reducible refine E_isN2 ?_; refine E_ixorN d_TM_two_74 ?_) | refine E_ixor d_TM_two_74 ?_
    first | (with_reducible refine E_isN2 ?_; refine E_iandN d_TM_two_75 ?_) | refine E_iand d_TM_two_75 ?_
    rw [nI_andn]
    first | (with_reducible refine E_isN2 ?_; refine E_iorN d_TM_two_76 ?_) | refine E_ior d_TM_two_76 ?_
    refine E_S1 (sp_TM_bits _ hb2) d_TM_two_77 ml_TM_267 cb_TM_bits cs_TM_bits ⟨by decide, by decide⟩ rfl (Nat.le_of_ble_eq_true rfl) (Nat.le_of_ble_eq_true rfl) (kI fun r1 M1 hc => ?_)
    obtain ⟨rfl, rfl⟩ := hc
    refine E_istore_10 d_TM_two_80 rfl ?_
    refine E_iload d_TM_two_82 rfl ?_
    refine E_iload d_TM_two_84 rfl ?_
    first | (with_reducible refine E_isN2 ?_; refine E_icmp_ge 94 d_TM_two_86 rfl (nb_le (by omega) (by omega) fun h86 => ?_) (nb_nle (by omega) (by omega) fun h86 => ?_)) | refine E_icmp_ge 94 d_TM_two_86 rfl (fun h86 => ?_) (fun h86 => ?_)
    · refine E_iload d_TM_two_94 rfl ?_
      refine E_istore_6 d_TM_two_96 rfl ?_
      refine E_iload d_TM_two_98 rfl ?_
      refine E_iload d_TM_two_100 rfl ?_
      first | (with_reducible refine E_isN2 ?_; refine E_icmp_le 110 d_TM_two_102 rfl (nb_le (by omega) (by omega) fun h102 => ?_) (nb_nle (by omega) (by omega) fun h102 => ?_)) | refine E_icmp_le 110 d_TM_two_102 rfl (fun h102 => ?_) (fun h102 => ?_)
      · refine E_iload d_TM_two_110 rfl ?_
        refine E_istore_7 d_TM_two_112 rfl ?_
        refine E_iload d_TM_two_114 rfl ?_
        refine E_iload d_TM_two_116 rfl ?_
        refine E_iload d_TM_two_118 rfl ?_
        refine E_iload d_TM_two_120 rfl ?_
        refine E_iload_n d_TM_two_122 rfl ?_
        refine E_iload_n d_TM_two_123 rfl ?_
        refine E_S5 (sp_TM_areTrue (by omega) (by omega) (by omega) (by omega)) d_TM_two_124 ml_TM_378 cb_TM_areTrue cs_TM_areTrue ⟨by decide, by decide⟩ rfl (Nat.le_of_ble_eq_true rfl) (Nat.le_of_ble_eq_true rfl) (kI fun r1 M1 hc => ?_)
        obtain ⟨rfl, rfl⟩ := hc
        first | (with_reducible refine E_isP ?_; refine E_if_eq 134 d_TM_two_127 rfl (pb_0 fun h127 => ?_) (pb_1 fun h127 => ?_)) | (with_reducible refine E_isN1 ?_; refine E_if_eq 134 d_TM_two_127 rfl (nz_eq (by omega) fun h127 => ?_) (nz_ne fun h127 => ?_)) | refine E_if_eq 134 d_TM_two_127 rfl (fun h127 => ?_) (fun h127 => ?_)
        · refine E_iconst (v := nI 0) d_TM_two_134 rfl ?_
          first | (with_reducible refine E_isN2 ?_; refine E_iaddN d_TM_two_135 ?_) | refine E_iadd d_TM_two_135 ?_
          refine E_istore_8 d_TM_two_136 rfl ?_
          first | (with_reducible refine E_isL9 ?_; refine E_iincN9 (m := 1) d_TM_two_138 rfl rfl ?_) | refine E_iinc_9 d_TM_two_138 rfl rfl ?_
          refine E_goto 55 d_TM_two_141 rfl ?_
          refine E_eqL ?_ ih2
          first | rw [if_pos h86] | rw [if_neg (Nat.not_lt.mpr h86)]
          first | rw [if_pos h102] | rw [if_neg (Nat.not_lt.mpr h102)]
          first | rw [if_pos h127] | rw [if_neg h127]
        · refine E_iconst (v := nI 1) d_TM_two_130 rfl ?_
          refine E_goto 135 d_TM_two_131 rfl ?_
          first | (with_reducible refine E_isN2 ?_; refine E_iaddN d_TM_two_135 ?_) | refine E_iadd d_TM_two_135 ?_
          refine E_istore_8 d_TM_two_136 rfl ?_
          first | (with_reducible refine E_isL9 ?_; refine E_iincN9 (m := 1) d_TM_two_138 rfl rfl ?_) | refine E_iinc_9 d_TM_two_138 rfl rfl ?_
          refine E_goto 55 d_TM_two_141 rfl ?_
          refine E_eqL ?_ ih2
          first | rw [if_pos h86] | rw [if_neg (Nat.not_lt.mpr h86)]
          first | rw [if_pos h102] | rw [if_neg (Nat.not_lt.mpr h102)]
          first | rw [if_pos h127] | rw [if_neg h127]
      · refine E_iload d_TM_two_105 rfl ?_
        refine E_goto 112 d_TM_two_107 rfl ?_
        refine E_istore_7 d_TM_two_112 rfl ?_
        refine E_iload d_TM_two_114 rfl ?_
        refine E_iload d_TM_two_116 rfl ?_
        refine E_iload d_TM_two_118 rfl ?_
        refine E_iload d_TM_two_120 rfl ?_
        refine E_iload_n d_TM_two_122 rfl ?_
        refine E_iload_n d_TM_two_123 rfl ?_
        refine E_S5 (sp_TM_areTrue (by omega) (by omega) (by omega) (by omega)) d_TM_two_124 ml_TM_378 cb_TM_areTrue cs_TM_areTrue ⟨by decide, by decide⟩ rfl (Nat.le_of_ble_eq_true rfl) (Nat.le_of_ble_eq_true rfl) (kI fun r1 M1 hc => ?_)
        obtain ⟨rfl, rfl⟩ := hc
        first | (with_reducible refine E_isP ?_; refine E_if_eq 134 d_TM_two_127 rfl (pb_0 fun h127 => ?_) (pb_1 fun h127 => ?_)) | (with_reducible refine E_isN1 ?_; refine E_if_eq 134 d_TM_two_127 rfl (nz_eq (by omega) fun h127 => ?_) (nz_ne fun h127 => ?_)) | refine E_if_eq 134 d_TM_two_127 rfl (fun h127 => ?_) (fun h127 => ?_)
        · refine E_iconst (v := nI 0) d_TM_two_134 rfl ?_
          first | (with_reducible refine E_isN2 ?_; refine E_iaddN d_TM_two_135 ?_) | refine E_iadd d_TM_two_135 ?_
          refine E_istore_8 d_TM_two_136 rfl ?_
          first | (with_reducible refine E_isL9 ?_; refine E_iincN9 (m := 1) d_TM_two_138 rfl rfl ?_) | refine E_iinc_9 d_TM_two_138 rfl rfl ?_
          refine E_goto 55 d_TM_two_141 rfl ?_
          refine E_eqL ?_ ih2
          first | rw [if_pos h86] | rw [if_neg (Nat.not_lt.mpr h86)]
          first | rw [if_pos h102] | rw [if_neg (Nat.not_lt.mpr h102)]
          first | rw [if_pos h127] | rw [if_neg h127]
        · refine E_iconst (v := nI 1) d_TM_two_130 rfl ?_
          refine E_goto 135 d_TM_two_131 rfl ?_
          first | (with_reducible refine E_isN2 ?_; refine E_iaddN d_TM_two_135 ?_) | refine E_iadd d_TM_two_135 ?_
          refine E_istore_8 d_TM_two_136 rfl ?_
          first | (with_reducible refine E_isL9 ?_; refine E_iincN9 (m := 1) d_TM_two_138 rfl rfl ?_) | refine E_iinc_9 d_TM_two_138 rfl rfl ?_
          refine E_goto 55 d_TM_two_141 rfl ?_
          refine E_eqL ?_ ih2
          first | rw [if_pos h86] | rw [if_neg (Nat.not_lt.mpr h86)]
          first | rw [if_pos h102] | rw [if_neg (Nat.not_lt.mpr h102)]
          first | rw [if_pos h127] | rw [if_neg h127]
    · refine E_iload d_TM_two_89 rfl ?_
      refine E_goto 96 d_TM_two_91 rfl ?_
      refine E_istore_6 d_TM_two_96 rfl ?_
      refine E_iload d_TM_two_98 rfl ?_
      refine E_iload d_TM_two_100 rfl ?_
      first | (with_reducible refine E_isN2 ?_; refine E_icmp_le 110 d_TM_two_102 rfl (nb_le (by omega) (by omega) fun h102 => ?_) (nb_nle (by omega) (by omega) fun h102 => ?_)) | refine E_icmp_le 110 d_TM_two_102 rfl (fun h102 => ?_) (fun h102 => ?_)
      · refine E_iload d_TM_two_110 rfl ?_
        refine E_istore_7 d_TM_two_112 rfl ?_
        refine E_iload d_TM_two_114 rfl ?_
        refine E_iload d_TM_two_116 rfl ?_
        refine E_iload d_TM_two_118 rfl ?_
        refine E_iload d_TM_two_120 rfl ?_
        refine E_iload_n d_TM_two_122 rfl ?_
        refine E_iload_n d_TM_two_123 rfl ?_
        refine E_S5 (sp_TM_areTrue (by omega) (by omega) (by omega) (by omega)) d_TM_two_124 ml_TM_378 cb_TM_areTrue cs_TM_areTrue ⟨by decide, by decide⟩ rfl (Nat.le_of_ble_eq_true rfl) (Nat.le_of_ble_eq_true rfl) (kI fun r1 M1 hc => ?_)
        obtain ⟨rfl, rfl⟩ := hc
        first | (with_reducible refine E_isP ?_; refine E_if_eq 134 d_TM_two_127 rfl (pb_0 fun h127 => ?_) (pb_1 fun h127 => ?_)) | (with_reducible refine E_isN1 ?_; refine E_if_eq 134 d_TM_two_127 rfl (nz_eq (by omega) fun h127 => ?_) (nz_ne fun h127 => ?_)) | refine E_if_eq 134 d_TM_two_127 rfl (fun h127 => ?_) (fun h127 => ?_)
        · refine E_iconst (v := nI 0) d_TM_two_134 rfl ?_
          first | (with_reducible refine E_isN2 ?_; refine E_iaddN d_TM_two_135 ?_) | refine E_iadd d_TM_two_135 ?_
          refine E_istore_8 d_TM_two_136 rfl ?_
          first | (with_reducible refine E_isL9 ?_; refine E_iincN9 (m := 1) d_TM_two_138 rfl rfl ?_) | refine E_iinc_9 d_TM_two_138 rfl rfl ?_
          refine E_goto 55 d_TM_two_141 rfl ?_
          refine E_eqL ?_ ih2
          first | rw [if_pos h86] | rw [if_neg (Nat.not_lt.mpr h86)]
          first | rw [if_pos h102] | rw [if_neg (Nat.not_lt.mpr h102)]
          first | rw [if_pos h127] | rw [if_neg h127]
        · refine E_iconst (v := nI 1) d_TM_two_130 rfl ?_
          refine E_goto 135 d_TM_two_131 rfl ?_
          first | (with_reducible refine E_isN2 ?_; refine E_iaddN d_TM_two_135 ?_) | refine E_iadd d_TM_two_135 ?_
          refine E_istore_8 d_TM_two_136 rfl ?_
          first | (with_reducible refine E_isL9 ?_; refine E_iincN9 (m := 1) d_TM_two_138 rfl rfl ?_) | refine E_iinc_9 d_TM_two_138 rfl rfl ?_
          refine E_goto 55 d_TM_two_141 rfl ?_
          refine E_eqL ?_ ih2
          first | rw [if_pos h86] | rw [if_neg (Nat.not_lt.mpr h86)]
          first | rw [if_pos h102] | rw [if_neg (Nat.not_lt.mpr h102)]
          first | rw [if_pos h127] | rw [if_neg h127]
      · refine E_iload d_TM_two_105 rfl ?_
        refine E_goto 112 d_TM_two_107 rfl ?_
        refine E_istore_7 d_TM_two_112 rfl ?_
        refine E_iload d_TM_two_114 rfl ?_
        refine E_iload d_TM_two_116 rfl ?_
        refine E_iload d_TM_two_118 rfl ?_
        refine E_iload d_TM_two_120 rfl ?_
        refine E_iload_n d_TM_two_122 rfl ?_
        refine E_iload_n d_TM_two_123 rfl ?_
        refine E_S5 (sp_TM_areTrue (by omega) (by omega) (by omega) (by omega)) d_TM_two_124 ml_TM_378 cb_TM_areTrue cs_TM_areTrue ⟨by decide, by decide⟩ rfl (Nat.le_of_ble_eq_true rfl) (Nat.le_of_ble_eq_true rfl) (kI fun r1 M1 hc => ?_)
        obtain ⟨rfl, rfl⟩ := hc
        first | (with_reducible refine E_isP ?_; refine E_if_eq 134 d_TM_two_127 rfl (pb_0 fun h127 => ?_) (pb_1 fun h127 => ?_)) | (with_reducible refine E_isN1 ?_; refine E_if_eq 134 d_TM_two_127 rfl (nz_eq (by omega) fun h127 => ?_) (nz_ne fun h127 => ?_)) | refine E_if_eq 134 d_TM_two_127 rfl (fun h127 => ?_) (fun h127 => ?_)
        · refine E_iconst (v := nI 0) d_TM_two_134 rfl ?_
          first | (with_reducible refine E_isN2 ?_; refine E_iaddN d_TM_two_135 ?_) | refine E_iadd d_TM_two_135 ?_
          refine E_istore_8 d_TM_two_136 rfl ?_
          first | (with_reducible refine E_isL9 ?_; refine E_iincN9 (m := 1) d_TM_two_138 rfl rfl ?_) | refine E_iinc_9 d_TM_two_138 rfl rfl ?_
          refine E_goto 55 d_TM_two_141 rfl ?_
          refine E_eqL ?_ ih2
          first | rw [if_pos h86] | rw [if_neg (Nat.not_lt.mpr h86)]
          first | rw [if_pos h102] | rw [if_neg (Nat.not_lt.mpr h102)]
          first | rw [if_pos h127] | rw [if_neg h127]
        · refine E_iconst (v := nI 1) d_TM_two_130 rfl ?_
          refine E_goto 135 d_TM_two_131 rfl ?_
          first | (with_reducible refine E_isN2 ?_; refine E_iaddN d_TM_two_135 ?_) | refine E_iadd d_TM_two_135 ?_
          refine E_istore_8 d_TM_two_136 rfl ?_
          first | (with_reducible refine E_isL9 ?_; refine E_iincN9 (m := 1) d_TM_two_138 rfl rfl ?_) | refine E_iinc_9 d_TM_two_138 rfl rfl ?_
          refine E_goto 55 d_TM_two_141 rfl ?_
          refine E_eqL ?_ ih2
          first | rw [if_pos h86] | rw [if_neg (Nat.not_lt.mpr h86)]
          first | rw [if_pos h102] | rw [if_neg (Nat.not_lt.mpr h102)]
          first | rw [if_pos h127] | rw [if_neg h127]
