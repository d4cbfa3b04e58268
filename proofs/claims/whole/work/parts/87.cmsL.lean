section CMl
variable {G : Geo} {M : Mem}
theorem CM_setX {c : Cr} {x : Nat} (hC : CM c G M) (hx : x < 31033) : CM (c.setNow (c.now.setX x)) G (wI M (1 + 1) 6 (nI x)) :=
  CM_now hC (Sc.rf.wI (P := CW) (CW.r (by omega))) (fun k hk => mI_ne (by omega)) rfl (MoC.setX hC.now) (Wf_now hC.w (Mok_setX hC.w.mo hx) rfl)
theorem sp_Ro_passYear {c : Cr} (hC : CM c G M) : E 5 0 0 Y_Ro_passYear 0 [some (.ref 214), some (.ref 2), none, none, none, none, none] [] G M (QV G fun M' => CM (happ (c.setNow (c.now.setX (nx c.now.x))) c.now.x) G M' ∧ Sc CW M M') := by
  have hG := hC.G
  have hR := hC.R
  have hm := hC.now
  have hw := hC.w
  have hx := hw.mo.x
  have hC1 := CM_setX hC (nx_lt31 c.now.x)
  have s1 : Sc CW M (wI M (1 + 1) 6 (nI (nx c.now.x))) := Sc.rf.wI (CW.r (by omega))
  have l0 := lp_Ro_passYear (x := c.now.x) hC1 hx
  first | refine E_aload_n d_Ro_passYear_0 rfl ?_ | refine E_aload_nN d_Ro_passYear_0 rfl ?_
  refine E_V0 (sp_Mo_drawX hG ad2 hm hw.mo) d_Ro_passYear_1 ml_Ro_41 cb_Mo_drawX cv_Mo_drawX (by first | exact hG.s (by decide) rfl) ⟨by decide, rfl⟩ ⟨by decide, by decide⟩ rfl (Nat.le_of_ble_eq_true rfl) (Nat.le_of_ble_eq_true rfl) (kI fun r1 M1 hc => ?_)
  obtain ⟨rfl, rfl⟩ := hc
  exact E_mono l0 (fun _ _ _ h => ⟨h.1, h.2.1, h.2.2.1, s1.tr h.2.2.2⟩)
theorem lp_Ro_years {M0 : Mem} {s : Int32} {n : Nat} {R : Cr} (hn : n ≤ 40) : ∀ k i, i + k = n → ∀ c M, yearA k c = R → CM c G M → Sc CW M0 M → E 6 0 0 Y_Ro_passYears 26 [some (.ref 214), some (.int s), some (.int (nI n)), some (.int (nI i))] [] G M (QV G fun M' => CM R G M' ∧ Sc CW M0 M') := by
  intro k
  induction k with
  | zero =>
    intro i hi c M hv hC hX
    have hv2 : c = R := hv
    subst hv2
    have hi2 : i = n := by omega
    subst hi2
    refine E_iload_n d_Ro_passYears_26 rfl ?_
    refine E_iload_n d_Ro_passYears_27 rfl ?_
    first | (with_reducible refine E_isN2 ?_; refine E_icmp_ge 48 d_Ro_passYears_28 rfl (nb_le (by omega) (by omega) fun h28 => ?_) (nb_nle (by omega) (by omega) fun h28 => ?_)) | refine E_icmp_ge 48 d_Ro_passYears_28 rfl (fun h28 => ?_) (fun h28 => ?_)
    rotate_left
    · exfalso; omega
    refine E_retV d_Ro_passYears_48 rfl ?_
    exact ⟨hC, hX⟩
  | succ k ih =>
    intro i hi c M hv hC hX
    have hG := hC.G
    have hR := hC.R
    have hv2 : yearA k (happ (c.setNow (c.now.setX (nx c.now.x))) c.now.x) = R := hv
    refine E_iload_n d_Ro_passYears_26 rfl ?_
    refine E_iload_n d_Ro_passYears_27 rfl ?_
    first | (with_reducible refine E_isN2 ?_; refine E_icmp_ge 48 d_Ro_passYears_28 rfl (nb_le (by omega) (by omega) fun h28 => ?_) (nb_nle (by omega) (by omega) fun h28 => ?_)) | refine E_icmp_ge 48 d_Ro_passYears_28 rfl (fun h28 => ?_) (fun h28 => ?_)
    · exfalso; omega
    first | refine E_aload_n d_Ro_passYears_31 rfl ?_ | refine E_aload_nN d_Ro_passYears_31 rfl ?_
    first | refine E_aload_n d_Ro_passYears_32 rfl ?_ | refine E_aload_nN d_Ro_passYears_32 rfl ?_
    refine E_getR d_Ro_passYears_33 gf_Ro_15 (by first | exact hG.s (by decide) rfl) (by first | exact hR.o rfl | exact hR.c cr1 rfl | exact hR.m0 ad2) ?_
    refine E_getR d_Ro_passYears_36 gf_Ro_93 (by first | exact hG.s (by decide) rfl) (by first | exact hR.o rfl | exact hR.c cr1 rfl | exact hR.m0 ad2) ?_
    refine E_V1 (sp_Ro_passYear hC) d_Ro_passYears_39 ml_Ro_142 cb_Ro_passYear cv_Ro_passYear (by first | exact hG.s (by decide) rfl) ⟨by decide, rfl⟩ ⟨by decide, by decide⟩ rfl (Nat.le_of_ble_eq_true rfl) (Nat.le_of_ble_eq_true rfl) (kV fun M1 hc => ?_)
    obtain ⟨hC1, hS1⟩ := hc
    first | (with_reducible refine E_isL3 ?_; refine E_iincN3 (m := 1) d_Ro_passYears_42 rfl rfl ?_) | refine E_iinc_3 d_Ro_passYears_42 rfl rfl ?_
    refine E_goto 26 d_Ro_passYears_45 rfl ?_
    exact ih (i + 1) (by omega) _ _ hv2 hC1 (hX.tr hS1)
theorem sp_Ro_passYears {c : Cr} {s n : Nat} (hC : CM c G M) (hs : s < 10000) (hn : n ≤ 40) : E 6 0 0 Y_Ro_passYears 0 [some (.ref 214), some (.int (nI s)), some (.int (nI n)), none] [] G M (QV G fun M' => CM (yearS c s n) G M' ∧ Sc CW M M') := by
  have hG := hC.G
  have hR := hC.R
  have L : ∀ M1, CM (keepS c) G M1 → Sc CW M M1 → E 6 0 0 Y_Ro_passYears 26 [some (.ref 214), some (.int (nI s)), some (.int (nI n)), some (.int (nI 0))] [] G (wI M1 (1 + 1) 6 (nI (s * 2 + 449))) (QV G fun M' => CM (yearS c s n) G M' ∧ Sc CW M M') := fun M1 h1 hS =>
    lp_Ro_years hn n 0 (Nat.zero_add _) _ _ rfl (CM_setX h1 (by omega)) (hS.wI (CW.r (by omega)))
  first | refine E_aload_n d_Ro_passYears_0 rfl ?_ | refine E_aload_nN d_Ro_passYears_0 rfl ?_
  refine E_getR d_Ro_passYears_1 gf_Ro_15 (by first | exact hG.s (by decide) rfl) (by first | exact hR.o rfl | exact hR.c cr1 rfl | exact hR.m0 ad2) ?_
  refine E_V0 (sp_Cr_keepStep hC) d_Ro_passYears_4 ml_Ro_97 cb_Cr_keepStep cv_Cr_keepStep (by first | exact hG.s (by decide) rfl) ⟨by decide, rfl⟩ ⟨by decide, by decide⟩ rfl (Nat.le_of_ble_eq_true rfl) (Nat.le_of_ble_eq_true rfl) (kV fun M1 hc => ?_)
  obtain ⟨hC1, hS1⟩ := hc; have hR := hC1.R; have l := L _ hC1 hS1
  first | refine E_aload_n d_Ro_passYears_7 rfl ?_ | refine E_aload_nN d_Ro_passYears_7 rfl ?_
  refine E_getR d_Ro_passYears_8 gf_Ro_15 (by first | exact hG.s (by decide) rfl) (by first | exact hR.o rfl | exact hR.c cr1 rfl | exact hR.m0 ad2) ?_
  refine E_getR d_Ro_passYears_11 gf_Ro_93 (by first | exact hG.s (by decide) rfl) (by first | exact hR.o rfl | exact hR.c cr1 rfl | exact hR.m0 ad2) ?_
  refine E_iload_n d_Ro_passYears_14 rfl ?_
  refine E_iconst (v := nI 2) d_Ro_passYears_15 rfl ?_
  first | (with_reducible refine E_isN2 ?_; refine E_imulN d_Ro_passYears_16 ?_) | refine E_imul d_Ro_passYears_16 ?_
  refine E_sipush (v := nI 449) d_Ro_passYears_17 (by decide) ?_
  first | (with_reducible refine E_isN2 ?_; refine E_iaddN d_Ro_passYears_20 ?_) | refine E_iadd d_Ro_passYears_20 ?_
  refine E_putI d_Ro_passYears_21 gf_Ro_139 (by first | exact hG.s (by decide) rfl) rfl rfl ?_
  refine E_iconst (v := nI 0) d_Ro_passYears_24 rfl ?_
  refine E_istore_3 d_Ro_passYears_25 rfl ?_
  exact l
theorem sp_TP_years {c : Cr} (hC : CM c G M) (x y : Int32) : E 7 0 0 Y_TP_years 0 [some (.ref 0), some (.int x), some (.int y)] [] G M (QI G fun r M' => r = ans_years c x y ∧ CM (st_years c x y) G M' ∧ Sc CW M M') := by
  have hG := hC.G
  have hR := hC.R
  have e9 : (nI 9999).toInt = 9999 := by decide
  have e1 : (nI 1).toInt = 1 := by decide
  have e40 : (nI 40).toInt = 40 := by decide
  revert x y
  refine args2 10000 41 (fun s n hs hx ht hn hy ht2 => ?_) (fun x y hx => ?_) (fun x y hx hy => ?_)
  · by_cases h0 : n = 0
    · have hP : ¬ yeaP (nI s) (nI n) := fun q => q.2.2 (by rw [ht2]; exact h0)
      rw [ans_years, st_years, if_neg hP, if_neg hP]
      refine E_iload_n d_TP_years_0 rfl ?_
      first | (with_reducible refine E_isN1 ?_; refine E_if_lt 22 d_TP_years_1 rfl (nz_lt (by omega) fun h1 => ?_) (nz_nlt (by omega) fun h1 => ?_)) | refine E_if_lt 22 d_TP_years_1 rfl (fun h1 => ?_) (fun h1 => ?_)
      · exfalso; exact absurd h1 (Nat.not_lt_zero s)
      refine E_iload_n d_TP_years_4 rfl ?_
      refine E_sipush (v := nI 9999) d_TP_years_5 (by decide) ?_
      first | (with_reducible refine E_isN2 ?_; refine E_icmp_gt 22 d_TP_years_8 rfl (nb_lt (by omega) (by omega) fun h8 => ?_) (nb_nlt (by omega) (by omega) fun h8 => ?_)) | refine E_icmp_gt 22 d_TP_years_8 rfl (fun h8 => ?_) (fun h8 => ?_)
      · exfalso; omega
      refine E_iload_n d_TP_years_11 rfl ?_
      refine E_iconst (v := nI 1) d_TP_years_12 rfl ?_
      first | (with_reducible refine E_isN2 ?_; refine E_icmp_lt 22 d_TP_years_13 rfl (nb_lt (by omega) (by omega) fun h13 => ?_) (nb_nlt (by omega) (by omega) fun h13 => ?_)) | refine E_icmp_lt 22 d_TP_years_13 rfl (fun h13 => ?_) (fun h13 => ?_)
      rotate_left
      · exfalso; omega
      refine E_iconst (v := (-1)) d_TP_years_22 rfl ?_
      refine E_retI d_TP_years_23 rfl ?_
      exact ⟨rfl, hC, Sc.rf⟩
    · have hP : yeaP (nI s) (nI n) := ⟨hx, hy, by rw [ht2]; exact h0⟩
      rw [ans_years, st_years, if_pos hP, if_pos hP, ht, ht2]
      refine E_iload_n d_TP_years_0 rfl ?_
      first | (with_reducible refine E_isN1 ?_; refine E_if_lt 22 d_TP_years_1 rfl (nz_lt (by omega) fun h1 => ?_) (nz_nlt (by omega) fun h1 => ?_)) | refine E_if_lt 22 d_TP_years_1 rfl (fun h1 => ?_) (fun h1 => ?_)
      · exfalso; exact absurd h1 (Nat.not_lt_zero s)
      refine E_iload_n d_TP_years_4 rfl ?_
      refine E_sipush (v := nI 9999) d_TP_years_5 (by decide) ?_
      first | (with_reducible refine E_isN2 ?_; refine E_icmp_gt 22 d_TP_years_8 rfl (nb_lt (by omega) (by omega) fun h8 => ?_) (nb_nlt (by omega) (by omega) fun h8 => ?_)) | refine E_icmp_gt 22 d_TP_years_8 rfl (fun h8 => ?_) (fun h8 => ?_)
      · exfalso; omega
      refine E_iload_n d_TP_years_11 rfl ?_
      refine E_iconst (v := nI 1) d_TP_years_12 rfl ?_
      first | (with_reducible refine E_isN2 ?_; refine E_icmp_lt 22 d_TP_years_13 rfl (nb_lt (by omega) (by omega) fun h13 => ?_) (nb_nlt (by omega) (by omega) fun h13 => ?_)) | refine E_icmp_lt 22 d_TP_years_13 rfl (fun h13 => ?_) (fun h13 => ?_)
      · exfalso; omega
      refine E_iload_n d_TP_years_16 rfl ?_
      refine E_bipush (v := nI 40) d_TP_years_17 (by decide) ?_
      first | (with_reducible refine E_isN2 ?_; refine E_icmp_le 24 d_TP_years_19 rfl (nb_le (by omega) (by omega) fun h19 => ?_) (nb_nle (by omega) (by omega) fun h19 => ?_)) | refine E_icmp_le 24 d_TP_years_19 rfl (fun h19 => ?_) (fun h19 => ?_)
      rotate_left
      · exfalso; omega
      first | refine E_aload_n d_TP_years_24 rfl ?_ | refine E_aload_nN d_TP_years_24 rfl ?_
      refine E_getR d_TP_years_25 gf_TP_40 (by first | exact hG.s (by decide) rfl) (by first | exact hR.o rfl | exact hR.c cr1 rfl | exact hR.m0 ad2) ?_
      refine E_iload_n d_TP_years_28 rfl ?_
      refine E_iload_n d_TP_years_29 rfl ?_
      refine E_V2 (sp_Ro_passYears hC hs (by omega)) d_TP_years_30 ml_TP_152 cb_Ro_passYears cv_Ro_passYears (by first | exact hG.s (by decide) rfl) ⟨by decide, rfl⟩ ⟨by decide, by decide⟩ rfl (Nat.le_of_ble_eq_true rfl) (Nat.le_of_ble_eq_true rfl) (kV fun M1 hc => ?_)
      obtain ⟨hC1, hS1⟩ := hc; have hR := hC1.R; have hm := hC1.now
      first | refine E_aload_n d_TP_years_33 rfl ?_ | refine E_aload_nN d_TP_years_33 rfl ?_
      refine E_getR d_TP_years_34 gf_TP_10 (by first | exact hG.s (by decide) rfl) (by first | exact hR.o rfl | exact hR.c cr1 rfl | exact hR.m0 ad2) ?_
      refine E_getR d_TP_years_37 gf_TP_128 (by first | exact hG.s (by decide) rfl) (by first | exact hR.o rfl | exact hR.c cr1 rfl | exact hR.m0 ad2) ?_
      refine E_getI d_TP_years_40 gf_TP_137 (by first | exact hG.s (by decide) rfl) (by first | exact hm.people | exact hm.figure | exact hm.round | rfl) ?_
      refine E_retI d_TP_years_43 rfl ?_
      exact ⟨rfl, hC1, hS1⟩
  · have hP : ¬ yeaP x y := fun q => hx q.1
    have no := out_gt (n := 9999) (by decide) hx
    rw [ans_years, st_years, if_neg hP, if_neg hP]
    refine E_iload_n d_TP_years_0 rfl ?_
    first | (with_reducible refine E_isN1 ?_; refine E_if_lt 22 d_TP_years_1 rfl (nz_lt (by omega) fun h1 => ?_) (nz_nlt (by omega) fun h1 => ?_)) | refine E_if_lt 22 d_TP_years_1 rfl (fun h1 => ?_) (fun h1 => ?_)
    · refine E_iconst (v := (-1)) d_TP_years_22 rfl ?_
      refine E_retI d_TP_years_23 rfl ?_
      exact ⟨rfl, hC, Sc.rf⟩
    · refine E_iload_n d_TP_years_4 rfl ?_
      refine E_sipush (v := nI 9999) d_TP_years_5 (by decide) ?_
      first | (with_reducible refine E_isN2 ?_; refine E_icmp_gt 22 d_TP_years_8 rfl (nb_lt (by omega) (by omega) fun h8 => ?_) (nb_nlt (by omega) (by omega) fun h8 => ?_)) | refine E_icmp_gt 22 d_TP_years_8 rfl (fun h8 => ?_) (fun h8 => ?_)
      rotate_left
      · exfalso; exact no h1 h8
      refine E_iconst (v := (-1)) d_TP_years_22 rfl ?_
      refine E_retI d_TP_years_23 rfl ?_
      exact ⟨rfl, hC, Sc.rf⟩
  · have hP : ¬ yeaP x y := fun q => hy q.2.1
    have no : ¬ y < nI 1 → y ≤ nI 40 → False := fun q1 q2 => hy (by rw [lt_toInt, e1] at q1; rw [le_toInt, e40] at q2; unfold inN; omega)
    rw [ans_years, st_years, if_neg hP, if_neg hP]
    refine E_iload_n d_TP_years_0 rfl ?_
    first | (with_reducible refine E_isN1 ?_; refine E_if_lt 22 d_TP_years_1 rfl (nz_lt (by omega) fun h1 => ?_) (nz_nlt (by omega) fun h1 => ?_)) | refine E_if_lt 22 d_TP_years_1 rfl (fun h1 => ?_) (fun h1 => ?_)
    · refine E_iconst (v := (-1)) d_TP_years_22 rfl ?_
      refine E_retI d_TP_years_23 rfl ?_
      exact ⟨rfl, hC, Sc.rf⟩
    · refine E_iload_n d_TP_years_4 rfl ?_
      refine E_sipush (v := nI 9999) d_TP_years_5 (by decide) ?_
      first | (with_reducible refine E_isN2 ?_; refine E_icmp_gt 22 d_TP_years_8 rfl (nb_lt (by omega) (by omega) fun h8 => ?_) (nb_nlt (by omega) (by omega) fun h8 => ?_)) | refine E_icmp_gt 22 d_TP_years_8 rfl (fun h8 => ?_) (fun h8 => ?_)
      · refine E_iconst (v := (-1)) d_TP_years_22 rfl ?_
        refine E_retI d_TP_years_23 rfl ?_
        exact ⟨rfl, hC, Sc.rf⟩
      · refine E_iload_n d_TP_years_11 rfl ?_
        refine E_iconst (v := nI 1) d_TP_years_12 rfl ?_
        first | (with_reducible refine E_isN2 ?_; refine E_icmp_lt 22 d_TP_years_13 rfl (nb_lt (by omega) (by omega) fun h13 => ?_) (nb_nlt (by omega) (by omega) fun h13 => ?_)) | refine E_icmp_lt 22 d_TP_years_13 rfl (fun h13 => ?_) (fun h13 => ?_)
        · refine E_iconst (v := (-1)) d_TP_years_22 rfl ?_
          refine E_retI d_TP_years_23 rfl ?_
          exact ⟨rfl, hC, Sc.rf⟩
        · refine E_iload_n d_TP_years_16 rfl ?_
          refine E_bipush (v := nI 40) d_TP_years_17 (by decide) ?_
          first | (with_reducible refine E_isN2 ?_; refine E_icmp_le 24 d_TP_years_19 rfl (nb_le (by omega) (by omega) fun h19 => ?_) (nb_nle (by omega) (by omega) fun h19 => ?_)) | refine E_icmp_le 24 d_TP_years_19 rfl (fun h19 => ?_) (fun h19 => ?_)
          · exfalso; exact no h13 h19
          refine E_iconst (v := (-1)) d_TP_years_22 rfl ?_
          refine E_retI d_TP_years_23 rfl ?_
          exact ⟨rfl, hC, Sc.rf⟩
end CMl
