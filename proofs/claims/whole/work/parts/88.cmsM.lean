section CMm
variable {c : Cr} {G : Geo} {M : Mem}
def EqB (m n : Mo) : Prop := m.lean = n.lean ∧ m.people = n.people ∧ m.answers = n.answers ∧ m.figure = n.figure ∧ m.round = n.round ∧ m.x = n.x
theorem EqB_ans {m n : Mo} {f : Nat} (h : EqB m n) : answered c m f = answered (c.setNow n) n f := by
  obtain ⟨h1, h2, h3, h4, h5, h6⟩ := h
  have e : (fun p => (isYes c m (ruler c) p f) != (decide (nxs p m.x % 20 = 0))) = fun p => (isYes (c.setNow n) n (ruler (c.setNow n)) p f) != (decide (nxs p n.x % 20 = 0)) := funext fun p => by
    rw [h6, isYes_cg (c := c.setNow n) (c' := c) (m := n) (m' := m) rfl rfl h1 h2 h3 h5 (ruler c) p f]
    rfl
  unfold answered
  rw [e, h2]
theorem EqB_pass {m n : Mo} {f : Nat} (h : EqB m n) : EqB (passW true c m f) (passW false (c.setNow n) n f) := by
  have ha := EqB_ans (c := c) (f := f) h
  obtain ⟨h1, h2, h3, h4, h5, h6⟩ := h
  refine ⟨funext fun p => ?_, h2, ha, ?_, ?_, ?_⟩
  · show (clampZ ((m.lean p : Int) + sway c m p f (if (answered c m f).testBit p = true then 1 else 0)) 0 9).toNat = (clampZ ((n.lean p : Int) + sway (c.setNow n) n p f (if (answered (c.setNow n) n f).testBit p = true then 1 else 0)) 0 9).toNat
    rw [ha, h1, sway_cg (c := c.setNow n) (c' := c) (m := n) (m' := m) rfl rfl rfl h1 h2 h3 h5]
  · show pc9 (answered c m f) = pc9 (answered (c.setNow n) n f)
    rw [ha]
  · show m.round + 1 = n.round + 1
    rw [h5]
  · show nxs m.people m.x = nxs n.people n.x
    rw [h2, h6]
theorem foreA_stop : ∀ k d, ¬ d.now.round < 9999 → foreA k d = d := by
  intro k
  induction k with
  | zero => intro d _; rfl
  | succ k ih => intro d h; rw [foreA, if_neg h]; exact ih d h
theorem lp_Ro_some {M0 : Mem} {N : Nat} (hN : N ≤ 60) : ∀ k i m n M, i + k = N → AB c m 209 G M → EqB m n → Sc (SR 209) M0 M → E 5 0 0 Y_Ro_passSome 2 [some (.ref 214), some (.ref 209), some (.int (nI N)), some (.int (nI i))] [] G M (QV G fun M' => ∃ m', AB c m' 209 G M' ∧ EqB m' (foreA k (c.setNow n)).now ∧ Sc (SR 209) M0 M') := by
  intro k
  induction k with
  | zero =>
    intro i m n M hi hA hE hX
    have hi2 : i = N := by omega
    subst hi2
    refine E_iload_n d_Ro_passSome_2 rfl ?_
    refine E_iload_n d_Ro_passSome_3 rfl ?_
    first | (with_reducible refine E_isN2 ?_; refine E_icmp_ge 29 d_Ro_passSome_4 rfl (nb_le (by omega) (by omega) fun h4 => ?_) (nb_nle (by omega) (by omega) fun h4 => ?_)) | refine E_icmp_ge 29 d_Ro_passSome_4 rfl (fun h4 => ?_) (fun h4 => ?_)
    rotate_left
    · exfalso; omega
    refine E_retV d_Ro_passSome_29 rfl ?_
    exact ⟨m, hA, hE, hX⟩
  | succ k ih =>
    intro i m n M hi hA hE hX
    have hG := hA.1.G
    have hR := hA.1.R
    have hk := hA.2.2.2.1
    have hcp := sp_Mo_canPass hG ad209 hA.2.2.1 hk
    have hfg := hA.2.2.1.figure
    have hf8 : m.figure ≤ 8 := Nat.le_trans hk.fig hk.p8
    have er := hE.2.2.2.2.1
    have ef := hE.2.2.2.1
    by_cases hr : m.round < 9999
    · have e1 : foreA (k + 1) (c.setNow n) = foreA k (c.setNow (passW false (c.setNow n) n n.figure)) := by
        rw [foreA, if_pos (show (c.setNow n).now.round < 9999 from by show n.round < 9999; omega)]
        rfl
      rw [e1]
      have hps := sp_Ro_pass hA (Or.inr rfl) (fun q => absurd q (by decide)) hf8 hr
      have hE2 := EqB_pass (c := c) (f := m.figure) hE
      rw [ef] at hE2
      refine E_iload_n d_Ro_passSome_2 rfl ?_
      refine E_iload_n d_Ro_passSome_3 rfl ?_
      first | (with_reducible refine E_isN2 ?_; refine E_icmp_ge 29 d_Ro_passSome_4 rfl (nb_le (by omega) (by omega) fun h4 => ?_) (nb_nle (by omega) (by omega) fun h4 => ?_)) | refine E_icmp_ge 29 d_Ro_passSome_4 rfl (fun h4 => ?_) (fun h4 => ?_)
      · exfalso; omega
      first | refine E_aload_n d_Ro_passSome_7 rfl ?_ | refine E_aload_nN d_Ro_passSome_7 rfl ?_
      refine E_V0 (hcp) d_Ro_passSome_8 ml_Ro_85 cb_Mo_canPass cv_Mo_canPass (by first | exact hG.s (by decide) rfl | exact hG.m ad209) ⟨by decide, rfl⟩ ⟨by decide, by decide⟩ rfl (Nat.le_of_ble_eq_true rfl) (Nat.le_of_ble_eq_true rfl) (kI fun r1 M1 hc => ?_)
      obtain ⟨rfl, rfl⟩ := hc
      first | (with_reducible refine E_isP ?_; refine E_if_eq 29 d_Ro_passSome_11 rfl (pb_0 fun h11 => ?_) (pb_1 fun h11 => ?_)) | (with_reducible refine E_isN1 ?_; refine E_if_eq 29 d_Ro_passSome_11 rfl (nz_eq (by omega) fun h11 => ?_) (nz_ne fun h11 => ?_)) | refine E_if_eq 29 d_Ro_passSome_11 rfl (fun h11 => ?_) (fun h11 => ?_)
      · exfalso; exact h11 hr
      first | refine E_aload_n d_Ro_passSome_14 rfl ?_ | refine E_aload_nN d_Ro_passSome_14 rfl ?_
      first | refine E_aload_n d_Ro_passSome_15 rfl ?_ | refine E_aload_nN d_Ro_passSome_15 rfl ?_
      first | refine E_aload_n d_Ro_passSome_16 rfl ?_ | refine E_aload_nN d_Ro_passSome_16 rfl ?_
      refine E_getI d_Ro_passSome_17 gf_Ro_75 (by first | exact hG.s (by decide) rfl | exact hG.m ad209) (by first | exact hfg | exact han | rfl) ?_
      refine E_V2 (hps) d_Ro_passSome_20 ml_Ro_89 cb_Ro_pass cv_Ro_pass (by first | exact hG.s (by decide) rfl | exact hG.m ad209) ⟨by decide, rfl⟩ ⟨by decide, by decide⟩ rfl (Nat.le_of_ble_eq_true rfl) (Nat.le_of_ble_eq_true rfl) (kV fun M1 hc => ?_)
      obtain ⟨hA2, hS2⟩ := hc; rw [ef] at hA2
      first | (with_reducible refine E_isL3 ?_; refine E_iincN3 (m := 1) d_Ro_passSome_23 rfl rfl ?_) | refine E_iinc_3 d_Ro_passSome_23 rfl rfl ?_
      refine E_goto 2 d_Ro_passSome_26 rfl ?_
      exact ih (i + 1) _ _ _ (by omega) hA2 hE2 (hX.tr hS2)
    · rw [foreA_stop (k + 1) (c.setNow n) (by show ¬ n.round < 9999; omega)]
      refine E_iload_n d_Ro_passSome_2 rfl ?_
      refine E_iload_n d_Ro_passSome_3 rfl ?_
      first | (with_reducible refine E_isN2 ?_; refine E_icmp_ge 29 d_Ro_passSome_4 rfl (nb_le (by omega) (by omega) fun h4 => ?_) (nb_nle (by omega) (by omega) fun h4 => ?_)) | refine E_icmp_ge 29 d_Ro_passSome_4 rfl (fun h4 => ?_) (fun h4 => ?_)
      · exfalso; omega
      first | refine E_aload_n d_Ro_passSome_7 rfl ?_ | refine E_aload_nN d_Ro_passSome_7 rfl ?_
      refine E_V0 (hcp) d_Ro_passSome_8 ml_Ro_85 cb_Mo_canPass cv_Mo_canPass (by first | exact hG.s (by decide) rfl | exact hG.m ad209) ⟨by decide, rfl⟩ ⟨by decide, by decide⟩ rfl (Nat.le_of_ble_eq_true rfl) (Nat.le_of_ble_eq_true rfl) (kI fun r1 M1 hc => ?_)
      obtain ⟨rfl, rfl⟩ := hc
      first | (with_reducible refine E_isP ?_; refine E_if_eq 29 d_Ro_passSome_11 rfl (pb_0 fun h11 => ?_) (pb_1 fun h11 => ?_)) | (with_reducible refine E_isN1 ?_; refine E_if_eq 29 d_Ro_passSome_11 rfl (nz_eq (by omega) fun h11 => ?_) (nz_ne fun h11 => ?_)) | refine E_if_eq 29 d_Ro_passSome_11 rfl (fun h11 => ?_) (fun h11 => ?_)
      rotate_left
      · exfalso; exact hr h11
      refine E_retV d_Ro_passSome_29 rfl ?_
      exact ⟨m, hA, hE, hX⟩
theorem sp_TP_foretold (hC : CM c G M) (x y : Int32) : E 6 0 0 Y_TP_foretold 0 [some (.ref 0), some (.int x), some (.int y)] [] G M (QI G fun r M' => r = ans_foretold c x y ∧ CM c G M' ∧ Sc CW M M') := by
  have hG := hC.G
  have hR := hC.R
  have e1 : (nI 1).toInt = 1 := by decide
  have e60 : (nI 60).toInt = 60 := by decide
  have hc1 := sp_Mo_copyFrom hG hR ad209 ad2 (by decide)
  by_cases hP : forP x y
  · have ex := (in_nI hP.1).1
    have lx := (in_nI hP.1).2
    have ey := (in_nI hP.2.2).1
    have ly := (in_nI hP.2.2).2
    have h0 := hP.2.1
    rw [ans_foretold, if_pos hP]
    generalize hxx : tN x = n at ex lx h0 ⊢
    generalize hyy : tN y = w at ey ly
    subst ex
    subst ey
    have sm : ∀ M1, Sc (Bk 209) M M1 → (∀ m, Mok m → MoC m 2 M → MoC m 209 M1) → RC M1 ∧ E 5 0 0 Y_Ro_passSome 0 [some (.ref 214), some (.ref 209), some (.int (nI n)), none] [] G M1 (QV G fun M' => ∃ m', AB c m' 209 G M' ∧ EqB m' (foreA n c).now ∧ Sc (SR 209) M1 M') := fun M1 hS hcp => by
      have hC1 := hC.sc hS (fun a q => by unfold Bk at q; omega)
      refine ⟨hC1.R, ?_⟩
      refine E_iconst (v := nI 0) d_Ro_passSome_0 rfl ?_
      refine E_istore_3 d_Ro_passSome_1 rfl ?_
      exact lp_Ro_some (by omega) n 0 c.now c.now M1 (Nat.zero_add _) ⟨hC1, ad209, hcp _ hC.w.mo hC.now, hC.w.mo, Nat.le_refl _⟩ ⟨rfl, rfl, rfl, rfl, rfl, rfl⟩ Sc.rf
    have fr : ∀ M1 M2, Sc (Bk 209) M M1 → Sc (SR 209) M1 M2 → Sc CW M M2 := fun M1 M2 h1 h2 => (h1.wk (fun a q => CQ.w (by unfold Bk at q; unfold CQ; omega))).tr (h2.wk (fun a q => CQ.w (by unfold SR Bk at q; unfold CQ; omega)))
    have a0 : w = 0 → nI (foreA n c).now.figure = if nI w = 0 then nI (foreA n c).now.figure else nI (foreA n c).now.answers := fun q => by rw [q]; exact (if_pos (show nI 0 = 0 from rfl)).symm
    have a1 : ¬ w = 0 → nI (foreA n c).now.answers = if nI w = 0 then nI (foreA n c).now.figure else nI (foreA n c).now.answers := fun q => (if_neg (fun q2 => q (nI_inj (b := 0) (by omega) (by decide) (show nI w = nI 0 from q2)))).symm
    refine E_iload_n d_TP_foretold_0 rfl ?_
    refine E_iconst (v := nI 1) d_TP_foretold_1 rfl ?_
    first | (with_reducible refine E_isN2 ?_; refine E_icmp_lt 20 d_TP_foretold_2 rfl (nb_lt (by omega) (by omega) fun h2 => ?_) (nb_nlt (by omega) (by omega) fun h2 => ?_)) | refine E_icmp_lt 20 d_TP_foretold_2 rfl (fun h2 => ?_) (fun h2 => ?_)
    · exfalso; omega
    refine E_iload_n d_TP_foretold_5 rfl ?_
    refine E_bipush (v := nI 60) d_TP_foretold_6 (by decide) ?_
    first | (with_reducible refine E_isN2 ?_; refine E_icmp_gt 20 d_TP_foretold_8 rfl (nb_lt (by omega) (by omega) fun h8 => ?_) (nb_nlt (by omega) (by omega) fun h8 => ?_)) | refine E_icmp_gt 20 d_TP_foretold_8 rfl (fun h8 => ?_) (fun h8 => ?_)
    · exfalso; omega
    refine E_iload_n d_TP_foretold_11 rfl ?_
    first | (with_reducible refine E_isN1 ?_; refine E_if_lt 20 d_TP_foretold_12 rfl (nz_lt (by omega) fun h12 => ?_) (nz_nlt (by omega) fun h12 => ?_)) | refine E_if_lt 20 d_TP_foretold_12 rfl (fun h12 => ?_) (fun h12 => ?_)
    · exfalso; exact absurd h12 (Nat.not_lt_zero w)
    refine E_iload_n d_TP_foretold_15 rfl ?_
    refine E_iconst (v := nI 1) d_TP_foretold_16 rfl ?_
    first | (with_reducible refine E_isN2 ?_; refine E_icmp_le 22 d_TP_foretold_17 rfl (nb_le (by omega) (by omega) fun h17 => ?_) (nb_nle (by omega) (by omega) fun h17 => ?_)) | refine E_icmp_le 22 d_TP_foretold_17 rfl (fun h17 => ?_) (fun h17 => ?_)
    rotate_left
    · exfalso; omega
    first | refine E_aload_n d_TP_foretold_22 rfl ?_ | refine E_aload_nN d_TP_foretold_22 rfl ?_
    refine E_getR d_TP_foretold_23 gf_TP_22 (by first | exact hG.s (by decide) rfl | exact hG.m ad209) (by first | exact hR.o rfl | exact hR.c cr1 rfl | exact hR.m0 ad2) ?_
    first | refine E_aload_n d_TP_foretold_26 rfl ?_ | refine E_aload_nN d_TP_foretold_26 rfl ?_
    refine E_getR d_TP_foretold_27 gf_TP_10 (by first | exact hG.s (by decide) rfl | exact hG.m ad209) (by first | exact hR.o rfl | exact hR.c cr1 rfl | exact hR.m0 ad2) ?_
    refine E_getR d_TP_foretold_30 gf_TP_128 (by first | exact hG.s (by decide) rfl | exact hG.m ad209) (by first | exact hR.o rfl | exact hR.c cr1 rfl | exact hR.m0 ad2) ?_
    refine E_V1 (hc1) d_TP_foretold_33 ml_TP_206 cb_Mo_copyFrom cv_Mo_copyFrom (by first | exact hG.s (by decide) rfl | exact hG.m ad209) ⟨by decide, rfl⟩ ⟨by decide, by decide⟩ rfl (Nat.le_of_ble_eq_true rfl) (Nat.le_of_ble_eq_true rfl) (kV fun M1 hc => ?_)
    obtain ⟨hS, hcp⟩ := hc; obtain ⟨hR, hsm⟩ := sm _ hS hcp
    first | refine E_aload_n d_TP_foretold_36 rfl ?_ | refine E_aload_nN d_TP_foretold_36 rfl ?_
    refine E_getR d_TP_foretold_37 gf_TP_40 (by first | exact hG.s (by decide) rfl | exact hG.m ad209) (by first | exact hR.o rfl | exact hR.c cr1 rfl | exact hR.m0 ad2) ?_
    first | refine E_aload_n d_TP_foretold_40 rfl ?_ | refine E_aload_nN d_TP_foretold_40 rfl ?_
    refine E_getR d_TP_foretold_41 gf_TP_22 (by first | exact hG.s (by decide) rfl | exact hG.m ad209) (by first | exact hR.o rfl | exact hR.c cr1 rfl | exact hR.m0 ad2) ?_
    refine E_iload_n d_TP_foretold_44 rfl ?_
    refine E_V2 (hsm) d_TP_foretold_45 ml_TP_210 cb_Ro_passSome cv_Ro_passSome (by first | exact hG.s (by decide) rfl | exact hG.m ad209) ⟨by decide, rfl⟩ ⟨by decide, by decide⟩ rfl (Nat.le_of_ble_eq_true rfl) (Nat.le_of_ble_eq_true rfl) (kV fun M1 hc => ?_)
    obtain ⟨m', hA, hE, hS2⟩ := hc; have hR := hA.1.R; have hfg := hA.2.2.1.figure; have han := hA.2.2.1.answers; rw [hE.2.2.2.1] at hfg; rw [hE.2.2.1] at han
    refine E_iload_n d_TP_foretold_48 rfl ?_
    first | (with_reducible refine E_isP ?_; refine E_if_ne 62 d_TP_foretold_49 rfl (pb_1 fun h49 => ?_) (pb_0 fun h49 => ?_)) | (with_reducible refine E_isN1 ?_; refine E_if_ne 62 d_TP_foretold_49 rfl (nz_ne fun h49 => ?_) (nz_eq (by omega) fun h49 => ?_)) | refine E_if_ne 62 d_TP_foretold_49 rfl (fun h49 => ?_) (fun h49 => ?_)
    · first | refine E_aload_n d_TP_foretold_62 rfl ?_ | refine E_aload_nN d_TP_foretold_62 rfl ?_
      refine E_getR d_TP_foretold_63 gf_TP_22 (by first | exact hG.s (by decide) rfl | exact hG.m ad209) (by first | exact hR.o rfl | exact hR.c cr1 rfl | exact hR.m0 ad2) ?_
      refine E_getI d_TP_foretold_66 gf_TP_179 (by first | exact hG.s (by decide) rfl | exact hG.m ad209) (by first | exact hfg | exact han | rfl) ?_
      refine E_retI d_TP_foretold_69 rfl ?_
      first | exact ⟨a0 h49, hA.1, fr _ _ hS hS2⟩ | exact ⟨a1 h49, hA.1, fr _ _ hS hS2⟩
    · first | refine E_aload_n d_TP_foretold_52 rfl ?_ | refine E_aload_nN d_TP_foretold_52 rfl ?_
      refine E_getR d_TP_foretold_53 gf_TP_22 (by first | exact hG.s (by decide) rfl | exact hG.m ad209) (by first | exact hR.o rfl | exact hR.c cr1 rfl | exact hR.m0 ad2) ?_
      refine E_getI d_TP_foretold_56 gf_TP_131 (by first | exact hG.s (by decide) rfl | exact hG.m ad209) (by first | exact hfg | exact han | rfl) ?_
      refine E_goto 69 d_TP_foretold_59 rfl ?_
      refine E_retI d_TP_foretold_69 rfl ?_
      first | exact ⟨a0 h49, hA.1, fr _ _ hS hS2⟩ | exact ⟨a1 h49, hA.1, fr _ _ hS hS2⟩
  · rw [ans_foretold, if_neg hP]
    have no : ¬ x < nI 1 → ¬ nI 60 < x → ¬ y < 0 → y ≤ nI 1 → False := fun q1 q2 q3 q4 => hP (by
      rw [lt_toInt, e1] at q1
      rw [lt_toInt, e60] at q2
      rw [lt_toInt, z32] at q3
      rw [le_toInt, e1] at q4
      have et : tN x = x.toInt.toNat := rfl
      refine ⟨?_, by omega, ?_⟩
      · unfold inN; omega
      · unfold inN; omega)
    refine E_iload_n d_TP_foretold_0 rfl ?_
    refine E_iconst (v := nI 1) d_TP_foretold_1 rfl ?_
    first | (with_reducible refine E_isN2 ?_; refine E_icmp_lt 20 d_TP_foretold_2 rfl (nb_lt (by omega) (by omega) fun h2 => ?_) (nb_nlt (by omega) (by omega) fun h2 => ?_)) | refine E_icmp_lt 20 d_TP_foretold_2 rfl (fun h2 => ?_) (fun h2 => ?_)
    · refine E_iconst (v := (-1)) d_TP_foretold_20 rfl ?_
      refine E_retI d_TP_foretold_21 rfl ?_
      exact ⟨rfl, hC, Sc.rf⟩
    · refine E_iload_n d_TP_foretold_5 rfl ?_
      refine E_bipush (v := nI 60) d_TP_foretold_6 (by decide) ?_
      first | (with_reducible refine E_isN2 ?_; refine E_icmp_gt 20 d_TP_foretold_8 rfl (nb_lt (by omega) (by omega) fun h8 => ?_) (nb_nlt (by omega) (by omega) fun h8 => ?_)) | refine E_icmp_gt 20 d_TP_foretold_8 rfl (fun h8 => ?_) (fun h8 => ?_)
      · refine E_iconst (v := (-1)) d_TP_foretold_20 rfl ?_
        refine E_retI d_TP_foretold_21 rfl ?_
        exact ⟨rfl, hC, Sc.rf⟩
      · refine E_iload_n d_TP_foretold_11 rfl ?_
        first | (with_reducible refine E_isN1 ?_; refine E_if_lt 20 d_TP_foretold_12 rfl (nz_lt (by omega) fun h12 => ?_) (nz_nlt (by omega) fun h12 => ?_)) | refine E_if_lt 20 d_TP_foretold_12 rfl (fun h12 => ?_) (fun h12 => ?_)
        · refine E_iconst (v := (-1)) d_TP_foretold_20 rfl ?_
          refine E_retI d_TP_foretold_21 rfl ?_
          exact ⟨rfl, hC, Sc.rf⟩
        · refine E_iload_n d_TP_foretold_15 rfl ?_
          refine E_iconst (v := nI 1) d_TP_foretold_16 rfl ?_
          first | (with_reducible refine E_isN2 ?_; refine E_icmp_le 22 d_TP_foretold_17 rfl (nb_le (by omega) (by omega) fun h17 => ?_) (nb_nle (by omega) (by omega) fun h17 => ?_)) | refine E_icmp_le 22 d_TP_foretold_17 rfl (fun h17 => ?_) (fun h17 => ?_)
          · exfalso; exact no h2 h8 h12 h17
          refine E_iconst (v := (-1)) d_TP_foretold_20 rfl ?_
          refine E_retI d_TP_foretold_21 rfl ?_
          exact ⟨rfl, hC, Sc.rf⟩
end CMm
