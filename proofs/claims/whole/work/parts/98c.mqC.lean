section MQc
variable {M M0 : Mem} {l : List Nat} {k t s w0 : Nat} {p : List Nat} {cm : Cd}
abbrev JSt (j : Nat) : Prop := j = 13 ∨ j = 16 ∨ j = 17
theorem mpS_len (n : Nat) : ∀ (p : List Nat) (c : Cd), (mpS n p c).1.length + (mpS n p c).2.length = p.length + c.length ∧ mpN (mpS n p c).1 ≤ mpN p ∧ (mpS n p c).1.length ≤ p.length := by
  intro p
  induction p with
  | nil => intro c; exact ⟨rfl, Nat.le_refl _, Nat.le_refl _⟩
  | cons o p ih =>
    intro c
    rw [mpS]
    by_cases q : n ≤ mpR o
    · rw [if_pos q]
      obtain ⟨a, b, d⟩ := ih (c ++ [(o, 0)])
      have hl : (c ++ [(o, 0)]).length = c.length + 1 := by rw [List.length_append]; rfl
      refine ⟨?_, ?_, ?_⟩
      · rw [a, hl]; show _ = p.length + 1 + c.length; omega
      · rw [mpN]; omega
      · show _ ≤ p.length + 1; omega
    · rw [if_neg q]; exact ⟨rfl, Nat.le_refl _, Nat.le_refl _⟩
theorem lp_TM_settle {n : Nat} (hn : 1 ≤ n ∧ n ≤ 7) : ∀ (p : List Nat) (cm : Cd) (M : Mem), EmS l t s w0 M0 cm M → PS M p → w0 + cm.length + p.length ≤ 300 → p.length ≤ 155 → E 1 0 0 Y_TM_settle 0 [some (.ref 0), some (.int (nI n))] [] GM M (QV GM fun M' => EmS l t s w0 M0 (mpS n p cm).2 M' ∧ PS M' (mpS n p cm).1 ∧ Fo 0 JSt A3' M M') := by
  intro p
  induction p with
  | nil =>
    intro cm M hE hP _ _
    have h16 := hP.2.1
    have h16 : mI M 0 16 = nI 0 := h16
    first | refine E_aload_n d_TM_settle_0 rfl ?_ | refine E_aload_nN d_TM_settle_0 rfl ?_
    refine E_getI d_TM_settle_1 gf_TM_145 (by exact ⟨by decide, rfl⟩) (by exact h16) ?_
    first | (with_reducible refine E_isN1 ?_; refine E_if_le 93 d_TM_settle_4 rfl (nz_le (by omega) fun h4 => ?_) (nz_nle (by omega) fun h4 => ?_)) | refine E_if_le 93 d_TM_settle_4 rfl (fun h4 => ?_) (fun h4 => ?_)
    rotate_left
    · exfalso; omega
    refine E_retV d_TM_settle_93 rfl ?_
    exact ⟨hE, hP, Fo.rf⟩
  | cons o p ih =>
    intro cm M hE hP hw hL
    have hR := hE.R
    have hL : p.length + 1 ≤ 155 := hL
    have hw : w0 + cm.length + (p.length + 1) ≤ 300 := hw
    obtain ⟨⟨h1, h2, h3⟩, h16, h17⟩ := id hP
    have h16 : mI M 0 16 = nI (p.length + 1) := h16
    have hr := mpR_10 o
    by_cases q : n ≤ mpR o
    · have ho : o < 40 := mpR_lt (show 1 ≤ mpR o by omega)
      have x1 : Fo 0 JSt A3' M (wI M 0 16 (nI (p.length + 1 - 1))) := Fo.rf.wI (show JSt 16 from Or.inr (Or.inl rfl))
      have x1' : Fo 0 (fun j => j = 16) An M (wI M 0 16 (nI (p.length + 1 - 1))) := Fo.rf.wI rfl
      have hE1 : EmS l t s w0 M0 cm (wI M 0 16 (nI (p.length + 1 - 1))) := hE.cg x1'.fx (fun j q => by unfold JP; omega) (fun a q => absurd q (fun z => z))
      have e16 : mI (wI M 0 16 (nI (p.length + 1 - 1))) 0 16 = nI p.length := by rw [mI_wa, if_pos rfl]; rfl
      have e17 : mI (wI M 0 16 (nI (p.length + 1 - 1))) 0 17 = nI (mpN (o :: p)) := by rw [mI_wa, if_neg (by decide)]; exact h17
      have e5 : mI (wI M 0 16 (nI (p.length + 1 - 1))) 5 = mI M 5 := mI_ne (by decide)
      have em := sp_TM_emit hE1 (show w0 + cm.length < 304 by omega) o 0
      have hl : (cm ++ [(o, 0)]).length = cm.length + 1 := by rw [List.length_append]; rfl
      have g16 : ∀ M2, Fo 0 J13 A3' (wI M 0 16 (nI (p.length + 1 - 1))) M2 → mI M2 0 16 = nI p.length := fun M2 x => (x.2.2.1 16 (by decide)).trans e16
      have g17 : ∀ M2, Fo 0 J13 A3' (wI M 0 16 (nI (p.length + 1 - 1))) M2 → mI M2 0 17 = nI (mpN (o :: p)) := fun M2 x => (x.2.2.1 17 (by decide)).trans e17
      have g5 : ∀ M2, Fo 0 J13 A3' (wI M 0 16 (nI (p.length + 1 - 1))) M2 → mI M2 5 p.length = nI o := fun M2 x => (congrFun (x.2.1 5 (by decide) (by decide)) _).trans ((congrFun e5 _).trans h1)
      have gp : ∀ M2, Fo 0 J13 A3' (wI M 0 16 (nI (p.length + 1 - 1))) M2 → PlA M2 p := fun M2 x => PlA.cg ((x.2.1 5 (by decide) (by decide)).trans e5) p h3
      have x12 : ∀ M2, Fo 0 J13 A3' (wI M 0 16 (nI (p.length + 1 - 1))) M2 → Fo 0 JSt A3' M M2 := fun M2 x => x1.tr (x.wk (fun j q => Or.inl q) (fun a q => q))
      rw [mpS, if_pos q]
      by_cases c : mpR o = 7 ∨ o = 20
      · have eN : mpN (o :: p) = mpN p + 1 := mpN_o (by omega)
        rw [eN] at g17
        have fin : ∀ M2, EmS l t s w0 M0 (cm ++ [(o, 0)]) M2 → Fo 0 J13 A3' (wI M 0 16 (nI (p.length + 1 - 1))) M2 → E 1 0 0 Y_TM_settle 0 [some (.ref 0), some (.int (nI n))] [] GM (wI M2 0 17 (nI (mpN p + 1 - 1))) (QV GM fun M' => EmS l t s w0 M0 (mpS n p (cm ++ [(o, 0)])).2 M' ∧ PS M' (mpS n p (cm ++ [(o, 0)])).1 ∧ Fo 0 JSt A3' M M') := fun M2 hE2 x => by
          have x3 : Fo 0 (fun j => j = 17) An M2 (wI M2 0 17 (nI (mpN p + 1 - 1))) := Fo.rf.wI rfl
          refine E_mono (ih (cm ++ [(o, 0)]) _ (hE2.cg x3.fx (fun j q => by unfold JP; omega) (fun a q => absurd q (fun z => z))) ⟨PlA.cg (mI_ne (by decide)) p (gp M2 x), ?_, ?_⟩ (by rw [hl]; omega) (by omega)) (fun _ _ _ z => ⟨z.1, z.2.1, z.2.2.1, z.2.2.2.1, ((x12 M2 x).tr (x3.wk (fun j q => Or.inr (Or.inr q)) (fun a q => absurd q (fun z => z)))).tr z.2.2.2.2⟩)
          · rw [mI_wa, if_neg (by decide)]; exact g16 M2 x
          · rw [mI_wa, if_pos rfl]; rfl
        first | refine E_aload_n d_TM_settle_0 rfl ?_ | refine E_aload_nN d_TM_settle_0 rfl ?_
        refine E_getI d_TM_settle_1 gf_TM_145 (by exact ⟨by decide, rfl⟩) (by exact h16) ?_
        first | (with_reducible refine E_isN1 ?_; refine E_if_le 93 d_TM_settle_4 rfl (nz_le (by omega) fun h4 => ?_) (nz_nle (by omega) fun h4 => ?_)) | refine E_if_le 93 d_TM_settle_4 rfl (fun h4 => ?_) (fun h4 => ?_)
        · exfalso; omega
        first | refine E_aload_n d_TM_settle_7 rfl ?_ | refine E_aload_nN d_TM_settle_7 rfl ?_
        refine E_getR (q := 5) d_TM_settle_8 gf_TM_29 (by exact ⟨by decide, rfl⟩) (by first | exact hR _ rfl | exact hE2.1 _ rfl) ?_
        first | refine E_aload_n d_TM_settle_11 rfl ?_ | refine E_aload_nN d_TM_settle_11 rfl ?_
        refine E_getI d_TM_settle_12 gf_TM_145 (by exact ⟨by decide, rfl⟩) (by exact h16) ?_
        refine E_iconst (v := nI 1) d_TM_settle_15 rfl ?_
        first | (with_reducible refine E_isN2 ?_; refine E_isubN d_TM_settle_16 (by omega) ?_) | refine E_isub d_TM_settle_16 ?_
        refine E_iald d_TM_settle_17 (by exact ⟨by decide, rfl⟩) (by exact ⟨by with_reducible rfl, by omega, by decide⟩) (by exact h1) ?_
        refine E_S1 (sp_TM_rank h2) d_TM_settle_18 ml_TM_148 cb_TM_rank cs_TM_rank ⟨by decide, by decide⟩ rfl (Nat.le_of_ble_eq_true rfl) (Nat.le_of_ble_eq_true rfl) (kI fun r1 M1 hc => ?_)
        obtain ⟨rfl, rfl⟩ := hc
        refine E_iload_n d_TM_settle_21 rfl ?_
        first | (with_reducible refine E_isN2 ?_; refine E_icmp_lt 93 d_TM_settle_22 rfl (nb_lt (by omega) (by omega) fun h22 => ?_) (nb_nlt (by omega) (by omega) fun h22 => ?_)) | refine E_icmp_lt 93 d_TM_settle_22 rfl (fun h22 => ?_) (fun h22 => ?_)
        · exfalso; omega
        first | refine E_aload_n d_TM_settle_25 rfl ?_ | refine E_aload_nN d_TM_settle_25 rfl ?_
        refine E_dup d_TM_settle_26 rfl ?_
        refine E_getI d_TM_settle_27 gf_TM_145 (by exact ⟨by decide, rfl⟩) (by exact h16) ?_
        refine E_iconst (v := nI 1) d_TM_settle_30 rfl ?_
        first | (with_reducible refine E_isN2 ?_; refine E_isubN d_TM_settle_31 (by omega) ?_) | refine E_isub d_TM_settle_31 ?_
        refine E_putI d_TM_settle_32 gf_TM_145 (by exact ⟨by decide, rfl⟩) rfl rfl ?_
        first | refine E_aload_n d_TM_settle_35 rfl ?_ | refine E_aload_nN d_TM_settle_35 rfl ?_
        first | refine E_aload_n d_TM_settle_36 rfl ?_ | refine E_aload_nN d_TM_settle_36 rfl ?_
        refine E_getR (q := 5) d_TM_settle_37 gf_TM_29 (by exact ⟨by decide, rfl⟩) (by first | exact hR _ rfl | exact hE2.1 _ rfl) ?_
        first | refine E_aload_n d_TM_settle_40 rfl ?_ | refine E_aload_nN d_TM_settle_40 rfl ?_
        refine E_getI d_TM_settle_41 gf_TM_145 (by exact ⟨by decide, rfl⟩) (by exact e16) ?_
        refine E_iald d_TM_settle_44 (by exact ⟨by decide, rfl⟩) (by exact ⟨by with_reducible rfl, by omega, by decide⟩) (by exact (congrFun e5 _).trans h1) ?_
        refine E_iconst (v := nI 0) d_TM_settle_45 rfl ?_
        refine E_V2 (em) d_TM_settle_46 ml_TM_151 cb_TM_emit cv_TM_emit (by exact ⟨by decide, rfl⟩) ⟨by decide, rfl⟩ ⟨by decide, by decide⟩ rfl (Nat.le_of_ble_eq_true rfl) (Nat.le_of_ble_eq_true rfl) (kV fun M1 hc => ?_)
        obtain ⟨hE2, hX2⟩ := hc
        first | refine E_aload_n d_TM_settle_49 rfl ?_ | refine E_aload_nN d_TM_settle_49 rfl ?_
        refine E_getR (q := 5) d_TM_settle_50 gf_TM_29 (by exact ⟨by decide, rfl⟩) (by first | exact hR _ rfl | exact hE2.1 _ rfl) ?_
        first | refine E_aload_n d_TM_settle_53 rfl ?_ | refine E_aload_nN d_TM_settle_53 rfl ?_
        refine E_getI d_TM_settle_54 gf_TM_145 (by exact ⟨by decide, rfl⟩) (by exact g16 _ hX2) ?_
        refine E_iald d_TM_settle_57 (by exact ⟨by decide, rfl⟩) (by exact ⟨by with_reducible rfl, by omega, by decide⟩) (by exact g5 _ hX2) ?_
        refine E_S1 (sp_TM_rank h2) d_TM_settle_58 ml_TM_148 cb_TM_rank cs_TM_rank ⟨by decide, by decide⟩ rfl (Nat.le_of_ble_eq_true rfl) (Nat.le_of_ble_eq_true rfl) (kI fun r1 M1 hc => ?_)
        obtain ⟨rfl, rfl⟩ := hc
        refine E_bipush (v := nI 7) d_TM_settle_61 (by decide) ?_
        first | (with_reducible refine E_isN2 ?_; refine E_icmp_eq 80 d_TM_settle_63 rfl (nb_eq (by omega) (by omega) fun h63 => ?_) (nb_ne fun h63 => ?_)) | refine E_icmp_eq 80 d_TM_settle_63 rfl (fun h63 => ?_) (fun h63 => ?_)
        · first | refine E_aload_n d_TM_settle_80 rfl ?_ | refine E_aload_nN d_TM_settle_80 rfl ?_
          refine E_dup d_TM_settle_81 rfl ?_
          refine E_getI d_TM_settle_82 gf_TM_155 (by exact ⟨by decide, rfl⟩) (by exact g17 _ hX2) ?_
          refine E_iconst (v := nI 1) d_TM_settle_85 rfl ?_
          first | (with_reducible refine E_isN2 ?_; refine E_isubN d_TM_settle_86 (by omega) ?_) | refine E_isub d_TM_settle_86 ?_
          refine E_putI d_TM_settle_87 gf_TM_155 (by exact ⟨by decide, rfl⟩) rfl rfl ?_
          refine E_goto 0 d_TM_settle_90 rfl ?_
          first | exact fin _ hE2 hX2 | (exfalso; omega)
        · first | refine E_aload_n d_TM_settle_66 rfl ?_ | refine E_aload_nN d_TM_settle_66 rfl ?_
          refine E_getR (q := 5) d_TM_settle_67 gf_TM_29 (by exact ⟨by decide, rfl⟩) (by first | exact hR _ rfl | exact hE2.1 _ rfl) ?_
          first | refine E_aload_n d_TM_settle_70 rfl ?_ | refine E_aload_nN d_TM_settle_70 rfl ?_
          refine E_getI d_TM_settle_71 gf_TM_145 (by exact ⟨by decide, rfl⟩) (by exact g16 _ hX2) ?_
          refine E_iald d_TM_settle_74 (by exact ⟨by decide, rfl⟩) (by exact ⟨by with_reducible rfl, by omega, by decide⟩) (by exact g5 _ hX2) ?_
          refine E_bipush (v := nI 20) d_TM_settle_75 (by decide) ?_
          first | (with_reducible refine E_isN2 ?_; refine E_icmp_ne 0 d_TM_settle_77 rfl (nb_ne fun h77 => ?_) (nb_eq (by omega) (by omega) fun h77 => ?_)) | refine E_icmp_ne 0 d_TM_settle_77 rfl (fun h77 => ?_) (fun h77 => ?_)
          · first | exact fin _ hE2 hX2 | (exfalso; omega)
          · first | refine E_aload_n d_TM_settle_80 rfl ?_ | refine E_aload_nN d_TM_settle_80 rfl ?_
            refine E_dup d_TM_settle_81 rfl ?_
            refine E_getI d_TM_settle_82 gf_TM_155 (by exact ⟨by decide, rfl⟩) (by exact g17 _ hX2) ?_
            refine E_iconst (v := nI 1) d_TM_settle_85 rfl ?_
            first | (with_reducible refine E_isN2 ?_; refine E_isubN d_TM_settle_86 (by omega) ?_) | refine E_isub d_TM_settle_86 ?_
            refine E_putI d_TM_settle_87 gf_TM_155 (by exact ⟨by decide, rfl⟩) rfl rfl ?_
            refine E_goto 0 d_TM_settle_90 rfl ?_
            first | exact fin _ hE2 hX2 | (exfalso; omega)
      · have eN : mpN (o :: p) = mpN p := mpN_c ho (by omega) (by omega)
        rw [eN] at g17
        have fin : ∀ M2, EmS l t s w0 M0 (cm ++ [(o, 0)]) M2 → Fo 0 J13 A3' (wI M 0 16 (nI (p.length + 1 - 1))) M2 → E 1 0 0 Y_TM_settle 0 [some (.ref 0), some (.int (nI n))] [] GM M2 (QV GM fun M' => EmS l t s w0 M0 (mpS n p (cm ++ [(o, 0)])).2 M' ∧ PS M' (mpS n p (cm ++ [(o, 0)])).1 ∧ Fo 0 JSt A3' M M') := fun M2 hE2 x =>
          E_mono (ih (cm ++ [(o, 0)]) _ hE2 ⟨gp M2 x, g16 M2 x, g17 M2 x⟩ (by rw [hl]; omega) (by omega)) (fun _ _ _ z => ⟨z.1, z.2.1, z.2.2.1, z.2.2.2.1, (x12 M2 x).tr z.2.2.2.2⟩)
        first | refine E_aload_n d_TM_settle_0 rfl ?_ | refine E_aload_nN d_TM_settle_0 rfl ?_
        refine E_getI d_TM_settle_1 gf_TM_145 (by exact ⟨by decide, rfl⟩) (by exact h16) ?_
        first | (with_reducible refine E_isN1 ?_; refine E_if_le 93 d_TM_settle_4 rfl (nz_le (by omega) fun h4 => ?_) (nz_nle (by omega) fun h4 => ?_)) | refine E_if_le 93 d_TM_settle_4 rfl (fun h4 => ?_) (fun h4 => ?_)
        · exfalso; omega
        first | refine E_aload_n d_TM_settle_7 rfl ?_ | refine E_aload_nN d_TM_settle_7 rfl ?_
        refine E_getR (q := 5) d_TM_settle_8 gf_TM_29 (by exact ⟨by decide, rfl⟩) (by first | exact hR _ rfl | exact hE2.1 _ rfl) ?_
        first | refine E_aload_n d_TM_settle_11 rfl ?_ | refine E_aload_nN d_TM_settle_11 rfl ?_
        refine E_getI d_TM_settle_12 gf_TM_145 (by exact ⟨by decide, rfl⟩) (by exact h16) ?_
        refine E_iconst (v := nI 1) d_TM_settle_15 rfl ?_
        first | (with_reducible refine E_isN2 ?_; refine E_isubN d_TM_settle_16 (by omega) ?_) | refine E_isub d_TM_settle_16 ?_
        refine E_iald d_TM_settle_17 (by exact ⟨by decide, rfl⟩) (by exact ⟨by with_reducible rfl, by omega, by decide⟩) (by exact h1) ?_
        refine E_S1 (sp_TM_rank h2) d_TM_settle_18 ml_TM_148 cb_TM_rank cs_TM_rank ⟨by decide, by decide⟩ rfl (Nat.le_of_ble_eq_true rfl) (Nat.le_of_ble_eq_true rfl) (kI fun r1 M1 hc => ?_)
        obtain ⟨rfl, rfl⟩ := hc
        refine E_iload_n d_TM_settle_21 rfl ?_
        first | (with_reducible refine E_isN2 ?_; refine E_icmp_lt 93 d_TM_settle_22 rfl (nb_lt (by omega) (by omega) fun h22 => ?_) (nb_nlt (by omega) (by omega) fun h22 => ?_)) | refine E_icmp_lt 93 d_TM_settle_22 rfl (fun h22 => ?_) (fun h22 => ?_)
        · exfalso; omega
        first | refine E_aload_n d_TM_settle_25 rfl ?_ | refine E_aload_nN d_TM_settle_25 rfl ?_
        refine E_dup d_TM_settle_26 rfl ?_
        refine E_getI d_TM_settle_27 gf_TM_145 (by exact ⟨by decide, rfl⟩) (by exact h16) ?_
        refine E_iconst (v := nI 1) d_TM_settle_30 rfl ?_
        first | (with_reducible refine E_isN2 ?_; refine E_isubN d_TM_settle_31 (by omega) ?_) | refine E_isub d_TM_settle_31 ?_
        refine E_putI d_TM_settle_32 gf_TM_145 (by exact ⟨by decide, rfl⟩) rfl rfl ?_
        first | refine E_aload_n d_TM_settle_35 rfl ?_ | refine E_aload_nN d_TM_settle_35 rfl ?_
        first | refine E_aload_n d_TM_settle_36 rfl ?_ | refine E_aload_nN d_TM_settle_36 rfl ?_
        refine E_getR (q := 5) d_TM_settle_37 gf_TM_29 (by exact ⟨by decide, rfl⟩) (by first | exact hR _ rfl | exact hE2.1 _ rfl) ?_
        first | refine E_aload_n d_TM_settle_40 rfl ?_ | refine E_aload_nN d_TM_settle_40 rfl ?_
        refine E_getI d_TM_settle_41 gf_TM_145 (by exact ⟨by decide, rfl⟩) (by exact e16) ?_
        refine E_iald d_TM_settle_44 (by exact ⟨by decide, rfl⟩) (by exact ⟨by with_reducible rfl, by omega, by decide⟩) (by exact (congrFun e5 _).trans h1) ?_
        refine E_iconst (v := nI 0) d_TM_settle_45 rfl ?_
        refine E_V2 (em) d_TM_settle_46 ml_TM_151 cb_TM_emit cv_TM_emit (by exact ⟨by decide, rfl⟩) ⟨by decide, rfl⟩ ⟨by decide, by decide⟩ rfl (Nat.le_of_ble_eq_true rfl) (Nat.le_of_ble_eq_true rfl) (kV fun M1 hc => ?_)
        obtain ⟨hE2, hX2⟩ := hc
        first | refine E_aload_n d_TM_settle_49 rfl ?_ | refine E_aload_nN d_TM_settle_49 rfl ?_
        refine E_getR (q := 5) d_TM_settle_50 gf_TM_29 (by exact ⟨by decide, rfl⟩) (by first | exact hR _ rfl | exact hE2.1 _ rfl) ?_
        first | refine E_aload_n d_TM_settle_53 rfl ?_ | refine E_aload_nN d_TM_settle_53 rfl ?_
        refine E_getI d_TM_settle_54 gf_TM_145 (by exact ⟨by decide, rfl⟩) (by exact g16 _ hX2) ?_
        refine E_iald d_TM_settle_57 (by exact ⟨by decide, rfl⟩) (by exact ⟨by with_reducible rfl, by omega, by decide⟩) (by exact g5 _ hX2) ?_
        refine E_S1 (sp_TM_rank h2) d_TM_settle_58 ml_TM_148 cb_TM_rank cs_TM_rank ⟨by decide, by decide⟩ rfl (Nat.le_of_ble_eq_true rfl) (Nat.le_of_ble_eq_true rfl) (kI fun r1 M1 hc => ?_)
        obtain ⟨rfl, rfl⟩ := hc
        refine E_bipush (v := nI 7) d_TM_settle_61 (by decide) ?_
        first | (with_reducible refine E_isN2 ?_; refine E_icmp_eq 80 d_TM_settle_63 rfl (nb_eq (by omega) (by omega) fun h63 => ?_) (nb_ne fun h63 => ?_)) | refine E_icmp_eq 80 d_TM_settle_63 rfl (fun h63 => ?_) (fun h63 => ?_)
        · exfalso; omega
        first | refine E_aload_n d_TM_settle_66 rfl ?_ | refine E_aload_nN d_TM_settle_66 rfl ?_
        refine E_getR (q := 5) d_TM_settle_67 gf_TM_29 (by exact ⟨by decide, rfl⟩) (by first | exact hR _ rfl | exact hE2.1 _ rfl) ?_
        first | refine E_aload_n d_TM_settle_70 rfl ?_ | refine E_aload_nN d_TM_settle_70 rfl ?_
        refine E_getI d_TM_settle_71 gf_TM_145 (by exact ⟨by decide, rfl⟩) (by exact g16 _ hX2) ?_
        refine E_iald d_TM_settle_74 (by exact ⟨by decide, rfl⟩) (by exact ⟨by with_reducible rfl, by omega, by decide⟩) (by exact g5 _ hX2) ?_
        refine E_bipush (v := nI 20) d_TM_settle_75 (by decide) ?_
        first | (with_reducible refine E_isN2 ?_; refine E_icmp_ne 0 d_TM_settle_77 rfl (nb_ne fun h77 => ?_) (nb_eq (by omega) (by omega) fun h77 => ?_)) | refine E_icmp_ne 0 d_TM_settle_77 rfl (fun h77 => ?_) (fun h77 => ?_)
        rotate_left
        · exfalso; omega
        exact fin _ hE2 hX2
    · rw [mpS, if_neg q]
      first | refine E_aload_n d_TM_settle_0 rfl ?_ | refine E_aload_nN d_TM_settle_0 rfl ?_
      refine E_getI d_TM_settle_1 gf_TM_145 (by exact ⟨by decide, rfl⟩) (by exact h16) ?_
      first | (with_reducible refine E_isN1 ?_; refine E_if_le 93 d_TM_settle_4 rfl (nz_le (by omega) fun h4 => ?_) (nz_nle (by omega) fun h4 => ?_)) | refine E_if_le 93 d_TM_settle_4 rfl (fun h4 => ?_) (fun h4 => ?_)
      · exfalso; omega
      first | refine E_aload_n d_TM_settle_7 rfl ?_ | refine E_aload_nN d_TM_settle_7 rfl ?_
      refine E_getR (q := 5) d_TM_settle_8 gf_TM_29 (by exact ⟨by decide, rfl⟩) (by exact hR _ rfl) ?_
      first | refine E_aload_n d_TM_settle_11 rfl ?_ | refine E_aload_nN d_TM_settle_11 rfl ?_
      refine E_getI d_TM_settle_12 gf_TM_145 (by exact ⟨by decide, rfl⟩) (by exact h16) ?_
      refine E_iconst (v := nI 1) d_TM_settle_15 rfl ?_
      first | (with_reducible refine E_isN2 ?_; refine E_isubN d_TM_settle_16 (by omega) ?_) | refine E_isub d_TM_settle_16 ?_
      refine E_iald d_TM_settle_17 (by exact ⟨by decide, rfl⟩) (by exact ⟨by with_reducible rfl, by omega, by decide⟩) (by exact h1) ?_
      refine E_S1 (sp_TM_rank h2) d_TM_settle_18 ml_TM_148 cb_TM_rank cs_TM_rank ⟨by decide, by decide⟩ rfl (Nat.le_of_ble_eq_true rfl) (Nat.le_of_ble_eq_true rfl) (kI fun r1 M1 hc => ?_)
      obtain ⟨rfl, rfl⟩ := hc
      refine E_iload_n d_TM_settle_21 rfl ?_
      first | (with_reducible refine E_isN2 ?_; refine E_icmp_lt 93 d_TM_settle_22 rfl (nb_lt (by omega) (by omega) fun h22 => ?_) (nb_nlt (by omega) (by omega) fun h22 => ?_)) | refine E_icmp_lt 93 d_TM_settle_22 rfl (fun h22 => ?_) (fun h22 => ?_)
      rotate_left
      · exfalso; omega
      refine E_retV d_TM_settle_93 rfl ?_
      exact ⟨hE, hP, Fo.rf⟩
theorem sp_TM_settle {n : Nat} (hn : 1 ≤ n ∧ n ≤ 7) (hE : EmS l t s w0 M0 cm M) (hP : PS M p) (hw : w0 + cm.length + p.length ≤ 300) (hL : p.length ≤ 155) : E 1 0 0 Y_TM_settle 0 [some (.ref 0), some (.int (nI n))] [] GM M (QV GM fun M' => EmS l t s w0 M0 (mpS n p cm).2 M' ∧ PS M' (mpS n p cm).1 ∧ Fo 0 JSt A3' M M') := lp_TM_settle hn p cm M hE hP hw hL
def MSg (l : List Nat) (t s w0 : Nat) (M0 : Mem) (g : MpG) (M : Mem) : Prop := EmS l t s w0 M0 g.2.2.2 M ∧ TKM l g.1 M ∧ vk l g.1 ∧ PS M g.2.1 ∧ mI M 0 18 = pI (g.2.2.1 = true) ∧ w0 + g.2.2.2.length + g.2.1.length ≤ g.1 ∧ mpN g.2.1 ≤ 8
def MOu (l : List Nat) (t s w0 : Nat) (M0 : Mem) (g : Nat × MpG) (r : Int32) (M M' : Mem) : Prop := (g.1 = 0 → r = nI 0 ∧ MSg l t s w0 M0 g.2 M') ∧ (g.1 ≠ 0 → r = nI (g.1 - 1) ∧ M' = M)
theorem sp_TM_opened {o : Nat} (h : MSg l t s w0 M0 (k, p, false, cm) M) (hL : p.length ≤ 150) (ho : o < 100) (hop : 40 ≤ o ∨ mpR o = 7 ∨ o = 20) (h40 : SS l k ≠ 40) : E 2 0 0 Y_TM_opened 0 [some (.ref 0), some (.int (nI o))] [] GM M (QI GM fun r M' => MOu l t s w0 M0 (mpW k p cm o) r M M') := by
  obtain ⟨hE, hK, hv, ⟨hp, h16, h17⟩, h18, hw, hN⟩ := h
  have hR := hE.R
  have hN : mpN p ≤ 8 := hN
  have h17 : mI M 0 17 = nI (mpN p) := h17
  have h16 : mI M 0 16 = nI p.length := h16
  have hw : w0 + cm.length + p.length ≤ k := hw
  have hv : vk l k := hv
  by_cases q : mpN p = 8
  · have e : mpW k p cm o = (4, k, p, false, cm) := if_pos q
    rw [e]
    first | refine E_aload_n d_TM_opened_0 rfl ?_ | refine E_aload_nN d_TM_opened_0 rfl ?_
    refine E_getI d_TM_opened_1 gf_TM_155 (by exact ⟨by decide, rfl⟩) (by exact h17) ?_
    refine E_bipush (v := nI 8) d_TM_opened_4 (by decide) ?_
    first | (with_reducible refine E_isN2 ?_; refine E_icmp_ne 11 d_TM_opened_6 rfl (nb_ne fun h6 => ?_) (nb_eq (by omega) (by omega) fun h6 => ?_)) | refine E_icmp_ne 11 d_TM_opened_6 rfl (fun h6 => ?_) (fun h6 => ?_)
    · exfalso; omega
    refine E_iconst (v := nI 3) d_TM_opened_9 rfl ?_
    refine E_retI d_TM_opened_10 rfl ?_
    exact ⟨fun z => absurd z (show ¬ 4 = 0 by decide), fun _ => ⟨rfl, rfl⟩⟩
  · have e : mpW k p cm o = (0, k + 1, o :: p, false, cm) := if_neg q
    rw [e]
    have x1 : Fo 0 (fun j => j = 17) An M (wI M 0 17 (nI (mpN p + 1))) := Fo.rf.wI rfl
    have x2 : Fo 0 (fun j => j = 17) (fun a => a = 5) M (wI (wI M 0 17 (nI (mpN p + 1))) 5 p.length (nI o)) := (x1.wk (fun j q => q) (fun a q => absurd q (fun z => z))).wJ (by decide) rfl
    have x3 : Fo 0 (fun j => j = 16 ∨ j = 17) (fun a => a = 5) M (wI (wI (wI M 0 17 (nI (mpN p + 1))) 5 p.length (nI o)) 0 16 (nI (p.length + 1))) := (x2.wk (fun j q => Or.inr q) (fun a q => q)).wI (Or.inl rfl)
    have hE3 := hE.cg x3.fx (fun j q => by unfold JP; omega) (fun a q => q)
    have hK3 := hK.fo x3 (fun j q => by omega)
    have e16 : mI (wI M 0 17 (nI (mpN p + 1))) 0 16 = nI p.length := (x1.2.2.1 16 (by decide)).trans h16
    have f16 : mI (wI (wI M 0 17 (nI (mpN p + 1))) 5 p.length (nI o)) 0 16 = nI p.length := (x2.2.2.1 16 (by decide)).trans h16
    have hP3 : PS (wI (wI (wI M 0 17 (nI (mpN p + 1))) 5 p.length (nI o)) 0 16 (nI (p.length + 1))) (o :: p) := by
      refine ⟨PlA.cg (M := wI (wI M 0 17 (nI (mpN p + 1))) 5 p.length (nI o)) (mI_ne (by decide)) _ (PlA.psh rfl ho (PlA.cg (M := M) (mI_ne (by decide)) p hp)), ?_, ?_⟩
      · rw [mI_wa, if_pos rfl]; rfl
      · rw [mI_wa, if_neg (by decide), mI_wx (by decide), mI_wa, if_pos rfl, mpN_o hop]
    have nx := sp_TM_next hE3.R hE3.T hK3
    have fin : ∀ M4, TKM l (k + 1) M4 ∧ Fx Jn An (wI (wI (wI M 0 17 (nI (mpN p + 1))) 5 p.length (nI o)) 0 16 (nI (p.length + 1))) M4 → MSg l t s w0 M0 (k + 1, o :: p, false, cm) M4 := fun M4 hc =>
      ⟨hE3.cg hc.2 (fun j q => by unfold Jn at q; unfold JP; omega) (fun a q => absurd q (fun z => z)), hc.1, hv.s h40, hP3.fo hc.2 (by unfold Jn; omega) (by unfold Jn; omega) (fun z => z), (hc.2.2.2.1 18 (by unfold Jn; omega)).trans ((x3.2.2.1 18 (by decide)).trans h18), by show w0 + cm.length + (p.length + 1) ≤ k + 1; omega, by show mpN (o :: p) ≤ 8; rw [mpN_o hop]; omega⟩
    first | refine E_aload_n d_TM_opened_0 rfl ?_ | refine E_aload_nN d_TM_opened_0 rfl ?_
    refine E_getI d_TM_opened_1 gf_TM_155 (by exact ⟨by decide, rfl⟩) (by exact h17) ?_
    refine E_bipush (v := nI 8) d_TM_opened_4 (by decide) ?_
    first | (with_reducible refine E_isN2 ?_; refine E_icmp_ne 11 d_TM_opened_6 rfl (nb_ne fun h6 => ?_) (nb_eq (by omega) (by omega) fun h6 => ?_)) | refine E_icmp_ne 11 d_TM_opened_6 rfl (fun h6 => ?_) (fun h6 => ?_)
    rotate_left
    · exfalso; omega
    first | refine E_aload_n d_TM_opened_11 rfl ?_ | refine E_aload_nN d_TM_opened_11 rfl ?_
    refine E_dup d_TM_opened_12 rfl ?_
    refine E_getI d_TM_opened_13 gf_TM_155 (by exact ⟨by decide, rfl⟩) (by exact h17) ?_
    refine E_iconst (v := nI 1) d_TM_opened_16 rfl ?_
    first | (with_reducible refine E_isN2 ?_; refine E_iaddN d_TM_opened_17 ?_) | refine E_iadd d_TM_opened_17 ?_
    refine E_putI d_TM_opened_18 gf_TM_155 (by exact ⟨by decide, rfl⟩) rfl rfl ?_
    first | refine E_aload_n d_TM_opened_21 rfl ?_ | refine E_aload_nN d_TM_opened_21 rfl ?_
    refine E_getR (q := 5) d_TM_opened_22 gf_TM_29 (by exact ⟨by decide, rfl⟩) (by exact hR _ rfl) ?_
    first | refine E_aload_n d_TM_opened_25 rfl ?_ | refine E_aload_nN d_TM_opened_25 rfl ?_
    refine E_getI d_TM_opened_26 gf_TM_145 (by exact ⟨by decide, rfl⟩) (by exact e16) ?_
    refine E_iload_n d_TM_opened_29 rfl ?_
    refine E_iast d_TM_opened_30 (by exact ⟨by decide, rfl⟩) (by exact ⟨by with_reducible rfl, by omega, by decide⟩) ?_
    first | refine E_aload_n d_TM_opened_31 rfl ?_ | refine E_aload_nN d_TM_opened_31 rfl ?_
    refine E_dup d_TM_opened_32 rfl ?_
    refine E_getI d_TM_opened_33 gf_TM_145 (by exact ⟨by decide, rfl⟩) (by exact f16) ?_
    refine E_iconst (v := nI 1) d_TM_opened_36 rfl ?_
    first | (with_reducible refine E_isN2 ?_; refine E_iaddN d_TM_opened_37 ?_) | refine E_iadd d_TM_opened_37 ?_
    refine E_putI d_TM_opened_38 gf_TM_145 (by exact ⟨by decide, rfl⟩) rfl rfl ?_
    first | refine E_aload_n d_TM_opened_41 rfl ?_ | refine E_aload_nN d_TM_opened_41 rfl ?_
    refine E_V0 (nx) d_TM_opened_42 ml_TM_165 cb_TM_nextToken cv_TM_nextToken (by exact ⟨by decide, rfl⟩) ⟨by decide, rfl⟩ ⟨by decide, by decide⟩ rfl (Nat.le_of_ble_eq_true rfl) (Nat.le_of_ble_eq_true rfl) (kV fun M1 hc => ?_)
    skip
    refine E_iconst (v := nI 0) d_TM_opened_45 rfl ?_
    refine E_retI d_TM_opened_46 rfl ?_
    exact ⟨fun _ => ⟨rfl, fin _ hc⟩, fun z => absurd rfl z⟩
end MQc
