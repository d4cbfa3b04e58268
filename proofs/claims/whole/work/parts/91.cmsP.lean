section CMp
variable {G : Geo} {M : Mem}
theorem sp_Ro_playClause {c : Cr} {x : Tx} {ta i : Nat} {q : Nat × Nat × Nat} (hC : CM c G M) (hT : RepTxC x ta G M) (w24 : x.clauses.length ≤ 24) (hi : i < x.clauses.length) (hq : x.clauses.getD i (0, 0, 0) = q) (hk8 : q.1 ≤ 8) (hb : q.2.1 ≤ 9999 ∧ q.2.2 ≤ 9999) :
    E 6 0 0 Y_Ro_playClause 0 [some (.ref 214), some (.ref ta), some (.int (nI i)), none, none] [] G M (QI G fun r M' => r = pI ((playC c q).2 = true) ∧ CM (playC c q).1 G M' ∧ Sc CW M M') := by
  have hG := hC.G
  have hR := hC.R
  obtain ⟨t1, t2, t3, t4, t5, t6, t7, -⟩ := hT
  have r0 : mR M ta 0 = some (ta + 1) := t6 0 (by decide)
  have r1 : mR M ta 1 = some (ta + 2) := t6 1 (by decide)
  have r2 : mR M ta 2 = some (ta + 3) := t6 2 (by decide)
  have h0 := (t7 i hi).1
  have h12 := (t7 i hi).2
  rw [hq] at h0 h12
  obtain ⟨k, v, w⟩ := q
  have h0 : mI M (ta + 1) i = nI (kmC k) := h0
  by_cases k2 : k = 2
  · subst k2
    obtain ⟨e1, e2⟩ := h12 (Nat.le_refl 2)
    have e1 : mI M (ta + 2) i = nI v := e1
    have e2 : mI M (ta + 3) i = nI w := e2 (by show 2 ≤ 3; omega)
    have h0 : mI M (ta + 1) i = nI 2 := h0
    have e : playC c (2, v, w) = (st_person c (nI v) (nI w), decide (perP c (nI v) (nI w))) := if_pos rfl
    rw [e]
    have ka : ans_person c (nI v) (nI w) = -1 → nI 0 = pI (decide (perP c (nI v) (nI w)) = true) := fun h => (pI_f (fun q => by
      rw [ans_person, if_pos (of_decide_eq_true q)] at h
      have h8 := hC.w.p8
      exact absurd (by rw [h]; exact neg1_lt) (nI_nneg (n := c.now.people) (by omega)))).symm
    have kb : ¬ ans_person c (nI v) (nI w) = -1 → nI 1 = pI (decide (perP c (nI v) (nI w)) = true) := fun h => (pI_t (decide_eq_true (Decidable.byContradiction fun q => h (by rw [ans_person, if_neg q])))).symm
    first | refine E_aload_n d_Ro_playClause_0 rfl ?_ | refine E_aload_nN d_Ro_playClause_0 rfl ?_
    refine E_getR d_Ro_playClause_1 gf_Ro_112 (by first | exact hG.s (by decide) rfl | assumption) (by first | exact hR.o rfl | assumption) ?_
    refine E_iload_n d_Ro_playClause_4 rfl ?_
    refine E_SN2 (sp_TP_at t4 (by omega) hi e1) d_Ro_playClause_5 nl_Ro_52 cb_TP_at cs_TP_at ⟨by decide, by decide⟩ rfl (Nat.le_of_ble_eq_true rfl) (Nat.le_of_ble_eq_true rfl) (kI fun r1 M1 hc => ?_)
    obtain ⟨rfl, rfl⟩ := hc
    refine E_istore_3 d_Ro_playClause_8 rfl ?_
    first | refine E_aload_n d_Ro_playClause_9 rfl ?_ | refine E_aload_nN d_Ro_playClause_9 rfl ?_
    refine E_getR d_Ro_playClause_10 gf_Ro_117 (by first | exact hG.s (by decide) rfl | assumption) (by first | exact hR.o rfl | assumption) ?_
    refine E_iload_n d_Ro_playClause_13 rfl ?_
    refine E_SN2 (sp_TP_at t5 (by omega) hi e2) d_Ro_playClause_14 nl_Ro_52 cb_TP_at cs_TP_at ⟨by decide, by decide⟩ rfl (Nat.le_of_ble_eq_true rfl) (Nat.le_of_ble_eq_true rfl) (kI fun r1 M1 hc => ?_)
    obtain ⟨rfl, rfl⟩ := hc
    refine E_istore_4 d_Ro_playClause_17 rfl ?_
    first | refine E_aload_n d_Ro_playClause_19 rfl ?_ | refine E_aload_nN d_Ro_playClause_19 rfl ?_
    refine E_getR d_Ro_playClause_20 gf_Ro_120 (by first | exact hG.s (by decide) rfl | assumption) (by first | exact hR.o rfl | assumption) ?_
    refine E_iload_n d_Ro_playClause_23 rfl ?_
    refine E_SN2 (sp_TP_at t3 (by omega) hi h0) d_Ro_playClause_24 nl_Ro_52 cb_TP_at cs_TP_at ⟨by decide, by decide⟩ rfl (Nat.le_of_ble_eq_true rfl) (Nat.le_of_ble_eq_true rfl) (kI fun r1 M1 hc => ?_)
    obtain ⟨rfl, rfl⟩ := hc
    refine E_tableIn 72 d_Ro_playClause_27 (by decide) (by decide) (by first | rfl | decide) rfl ?_
    first | refine E_aload_n d_Ro_playClause_72 rfl ?_ | refine E_aload_nN d_Ro_playClause_72 rfl ?_
    refine E_getR d_Ro_playClause_73 gf_Ro_15 (by first | exact hG.s (by decide) rfl | assumption) (by first | exact hR.o rfl | assumption) ?_
    refine E_iload_n d_Ro_playClause_76 rfl ?_
    refine E_iload d_Ro_playClause_77 rfl ?_
    refine E_V2 (sp_Cr_addPerson hC _ _) d_Ro_playClause_79 ml_Ro_123 cb_Cr_addPerson cv_Cr_addPerson (by first | exact hG.s (by decide) rfl | assumption) ⟨by decide, rfl⟩ ⟨by decide, by decide⟩ rfl (Nat.le_of_ble_eq_true rfl) (Nat.le_of_ble_eq_true rfl) (kI fun r1 M1 hc => ?_)
    obtain ⟨rfl, hC1, hS1⟩ := hc
    refine E_iconst (v := (-1)) d_Ro_playClause_82 rfl ?_
    first | (with_reducible refine E_isN2 ?_; refine E_icmp_eq 90 d_Ro_playClause_83 rfl (nb_eq (by omega) (by omega) fun h83 => ?_) (nb_ne fun h83 => ?_)) | refine E_icmp_eq 90 d_Ro_playClause_83 rfl (fun h83 => ?_) (fun h83 => ?_)
    · refine E_iconst (v := nI 0) d_Ro_playClause_90 rfl ?_
      refine E_retZ d_Ro_playClause_91 rfl (by decide) ?_
      first | exact ⟨ka h83, hC1, hS1⟩ | exact ⟨kb h83, hC1, hS1⟩
    · refine E_iconst (v := nI 1) d_Ro_playClause_86 rfl ?_
      refine E_goto 91 d_Ro_playClause_87 rfl ?_
      refine E_retZ d_Ro_playClause_91 rfl (by decide) ?_
      first | exact ⟨ka h83, hC1, hS1⟩ | exact ⟨kb h83, hC1, hS1⟩
  · by_cases k3 : k = 3
    · subst k3
      obtain ⟨e1, e2⟩ := h12 (by show 2 ≤ 3; omega)
      have e1 : mI M (ta + 2) i = nI v := e1
      have e2 : mI M (ta + 3) i = nI w := e2 (by show 3 ≤ 3; omega)
      have h0 : mI M (ta + 1) i = nI 4 := h0
      have e : playC c (3, v, w) = (st_hear c (nI v) (nI w), decide (heaP c (nI v) (nI w))) := rfl
      rw [e]
      have h01 : ans_hear c (nI v) (nI w) = 0 ∨ ans_hear c (nI v) (nI w) = 1 := pI_01 _
      first | refine E_aload_n d_Ro_playClause_0 rfl ?_ | refine E_aload_nN d_Ro_playClause_0 rfl ?_
      refine E_getR d_Ro_playClause_1 gf_Ro_112 (by first | exact hG.s (by decide) rfl | assumption) (by first | exact hR.o rfl | assumption) ?_
      refine E_iload_n d_Ro_playClause_4 rfl ?_
      refine E_SN2 (sp_TP_at t4 (by omega) hi e1) d_Ro_playClause_5 nl_Ro_52 cb_TP_at cs_TP_at ⟨by decide, by decide⟩ rfl (Nat.le_of_ble_eq_true rfl) (Nat.le_of_ble_eq_true rfl) (kI fun r1 M1 hc => ?_)
      obtain ⟨rfl, rfl⟩ := hc
      refine E_istore_3 d_Ro_playClause_8 rfl ?_
      first | refine E_aload_n d_Ro_playClause_9 rfl ?_ | refine E_aload_nN d_Ro_playClause_9 rfl ?_
      refine E_getR d_Ro_playClause_10 gf_Ro_117 (by first | exact hG.s (by decide) rfl | assumption) (by first | exact hR.o rfl | assumption) ?_
      refine E_iload_n d_Ro_playClause_13 rfl ?_
      refine E_SN2 (sp_TP_at t5 (by omega) hi e2) d_Ro_playClause_14 nl_Ro_52 cb_TP_at cs_TP_at ⟨by decide, by decide⟩ rfl (Nat.le_of_ble_eq_true rfl) (Nat.le_of_ble_eq_true rfl) (kI fun r1 M1 hc => ?_)
      obtain ⟨rfl, rfl⟩ := hc
      refine E_istore_4 d_Ro_playClause_17 rfl ?_
      first | refine E_aload_n d_Ro_playClause_19 rfl ?_ | refine E_aload_nN d_Ro_playClause_19 rfl ?_
      refine E_getR d_Ro_playClause_20 gf_Ro_120 (by first | exact hG.s (by decide) rfl | assumption) (by first | exact hR.o rfl | assumption) ?_
      refine E_iload_n d_Ro_playClause_23 rfl ?_
      refine E_SN2 (sp_TP_at t3 (by omega) hi h0) d_Ro_playClause_24 nl_Ro_52 cb_TP_at cs_TP_at ⟨by decide, by decide⟩ rfl (Nat.le_of_ble_eq_true rfl) (Nat.le_of_ble_eq_true rfl) (kI fun r1 M1 hc => ?_)
      obtain ⟨rfl, rfl⟩ := hc
      refine E_tableIn 92 d_Ro_playClause_27 (by decide) (by decide) (by first | rfl | decide) rfl ?_
      first | refine E_aload_n d_Ro_playClause_92 rfl ?_ | refine E_aload_nN d_Ro_playClause_92 rfl ?_
      refine E_getR d_Ro_playClause_93 gf_Ro_15 (by first | exact hG.s (by decide) rfl | assumption) (by first | exact hR.o rfl | assumption) ?_
      refine E_iload_n d_Ro_playClause_96 rfl ?_
      refine E_iload d_Ro_playClause_97 rfl ?_
      refine E_V2 (sp_Cr_turnEar hC _ _) d_Ro_playClause_99 ml_Ro_127 cb_Cr_turnEar cv_Cr_turnEar (by first | exact hG.s (by decide) rfl | assumption) ⟨by decide, rfl⟩ ⟨by decide, by decide⟩ rfl (Nat.le_of_ble_eq_true rfl) (Nat.le_of_ble_eq_true rfl) (kI fun r1 M1 hc => ?_)
      obtain ⟨rfl, hC1, hS1⟩ := hc
      refine E_retZ d_Ro_playClause_102 rfl (by first | exact h01 | exact h01.symm) ?_
      exact ⟨pI_congr ⟨fun q => decide_eq_true q, fun q => of_decide_eq_true q⟩, hC1, hS1⟩
    · by_cases k4 : k = 4
      · subst k4
        obtain ⟨e1, -⟩ := h12 (by show 2 ≤ 4; omega)
        have e1 : mI M (ta + 2) i = nI v := e1
        have h0 : mI M (ta + 1) i = nI 6 := h0
        have e : playC c (4, v, w) = (st_tell c (nI v), decide (inN (nI v) (c.now.people + 1) ∧ c.now.round ≠ 9999)) := rfl
        rw [e]
        first | refine E_aload_n d_Ro_playClause_0 rfl ?_ | refine E_aload_nN d_Ro_playClause_0 rfl ?_
        refine E_getR d_Ro_playClause_1 gf_Ro_112 (by first | exact hG.s (by decide) rfl | assumption) (by first | exact hR.o rfl | assumption) ?_
        refine E_iload_n d_Ro_playClause_4 rfl ?_
        refine E_SN2 (sp_TP_at t4 (by omega) hi e1) d_Ro_playClause_5 nl_Ro_52 cb_TP_at cs_TP_at ⟨by decide, by decide⟩ rfl (Nat.le_of_ble_eq_true rfl) (Nat.le_of_ble_eq_true rfl) (kI fun r1 M1 hc => ?_)
        obtain ⟨rfl, rfl⟩ := hc
        refine E_istore_3 d_Ro_playClause_8 rfl ?_
        first | refine E_aload_n d_Ro_playClause_9 rfl ?_ | refine E_aload_nN d_Ro_playClause_9 rfl ?_
        refine E_getR d_Ro_playClause_10 gf_Ro_117 (by first | exact hG.s (by decide) rfl | assumption) (by first | exact hR.o rfl | assumption) ?_
        refine E_iload_n d_Ro_playClause_13 rfl ?_
        refine E_SN2 (sp_TP_at t5 (by omega) hi rfl) d_Ro_playClause_14 nl_Ro_52 cb_TP_at cs_TP_at ⟨by decide, by decide⟩ rfl (Nat.le_of_ble_eq_true rfl) (Nat.le_of_ble_eq_true rfl) (kI fun r1 M1 hc => ?_)
        obtain ⟨rfl, rfl⟩ := hc
        refine E_istore_4 d_Ro_playClause_17 rfl ?_
        first | refine E_aload_n d_Ro_playClause_19 rfl ?_ | refine E_aload_nN d_Ro_playClause_19 rfl ?_
        refine E_getR d_Ro_playClause_20 gf_Ro_120 (by first | exact hG.s (by decide) rfl | assumption) (by first | exact hR.o rfl | assumption) ?_
        refine E_iload_n d_Ro_playClause_23 rfl ?_
        refine E_SN2 (sp_TP_at t3 (by omega) hi h0) d_Ro_playClause_24 nl_Ro_52 cb_TP_at cs_TP_at ⟨by decide, by decide⟩ rfl (Nat.le_of_ble_eq_true rfl) (Nat.le_of_ble_eq_true rfl) (kI fun r1 M1 hc => ?_)
        obtain ⟨rfl, rfl⟩ := hc
        refine E_tableIn 103 d_Ro_playClause_27 (by decide) (by decide) (by first | rfl | decide) rfl ?_
        first | refine E_aload_n d_Ro_playClause_103 rfl ?_ | refine E_aload_nN d_Ro_playClause_103 rfl ?_
        refine E_iload_n d_Ro_playClause_104 rfl ?_
        refine E_V1 (sp_Ro_tellByHand hC _) d_Ro_playClause_105 ml_Ro_130 cb_Ro_tellByHand cv_Ro_tellByHand (by first | exact hG.s (by decide) rfl | assumption) ⟨by decide, rfl⟩ ⟨by decide, by decide⟩ rfl (Nat.le_of_ble_eq_true rfl) (Nat.le_of_ble_eq_true rfl) (kI fun r1 M1 hc => ?_)
        obtain ⟨rfl, hC1, hS1⟩ := hc
        refine E_retZ d_Ro_playClause_108 rfl (by first | exact pI_01 _ | decide) ?_
        exact ⟨pI_congr ⟨fun q => decide_eq_true q, fun q => of_decide_eq_true q⟩, hC1, hS1⟩
      · by_cases k5 : k = 5
        · subst k5
          obtain ⟨e1, -⟩ := h12 (by show 2 ≤ 5; omega)
          have e1 : mI M (ta + 2) i = nI v := e1
          have h0 : mI M (ta + 1) i = nI 7 := h0
          have e : playC c (5, v, w) = (st_nudge c (nI v) 1, decide (nudP c (nI v) 1)) := rfl
          rw [e]
          first | refine E_aload_n d_Ro_playClause_0 rfl ?_ | refine E_aload_nN d_Ro_playClause_0 rfl ?_
          refine E_getR d_Ro_playClause_1 gf_Ro_112 (by first | exact hG.s (by decide) rfl | assumption) (by first | exact hR.o rfl | assumption) ?_
          refine E_iload_n d_Ro_playClause_4 rfl ?_
          refine E_SN2 (sp_TP_at t4 (by omega) hi e1) d_Ro_playClause_5 nl_Ro_52 cb_TP_at cs_TP_at ⟨by decide, by decide⟩ rfl (Nat.le_of_ble_eq_true rfl) (Nat.le_of_ble_eq_true rfl) (kI fun r1 M1 hc => ?_)
          obtain ⟨rfl, rfl⟩ := hc
          refine E_istore_3 d_Ro_playClause_8 rfl ?_
          first | refine E_aload_n d_Ro_playClause_9 rfl ?_ | refine E_aload_nN d_Ro_playClause_9 rfl ?_
          refine E_getR d_Ro_playClause_10 gf_Ro_117 (by first | exact hG.s (by decide) rfl | assumption) (by first | exact hR.o rfl | assumption) ?_
          refine E_iload_n d_Ro_playClause_13 rfl ?_
          refine E_SN2 (sp_TP_at t5 (by omega) hi rfl) d_Ro_playClause_14 nl_Ro_52 cb_TP_at cs_TP_at ⟨by decide, by decide⟩ rfl (Nat.le_of_ble_eq_true rfl) (Nat.le_of_ble_eq_true rfl) (kI fun r1 M1 hc => ?_)
          obtain ⟨rfl, rfl⟩ := hc
          refine E_istore_4 d_Ro_playClause_17 rfl ?_
          first | refine E_aload_n d_Ro_playClause_19 rfl ?_ | refine E_aload_nN d_Ro_playClause_19 rfl ?_
          refine E_getR d_Ro_playClause_20 gf_Ro_120 (by first | exact hG.s (by decide) rfl | assumption) (by first | exact hR.o rfl | assumption) ?_
          refine E_iload_n d_Ro_playClause_23 rfl ?_
          refine E_SN2 (sp_TP_at t3 (by omega) hi h0) d_Ro_playClause_24 nl_Ro_52 cb_TP_at cs_TP_at ⟨by decide, by decide⟩ rfl (Nat.le_of_ble_eq_true rfl) (Nat.le_of_ble_eq_true rfl) (kI fun r1 M1 hc => ?_)
          obtain ⟨rfl, rfl⟩ := hc
          refine E_tableIn 109 d_Ro_playClause_27 (by decide) (by decide) (by first | rfl | decide) rfl ?_
          first | refine E_aload_n d_Ro_playClause_109 rfl ?_ | refine E_aload_nN d_Ro_playClause_109 rfl ?_
          refine E_iload_n d_Ro_playClause_110 rfl ?_
          refine E_iconst (v := nI 1) d_Ro_playClause_111 rfl ?_
          refine E_V2 (sp_Ro_nudgeByHand hC _ _) d_Ro_playClause_112 ml_Ro_133 cb_Ro_nudgeByHand cv_Ro_nudgeByHand (by first | exact hG.s (by decide) rfl | assumption) ⟨by decide, rfl⟩ ⟨by decide, by decide⟩ rfl (Nat.le_of_ble_eq_true rfl) (Nat.le_of_ble_eq_true rfl) (kI fun r1 M1 hc => ?_)
          obtain ⟨rfl, hC1, hS1⟩ := hc
          refine E_retZ d_Ro_playClause_115 rfl (by first | exact pI_01 _ | decide) ?_
          exact ⟨pI_congr ⟨fun q => decide_eq_true q, fun q => of_decide_eq_true q⟩, hC1, hS1⟩
        · by_cases k6 : k = 6
          · subst k6
            obtain ⟨e1, -⟩ := h12 (by show 2 ≤ 6; omega)
            have e1 : mI M (ta + 2) i = nI v := e1
            have h0 : mI M (ta + 1) i = nI 8 := h0
            have e : playC c (6, v, w) = (st_nudge c (nI v) (-1), decide (nudP c (nI v) (-1))) := rfl
            rw [e]
            first | refine E_aload_n d_Ro_playClause_0 rfl ?_ | refine E_aload_nN d_Ro_playClause_0 rfl ?_
            refine E_getR d_Ro_playClause_1 gf_Ro_112 (by first | exact hG.s (by decide) rfl | assumption) (by first | exact hR.o rfl | assumption) ?_
            refine E_iload_n d_Ro_playClause_4 rfl ?_
            refine E_SN2 (sp_TP_at t4 (by omega) hi e1) d_Ro_playClause_5 nl_Ro_52 cb_TP_at cs_TP_at ⟨by decide, by decide⟩ rfl (Nat.le_of_ble_eq_true rfl) (Nat.le_of_ble_eq_true rfl) (kI fun r1 M1 hc => ?_)
            obtain ⟨rfl, rfl⟩ := hc
            refine E_istore_3 d_Ro_playClause_8 rfl ?_
            first | refine E_aload_n d_Ro_playClause_9 rfl ?_ | refine E_aload_nN d_Ro_playClause_9 rfl ?_
            refine E_getR d_Ro_playClause_10 gf_Ro_117 (by first | exact hG.s (by decide) rfl | assumption) (by first | exact hR.o rfl | assumption) ?_
            refine E_iload_n d_Ro_playClause_13 rfl ?_
            refine E_SN2 (sp_TP_at t5 (by omega) hi rfl) d_Ro_playClause_14 nl_Ro_52 cb_TP_at cs_TP_at ⟨by decide, by decide⟩ rfl (Nat.le_of_ble_eq_true rfl) (Nat.le_of_ble_eq_true rfl) (kI fun r1 M1 hc => ?_)
            obtain ⟨rfl, rfl⟩ := hc
            refine E_istore_4 d_Ro_playClause_17 rfl ?_
            first | refine E_aload_n d_Ro_playClause_19 rfl ?_ | refine E_aload_nN d_Ro_playClause_19 rfl ?_
            refine E_getR d_Ro_playClause_20 gf_Ro_120 (by first | exact hG.s (by decide) rfl | assumption) (by first | exact hR.o rfl | assumption) ?_
            refine E_iload_n d_Ro_playClause_23 rfl ?_
            refine E_SN2 (sp_TP_at t3 (by omega) hi h0) d_Ro_playClause_24 nl_Ro_52 cb_TP_at cs_TP_at ⟨by decide, by decide⟩ rfl (Nat.le_of_ble_eq_true rfl) (Nat.le_of_ble_eq_true rfl) (kI fun r1 M1 hc => ?_)
            obtain ⟨rfl, rfl⟩ := hc
            refine E_tableIn 116 d_Ro_playClause_27 (by decide) (by decide) (by first | rfl | decide) rfl ?_
            first | refine E_aload_n d_Ro_playClause_116 rfl ?_ | refine E_aload_nN d_Ro_playClause_116 rfl ?_
            refine E_iload_n d_Ro_playClause_117 rfl ?_
            refine E_iconst (v := (-1)) d_Ro_playClause_118 rfl ?_
            refine E_V2 (sp_Ro_nudgeByHand hC _ _) d_Ro_playClause_119 ml_Ro_133 cb_Ro_nudgeByHand cv_Ro_nudgeByHand (by first | exact hG.s (by decide) rfl | assumption) ⟨by decide, rfl⟩ ⟨by decide, by decide⟩ rfl (Nat.le_of_ble_eq_true rfl) (Nat.le_of_ble_eq_true rfl) (kI fun r1 M1 hc => ?_)
            obtain ⟨rfl, hC1, hS1⟩ := hc
            refine E_retZ d_Ro_playClause_122 rfl (by first | exact pI_01 _ | decide) ?_
            exact ⟨pI_congr ⟨fun q => decide_eq_true q, fun q => of_decide_eq_true q⟩, hC1, hS1⟩
          · by_cases k7 : k = 7
            · subst k7
              obtain ⟨e1, -⟩ := h12 (by show 2 ≤ 7; omega)
              have e1 : mI M (ta + 2) i = nI v := e1
              have h0 : mI M (ta + 1) i = nI 9 := h0
              have e : playC c (7, v, w) = passN v c := rfl
              rw [e]
              have hb1 : v ≤ 9999 := hb.1
              first | refine E_aload_n d_Ro_playClause_0 rfl ?_ | refine E_aload_nN d_Ro_playClause_0 rfl ?_
              refine E_getR d_Ro_playClause_1 gf_Ro_112 (by first | exact hG.s (by decide) rfl | assumption) (by first | exact hR.o rfl | assumption) ?_
              refine E_iload_n d_Ro_playClause_4 rfl ?_
              refine E_SN2 (sp_TP_at t4 (by omega) hi e1) d_Ro_playClause_5 nl_Ro_52 cb_TP_at cs_TP_at ⟨by decide, by decide⟩ rfl (Nat.le_of_ble_eq_true rfl) (Nat.le_of_ble_eq_true rfl) (kI fun r1 M1 hc => ?_)
              obtain ⟨rfl, rfl⟩ := hc
              refine E_istore_3 d_Ro_playClause_8 rfl ?_
              first | refine E_aload_n d_Ro_playClause_9 rfl ?_ | refine E_aload_nN d_Ro_playClause_9 rfl ?_
              refine E_getR d_Ro_playClause_10 gf_Ro_117 (by first | exact hG.s (by decide) rfl | assumption) (by first | exact hR.o rfl | assumption) ?_
              refine E_iload_n d_Ro_playClause_13 rfl ?_
              refine E_SN2 (sp_TP_at t5 (by omega) hi rfl) d_Ro_playClause_14 nl_Ro_52 cb_TP_at cs_TP_at ⟨by decide, by decide⟩ rfl (Nat.le_of_ble_eq_true rfl) (Nat.le_of_ble_eq_true rfl) (kI fun r1 M1 hc => ?_)
              obtain ⟨rfl, rfl⟩ := hc
              refine E_istore_4 d_Ro_playClause_17 rfl ?_
              first | refine E_aload_n d_Ro_playClause_19 rfl ?_ | refine E_aload_nN d_Ro_playClause_19 rfl ?_
              refine E_getR d_Ro_playClause_20 gf_Ro_120 (by first | exact hG.s (by decide) rfl | assumption) (by first | exact hR.o rfl | assumption) ?_
              refine E_iload_n d_Ro_playClause_23 rfl ?_
              refine E_SN2 (sp_TP_at t3 (by omega) hi h0) d_Ro_playClause_24 nl_Ro_52 cb_TP_at cs_TP_at ⟨by decide, by decide⟩ rfl (Nat.le_of_ble_eq_true rfl) (Nat.le_of_ble_eq_true rfl) (kI fun r1 M1 hc => ?_)
              obtain ⟨rfl, rfl⟩ := hc
              refine E_tableIn 123 d_Ro_playClause_27 (by decide) (by decide) (by first | rfl | decide) rfl ?_
              first | refine E_aload_n d_Ro_playClause_123 rfl ?_ | refine E_aload_nN d_Ro_playClause_123 rfl ?_
              refine E_iload_n d_Ro_playClause_124 rfl ?_
              refine E_V1 (sp_Ro_passByHand hC (by omega)) d_Ro_playClause_125 ml_Ro_136 cb_Ro_passByHand cv_Ro_passByHand (by first | exact hG.s (by decide) rfl | assumption) ⟨by decide, rfl⟩ ⟨by decide, by decide⟩ rfl (Nat.le_of_ble_eq_true rfl) (Nat.le_of_ble_eq_true rfl) (kI fun r1 M1 hc => ?_)
              obtain ⟨rfl, hC1, hS1⟩ := hc
              refine E_retZ d_Ro_playClause_128 rfl (by first | exact pI_01 _ | decide) ?_
              exact ⟨rfl, hC1, hS1⟩
            · have e : playC c (k, v, w) = (c, true) := by unfold playC; rw [if_neg k2, if_neg k3, if_neg k4, if_neg k5, if_neg k6, if_neg k7]
              rw [e]
              have hk8 : k ≤ 8 := hk8
              have hkm : kmC k = 0 ∨ kmC k = 1 ∨ kmC k = 10 := by
                have : k = 0 ∨ k = 1 ∨ k = 8 := by omega
                rcases this with rfl | rfl | rfl <;> decide
              have hsw : (nI (kmC k)).toInt < 2 ∨ 9 < (nI (kmC k)).toInt := by rw [nI_toInt (by omega)]; omega
              first | refine E_aload_n d_Ro_playClause_0 rfl ?_ | refine E_aload_nN d_Ro_playClause_0 rfl ?_
              refine E_getR d_Ro_playClause_1 gf_Ro_112 (by first | exact hG.s (by decide) rfl | assumption) (by first | exact hR.o rfl | assumption) ?_
              refine E_iload_n d_Ro_playClause_4 rfl ?_
              refine E_SN2 (sp_TP_at t4 (by omega) hi rfl) d_Ro_playClause_5 nl_Ro_52 cb_TP_at cs_TP_at ⟨by decide, by decide⟩ rfl (Nat.le_of_ble_eq_true rfl) (Nat.le_of_ble_eq_true rfl) (kI fun r1 M1 hc => ?_)
              obtain ⟨rfl, rfl⟩ := hc
              refine E_istore_3 d_Ro_playClause_8 rfl ?_
              first | refine E_aload_n d_Ro_playClause_9 rfl ?_ | refine E_aload_nN d_Ro_playClause_9 rfl ?_
              refine E_getR d_Ro_playClause_10 gf_Ro_117 (by first | exact hG.s (by decide) rfl | assumption) (by first | exact hR.o rfl | assumption) ?_
              refine E_iload_n d_Ro_playClause_13 rfl ?_
              refine E_SN2 (sp_TP_at t5 (by omega) hi rfl) d_Ro_playClause_14 nl_Ro_52 cb_TP_at cs_TP_at ⟨by decide, by decide⟩ rfl (Nat.le_of_ble_eq_true rfl) (Nat.le_of_ble_eq_true rfl) (kI fun r1 M1 hc => ?_)
              obtain ⟨rfl, rfl⟩ := hc
              refine E_istore_4 d_Ro_playClause_17 rfl ?_
              first | refine E_aload_n d_Ro_playClause_19 rfl ?_ | refine E_aload_nN d_Ro_playClause_19 rfl ?_
              refine E_getR d_Ro_playClause_20 gf_Ro_120 (by first | exact hG.s (by decide) rfl | assumption) (by first | exact hR.o rfl | assumption) ?_
              refine E_iload_n d_Ro_playClause_23 rfl ?_
              refine E_SN2 (sp_TP_at t3 (by omega) hi h0) d_Ro_playClause_24 nl_Ro_52 cb_TP_at cs_TP_at ⟨by decide, by decide⟩ rfl (Nat.le_of_ble_eq_true rfl) (Nat.le_of_ble_eq_true rfl) (kI fun r1 M1 hc => ?_)
              obtain ⟨rfl, rfl⟩ := hc
              refine E_tableOut 129 d_Ro_playClause_27 (by exact hsw) rfl ?_
              refine E_iconst (v := nI 1) d_Ro_playClause_129 rfl ?_
              refine E_retZ d_Ro_playClause_130 rfl (by decide) ?_
              exact ⟨rfl, hC, Sc.rf⟩
theorem lp_TP_played {M0 : Mem} {x : Tx} {ta : Nat} {y : Int32} (w24 : x.clauses.length ≤ 24) (h8 : ∀ k, k < x.clauses.length → (x.clauses.getD k (0, 0, 0)).1 ≤ 8) (hB : TxB x) {R : Cr × Int32} : ∀ j k, k + j = x.clauses.length → ∀ c M, RepTxC x ta G M → playA x j k c = R → CM c G M → Sc CW M0 M → E 7 0 0 Y_TP_played 18 [some (.ref 0), some (.int y), some (.ref ta), some (.int (nI k))] [] G M (QI G fun r M' => r = R.2 ∧ CM R.1 G M' ∧ Sc CW M0 M') := by
  intro j
  induction j with
  | zero =>
    intro k hk c M hT hv hC hX
    have hG := hC.G
    have hR := hC.R
    have t2 := hT.2.1
    have t3 := hT.2.2.1
    have r0 : mR M ta 0 = some (ta + 1) := hT.2.2.2.2.2.1 0 (by decide)
    have hv2 : (c, -1) = R := hv
    subst hv2
    refine E_iload_n d_TP_played_18 rfl ?_
    first | refine E_aload_n d_TP_played_19 rfl ?_ | refine E_aload_nN d_TP_played_19 rfl ?_
    refine E_getR d_TP_played_20 gf_TP_143 (by first | exact hG.s (by decide) rfl | assumption) (by first | exact hR.o rfl | assumption) ?_
    refine E_alen d_TP_played_23 (by first | exact hG.s (by decide) rfl | assumption) (by decide) rfl ?_
    first | (with_reducible refine E_isN2 ?_; refine E_icmp_ge 47 d_TP_played_24 rfl (nb_le (by omega) (by omega) fun h24 => ?_) (nb_nle (by omega) (by omega) fun h24 => ?_)) | refine E_icmp_ge 47 d_TP_played_24 rfl (fun h24 => ?_) (fun h24 => ?_)
    rotate_left
    · exfalso; omega
    refine E_iconst (v := (-1)) d_TP_played_47 rfl ?_
    refine E_retI d_TP_played_48 rfl ?_
    exact ⟨rfl, hC, hX⟩
  | succ j ih =>
    intro k hk c M hT hv hC hX
    have hG := hC.G
    have hR := hC.R
    have t2 := hT.2.1
    have t3 := hT.2.2.1
    have r0 : mR M ta 0 = some (ta + 1) := hT.2.2.2.2.2.1 0 (by decide)
    have hk1 : k < x.clauses.length := by omega
    have hb := hB _ (getD_mem (d := (0, 0, 0)) hk1)
    have hk8 := h8 k hk1
    rw [playA] at hv
    refine E_iload_n d_TP_played_18 rfl ?_
    first | refine E_aload_n d_TP_played_19 rfl ?_ | refine E_aload_nN d_TP_played_19 rfl ?_
    refine E_getR d_TP_played_20 gf_TP_143 (by first | exact hG.s (by decide) rfl | assumption) (by first | exact hR.o rfl | assumption) ?_
    refine E_alen d_TP_played_23 (by first | exact hG.s (by decide) rfl | assumption) (by decide) rfl ?_
    first | (with_reducible refine E_isN2 ?_; refine E_icmp_ge 47 d_TP_played_24 rfl (nb_le (by omega) (by omega) fun h24 => ?_) (nb_nle (by omega) (by omega) fun h24 => ?_)) | refine E_icmp_ge 47 d_TP_played_24 rfl (fun h24 => ?_) (fun h24 => ?_)
    · exfalso; omega
    first | refine E_aload_n d_TP_played_27 rfl ?_ | refine E_aload_nN d_TP_played_27 rfl ?_
    refine E_getR d_TP_played_28 gf_TP_40 (by first | exact hG.s (by decide) rfl | assumption) (by first | exact hR.o rfl | assumption) ?_
    first | refine E_aload_n d_TP_played_31 rfl ?_ | refine E_aload_nN d_TP_played_31 rfl ?_
    refine E_iload_n d_TP_played_32 rfl ?_
    refine E_V2 (sp_Ro_playClause hC hT w24 hk1 rfl hk8 hb) d_TP_played_33 ml_TP_148 cb_Ro_playClause cv_Ro_playClause (by first | exact hG.s (by decide) rfl | assumption) ⟨by decide, rfl⟩ ⟨by decide, by decide⟩ rfl (Nat.le_of_ble_eq_true rfl) (Nat.le_of_ble_eq_true rfl) (kI fun r1 M1 hc => ?_)
    obtain ⟨rfl, hC1, hS1⟩ := hc
    first | (with_reducible refine E_isP ?_; refine E_if_ne 41 d_TP_played_36 rfl (pb_1 fun h36 => ?_) (pb_0 fun h36 => ?_)) | (with_reducible refine E_isN1 ?_; refine E_if_ne 41 d_TP_played_36 rfl (nz_ne fun h36 => ?_) (nz_eq (by omega) fun h36 => ?_)) | refine E_if_ne 41 d_TP_played_36 rfl (fun h36 => ?_) (fun h36 => ?_)
    · first | (with_reducible refine E_isL3 ?_; refine E_iincN3 (m := 1) d_TP_played_41 rfl rfl ?_) | refine E_iinc_3 d_TP_played_41 rfl rfl ?_
      refine E_goto 18 d_TP_played_44 rfl ?_
      rw [if_pos h36] at hv; exact ih (k + 1) (by omega) _ _ (hT.sc hS1 fun _ => CW.lt) hv hC1 (hX.tr hS1)
    · refine E_iload_n d_TP_played_39 rfl ?_
      refine E_retI d_TP_played_40 rfl ?_
      rw [if_neg h36] at hv; subst hv; exact ⟨rfl, hC1, hX.tr hS1⟩
theorem sp_TP_played {c : Cr} (hC : CM c G M) (hB : ∀ x ∈ c.texts, TxB x) (x : Int32) : E 7 0 0 Y_TP_played 0 [some (.ref 0), some (.int x), none, none] [] G M (QI G fun r M' => r = ans_played c x ∧ CM (st_played c x) G M' ∧ Sc CW M M') := by
  have hG := hC.G
  have hR := hC.R
  have K : ∀ r, (inN x c.texts.length → LawV (some (txAt c (tN x))) r G M) → (¬ inN x c.texts.length → r = none) → E 7 0 0 Y_TP_played 8 [some (.ref 0), some (.int x), none, none] [oV r] G M (QI G fun r M' => r = ans_played c x ∧ CM (st_played c x) G M' ∧ Sc CW M M') := by
    intro r h1 h2
    by_cases hx : inN x c.texts.length
    · rw [ans_played, st_played, if_pos hx, if_pos hx]
      have hL := h1 hx
      have ht := (in_nI hx).2
      have hm := getD_mem (d := (([], none, none) : Tx)) ht
      have hw := hC.w.text _ hm
      have hb := hB _ hm
      revert hL
      cases r with
      | none => intro hL; exact absurd hL (fun q => q)
      | some a =>
        intro hL
        rw [show oV (some a) = .ref a from rfl]
        first | refine E_astore_2 d_TP_played_8 rfl ?_ | refine E_astoreN_2 d_TP_played_8 rfl ?_
        first | refine E_aload_n d_TP_played_9 rfl ?_ | refine E_aload_nN d_TP_played_9 rfl ?_
        refine E_ifnonnullR 16 d_TP_played_10 rfl ?_
        refine E_iconst (v := nI 0) d_TP_played_16 rfl ?_
        refine E_istore_3 d_TP_played_17 rfl ?_
        exact lp_TP_played hw.1 hw.2.1 hb _ 0 (Nat.zero_add _) c M hL rfl hC Sc.rf
    · rw [ans_played, st_played, if_neg hx, if_neg hx]
      rw [h2 hx, show oV none = .null from rfl]
      first | refine E_astore_2 d_TP_played_8 rfl ?_ | refine E_astoreN_2 d_TP_played_8 rfl ?_
      first | refine E_aload_n d_TP_played_9 rfl ?_ | refine E_aload_nN d_TP_played_9 rfl ?_
      refine E_ifnonnullN d_TP_played_10 ?_
      refine E_bipush (v := (-2)) d_TP_played_13 (by decide) ?_
      refine E_retI d_TP_played_15 rfl ?_
      exact ⟨rfl, hC, Sc.rf⟩
  first | refine E_aload_n d_TP_played_0 rfl ?_ | refine E_aload_nN d_TP_played_0 rfl ?_
  refine E_getR d_TP_played_1 gf_TP_10 (by first | exact hG.s (by decide) rfl | assumption) (by exact hR.o rfl) ?_
  refine E_iload_n d_TP_played_4 rfl ?_
  refine E_V1 (sp_Cr_textAt hC _) d_TP_played_5 ml_TP_117 cb_Cr_textAt cv_Cr_textAt (by first | exact hG.s (by decide) rfl | assumption) ⟨by decide, rfl⟩ ⟨by decide, by decide⟩ rfl (Nat.le_of_ble_eq_true rfl) (Nat.le_of_ble_eq_true rfl) (kR fun r1 M1 hc => ?_)
  obtain ⟨q1, q2, rfl⟩ := hc
  exact K r1 q1 q2
end CMp
