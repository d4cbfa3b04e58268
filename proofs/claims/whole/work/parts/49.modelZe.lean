def playC (c : Cr) (q : Nat × Nat × Nat) : Cr × Bool :=
  if q.1 = 2 then (st_person c (nI q.2.1) (nI q.2.2), decide (perP c (nI q.2.1) (nI q.2.2)))
  else if q.1 = 3 then (st_hear c (nI q.2.1) (nI q.2.2), decide (heaP c (nI q.2.1) (nI q.2.2)))
  else if q.1 = 4 then (st_tell c (nI q.2.1), decide (inN (nI q.2.1) (c.now.people + 1) ∧ c.now.round ≠ 9999))
  else if q.1 = 5 then (st_nudge c (nI q.2.1) 1, decide (nudP c (nI q.2.1) 1))
  else if q.1 = 6 then (st_nudge c (nI q.2.1) (-1), decide (nudP c (nI q.2.1) (-1)))
  else if q.1 = 7 then passN q.2.1 c
  else (c, true)
def playA (x : Tx) : Nat → Nat → Cr → Cr × Int32
  | 0, _, c => (c, -1)
  | j + 1, k, c => if (playC c (x.clauses.getD k (0, 0, 0))).2 = true then playA x j (k + 1) (playC c (x.clauses.getD k (0, 0, 0))).1 else ((playC c (x.clauses.getD k (0, 0, 0))).1, nI k)
def ans_played (c : Cr) (x : Int32) : Int32 := if inN x c.texts.length then (playA (txAt c (tN x)) (txAt c (tN x)).clauses.length 0 c).2 else -2
def st_played (c : Cr) (x : Int32) : Cr := if inN x c.texts.length then (playA (txAt c (tN x)) (txAt c (tN x)).clauses.length 0 c).1 else c
def TxB (x : Tx) : Prop := ∀ q ∈ x.clauses, q.2.1 ≤ 9999 ∧ q.2.2 ≤ 9999
theorem passN_texts : ∀ n c, (passN n c).1.texts = c.texts := by
  intro n
  induction n with
  | zero => intro c; rfl
  | succ n ih =>
    intro c
    rw [passN]
    split
    · rfl
    · exact ih _
theorem playC_texts (c : Cr) (q : Nat × Nat × Nat) : (playC c q).1.texts = c.texts := by
  unfold playC
  split
  · show (st_person c _ _).texts = _
    unfold st_person
    split <;> rfl
  · split
    · show (st_hear c _ _).texts = _
      unfold st_hear
      split <;> rfl
    · split
      · show (st_tell c _).texts = _
        unfold st_tell
        split <;> rfl
      · split
        · show (st_nudge c _ _).texts = _
          unfold st_nudge
          split <;> rfl
        · split
          · show (st_nudge c _ _).texts = _
            unfold st_nudge
            split <;> rfl
          · split
            · exact passN_texts _ _
            · rfl
theorem neg1_lt : (-1 : Int32) < 0 := by decide
theorem nI_nneg {n : Nat} (h : n < 2147483648) : ¬ nI n < 0 := nI_pos h
theorem sp_TM_isPlayed {c : Cr} {M : Mem} {i : Nat} {q : Nat × Nat × Nat} (hM : HM c M) (hw : mI M 0 23 = nI 1) (hi : i + 2 < 2724) (h0 : mI M 3 i = nI q.1) (hq8 : q.1 ≤ 8) (hb : q.2.1 ≤ 9999 ∧ q.2.2 ≤ 9999) (h12 : 2 ≤ q.1 → mI M 3 (i + 1) = nI q.2.1 ∧ (q.1 ≤ 3 → mI M 3 (i + 2) = nI q.2.2)) :
    E 8 0 0 Y_TM_isPlayed 0 [some (.ref 0), some (.int (nI i)), none, none] [] GM M (QI GM fun r M' => r = pI ((playC c q).2 = true) ∧ HM (playC c q).1 M' ∧ Sx S1 M M') := by
  have hR := hM.R
  have hp8 := hM.w.p8
  obtain ⟨k, v, w⟩ := q
  have h0 : mI M 3 i = nI k := h0
  by_cases k2 : k = 2
  · subst k2
    obtain ⟨e1, e2⟩ := h12 (Nat.le_refl 2)
    have e1 : mI M 3 (i + 1) = nI v := e1
    have e2 : mI M 3 (i + 2) = nI w := e2 (by show 2 ≤ 3; omega)
    have e : playC c (2, v, w) = (st_person c (nI v) (nI w), decide (perP c (nI v) (nI w))) := if_pos rfl
    rw [e]
    have ka : ans_person c (nI v) (nI w) < 0 → nI 0 = pI (decide (perP c (nI v) (nI w)) = true) := fun h => (pI_f (fun q => by
      rw [ans_person, if_pos (of_decide_eq_true q)] at h
      exact nI_nneg (by omega) h)).symm
    have kb : ¬ ans_person c (nI v) (nI w) < 0 → nI 1 = pI (decide (perP c (nI v) (nI w)) = true) := fun h => (pI_t (decide_eq_true (Decidable.byContradiction fun q => h (by rw [ans_person, if_neg q]; exact neg1_lt)))).symm
    first | refine E_aload_n d_TM_isPlayed_0 rfl ?_ | refine E_aload_nN d_TM_isPlayed_0 rfl ?_
    refine E_getR (q := 3) d_TM_isPlayed_1 gf_TM_16 (by exact ⟨by decide, rfl⟩) (by exact hR _ rfl) ?_
    refine E_iload_n d_TM_isPlayed_4 rfl ?_
    refine E_iconst (v := nI 1) d_TM_isPlayed_5 rfl ?_
    first | (with_reducible refine E_isN2 ?_; refine E_iaddN d_TM_isPlayed_6 ?_) | refine E_iadd d_TM_isPlayed_6 ?_
    refine E_iald d_TM_isPlayed_7 (by exact ⟨by decide, rfl⟩) (by exact ⟨by with_reducible rfl, by omega, by decide⟩) (by exact e1) ?_
    refine E_istore_2 d_TM_isPlayed_8 rfl ?_
    first | refine E_aload_n d_TM_isPlayed_9 rfl ?_ | refine E_aload_nN d_TM_isPlayed_9 rfl ?_
    refine E_getR (q := 3) d_TM_isPlayed_10 gf_TM_16 (by exact ⟨by decide, rfl⟩) (by exact hR _ rfl) ?_
    refine E_iload_n d_TM_isPlayed_13 rfl ?_
    refine E_iconst (v := nI 2) d_TM_isPlayed_14 rfl ?_
    first | (with_reducible refine E_isN2 ?_; refine E_iaddN d_TM_isPlayed_15 ?_) | refine E_iadd d_TM_isPlayed_15 ?_
    refine E_iald d_TM_isPlayed_16 (by exact ⟨by decide, rfl⟩) (by exact ⟨by with_reducible rfl, by omega, by decide⟩) (by exact e2) ?_
    refine E_istore_3 d_TM_isPlayed_17 rfl ?_
    first | refine E_aload_n d_TM_isPlayed_18 rfl ?_ | refine E_aload_nN d_TM_isPlayed_18 rfl ?_
    refine E_getR (q := 3) d_TM_isPlayed_19 gf_TM_16 (by exact ⟨by decide, rfl⟩) (by exact hR _ rfl) ?_
    refine E_iload_n d_TM_isPlayed_22 rfl ?_
    refine E_iald d_TM_isPlayed_23 (by exact ⟨by decide, rfl⟩) (by exact ⟨by with_reducible rfl, by omega, by decide⟩) (by exact h0) ?_
    refine E_tableIn 64 d_TM_isPlayed_24 (by decide) (by decide) (by first | rfl | decide) rfl ?_
    first | refine E_aload_n d_TM_isPlayed_64 rfl ?_ | refine E_aload_nN d_TM_isPlayed_64 rfl ?_
    refine E_iload_n d_TM_isPlayed_65 rfl ?_
    refine E_iload_n d_TM_isPlayed_66 rfl ?_
    refine E_V2 (sp_TM_person hM _ _) d_TM_isPlayed_67 ml_TM_329 cb_TM_person cv_TM_person (by exact ⟨by decide, rfl⟩) ⟨by decide, rfl⟩ ⟨by decide, by decide⟩ rfl (Nat.le_of_ble_eq_true rfl) (Nat.le_of_ble_eq_true rfl) (kI fun r1 M1 hc => ?_)
    obtain ⟨rfl, hM1, hS1⟩ := hc
    first | (with_reducible refine E_isN1 ?_; refine E_if_lt 77 d_TM_isPlayed_70 rfl (nz_lt (by omega) fun h70 => ?_) (nz_nlt (by omega) fun h70 => ?_)) | refine E_if_lt 77 d_TM_isPlayed_70 rfl (fun h70 => ?_) (fun h70 => ?_)
    · refine E_iconst (v := nI 0) d_TM_isPlayed_77 rfl ?_
      refine E_retZ d_TM_isPlayed_78 rfl (by decide) ?_
      first | exact ⟨ka h70, hM1, hS1⟩ | exact ⟨kb h70, hM1, hS1⟩
    · refine E_iconst (v := nI 1) d_TM_isPlayed_73 rfl ?_
      refine E_goto 78 d_TM_isPlayed_74 rfl ?_
      refine E_retZ d_TM_isPlayed_78 rfl (by decide) ?_
      first | exact ⟨ka h70, hM1, hS1⟩ | exact ⟨kb h70, hM1, hS1⟩
  · by_cases k3 : k = 3
    · subst k3
      obtain ⟨e1, e2⟩ := h12 (by show 2 ≤ 3; omega)
      have e1 : mI M 3 (i + 1) = nI v := e1
      have e2 : mI M 3 (i + 2) = nI w := e2 (by show 3 ≤ 3; omega)
      have e : playC c (3, v, w) = (st_hear c (nI v) (nI w), decide (heaP c (nI v) (nI w))) := rfl
      rw [e]
      first | refine E_aload_n d_TM_isPlayed_0 rfl ?_ | refine E_aload_nN d_TM_isPlayed_0 rfl ?_
      refine E_getR (q := 3) d_TM_isPlayed_1 gf_TM_16 (by exact ⟨by decide, rfl⟩) (by exact hR _ rfl) ?_
      refine E_iload_n d_TM_isPlayed_4 rfl ?_
      refine E_iconst (v := nI 1) d_TM_isPlayed_5 rfl ?_
      first | (with_reducible refine E_isN2 ?_; refine E_iaddN d_TM_isPlayed_6 ?_) | refine E_iadd d_TM_isPlayed_6 ?_
      refine E_iald d_TM_isPlayed_7 (by exact ⟨by decide, rfl⟩) (by exact ⟨by with_reducible rfl, by omega, by decide⟩) (by exact e1) ?_
      refine E_istore_2 d_TM_isPlayed_8 rfl ?_
      first | refine E_aload_n d_TM_isPlayed_9 rfl ?_ | refine E_aload_nN d_TM_isPlayed_9 rfl ?_
      refine E_getR (q := 3) d_TM_isPlayed_10 gf_TM_16 (by exact ⟨by decide, rfl⟩) (by exact hR _ rfl) ?_
      refine E_iload_n d_TM_isPlayed_13 rfl ?_
      refine E_iconst (v := nI 2) d_TM_isPlayed_14 rfl ?_
      first | (with_reducible refine E_isN2 ?_; refine E_iaddN d_TM_isPlayed_15 ?_) | refine E_iadd d_TM_isPlayed_15 ?_
      refine E_iald d_TM_isPlayed_16 (by exact ⟨by decide, rfl⟩) (by exact ⟨by with_reducible rfl, by omega, by decide⟩) (by exact e2) ?_
      refine E_istore_3 d_TM_isPlayed_17 rfl ?_
      first | refine E_aload_n d_TM_isPlayed_18 rfl ?_ | refine E_aload_nN d_TM_isPlayed_18 rfl ?_
      refine E_getR (q := 3) d_TM_isPlayed_19 gf_TM_16 (by exact ⟨by decide, rfl⟩) (by exact hR _ rfl) ?_
      refine E_iload_n d_TM_isPlayed_22 rfl ?_
      refine E_iald d_TM_isPlayed_23 (by exact ⟨by decide, rfl⟩) (by exact ⟨by with_reducible rfl, by omega, by decide⟩) (by exact h0) ?_
      refine E_tableIn 79 d_TM_isPlayed_24 (by decide) (by decide) (by first | rfl | decide) rfl ?_
      first | refine E_aload_n d_TM_isPlayed_79 rfl ?_ | refine E_aload_nN d_TM_isPlayed_79 rfl ?_
      refine E_iload_n d_TM_isPlayed_80 rfl ?_
      refine E_iload_n d_TM_isPlayed_81 rfl ?_
      refine E_V2 (sp_TM_hear hM _ _) d_TM_isPlayed_82 ml_TM_332 cb_TM_hear cv_TM_hear (by exact ⟨by decide, rfl⟩) ⟨by decide, rfl⟩ ⟨by decide, by decide⟩ rfl (Nat.le_of_ble_eq_true rfl) (Nat.le_of_ble_eq_true rfl) (kI fun r1 M1 hc => ?_)
      obtain ⟨rfl, hM1, hS1⟩ := hc
      refine E_retZ d_TM_isPlayed_85 rfl (by first | exact pI_01 _ | decide) ?_
      exact ⟨pI_congr ⟨fun q => decide_eq_true q, fun q => of_decide_eq_true q⟩, hM1, hS1⟩
    · by_cases k4 : k = 4
      · subst k4
        obtain ⟨e1, e2⟩ := h12 (by show 2 ≤ 4; omega)
        have e1 : mI M 3 (i + 1) = nI v := e1
        have e : playC c (4, v, w) = (st_tell c (nI v), decide (inN (nI v) (c.now.people + 1) ∧ c.now.round ≠ 9999)) := rfl
        rw [e]
        have ka : ans_tell c (nI v) < 0 → nI 0 = pI (decide (inN (nI v) (c.now.people + 1) ∧ c.now.round ≠ 9999) = true) := fun h => (pI_f (fun q => by
          have q2 := of_decide_eq_true q
          rw [ans_tell, if_pos q2] at h
          have hf : (tellS c (tN (nI v))).now.figure ≤ 9 := pc9_le9 (Nat.lt_of_lt_of_le (answered_lt _ _ _) (Nat.pow_le_pow_right (by decide) (Nat.le_succ_of_le hp8)))
          exact nI_nneg (by omega) h)).symm
        have kb : ¬ ans_tell c (nI v) < 0 → nI 1 = pI (decide (inN (nI v) (c.now.people + 1) ∧ c.now.round ≠ 9999) = true) := fun h => (pI_t (decide_eq_true (Decidable.byContradiction fun q => h (by rw [ans_tell, if_neg q]; exact neg1_lt)))).symm
        first | refine E_aload_n d_TM_isPlayed_0 rfl ?_ | refine E_aload_nN d_TM_isPlayed_0 rfl ?_
        refine E_getR (q := 3) d_TM_isPlayed_1 gf_TM_16 (by exact ⟨by decide, rfl⟩) (by exact hR _ rfl) ?_
        refine E_iload_n d_TM_isPlayed_4 rfl ?_
        refine E_iconst (v := nI 1) d_TM_isPlayed_5 rfl ?_
        first | (with_reducible refine E_isN2 ?_; refine E_iaddN d_TM_isPlayed_6 ?_) | refine E_iadd d_TM_isPlayed_6 ?_
        refine E_iald d_TM_isPlayed_7 (by exact ⟨by decide, rfl⟩) (by exact ⟨by with_reducible rfl, by omega, by decide⟩) (by exact e1) ?_
        refine E_istore_2 d_TM_isPlayed_8 rfl ?_
        first | refine E_aload_n d_TM_isPlayed_9 rfl ?_ | refine E_aload_nN d_TM_isPlayed_9 rfl ?_
        refine E_getR (q := 3) d_TM_isPlayed_10 gf_TM_16 (by exact ⟨by decide, rfl⟩) (by exact hR _ rfl) ?_
        refine E_iload_n d_TM_isPlayed_13 rfl ?_
        refine E_iconst (v := nI 2) d_TM_isPlayed_14 rfl ?_
        first | (with_reducible refine E_isN2 ?_; refine E_iaddN d_TM_isPlayed_15 ?_) | refine E_iadd d_TM_isPlayed_15 ?_
        refine E_iald d_TM_isPlayed_16 (by exact ⟨by decide, rfl⟩) (by exact ⟨by with_reducible rfl, by omega, by decide⟩) (by rfl) ?_
        refine E_istore_3 d_TM_isPlayed_17 rfl ?_
        first | refine E_aload_n d_TM_isPlayed_18 rfl ?_ | refine E_aload_nN d_TM_isPlayed_18 rfl ?_
        refine E_getR (q := 3) d_TM_isPlayed_19 gf_TM_16 (by exact ⟨by decide, rfl⟩) (by exact hR _ rfl) ?_
        refine E_iload_n d_TM_isPlayed_22 rfl ?_
        refine E_iald d_TM_isPlayed_23 (by exact ⟨by decide, rfl⟩) (by exact ⟨by with_reducible rfl, by omega, by decide⟩) (by exact h0) ?_
        refine E_tableIn 86 d_TM_isPlayed_24 (by decide) (by decide) (by first | rfl | decide) rfl ?_
        first | refine E_aload_n d_TM_isPlayed_86 rfl ?_ | refine E_aload_nN d_TM_isPlayed_86 rfl ?_
        refine E_iload_n d_TM_isPlayed_87 rfl ?_
        refine E_V1 (sp_TM_tell hM hw _) d_TM_isPlayed_88 ml_TM_323 cb_TM_tell cv_TM_tell (by exact ⟨by decide, rfl⟩) ⟨by decide, rfl⟩ ⟨by decide, by decide⟩ rfl (Nat.le_of_ble_eq_true rfl) (Nat.le_of_ble_eq_true rfl) (kI fun r1 M1 hc => ?_)
        obtain ⟨rfl, hM1, hS1⟩ := hc
        first | (with_reducible refine E_isN1 ?_; refine E_if_lt 98 d_TM_isPlayed_91 rfl (nz_lt (by omega) fun h91 => ?_) (nz_nlt (by omega) fun h91 => ?_)) | refine E_if_lt 98 d_TM_isPlayed_91 rfl (fun h91 => ?_) (fun h91 => ?_)
        · refine E_iconst (v := nI 0) d_TM_isPlayed_98 rfl ?_
          refine E_retZ d_TM_isPlayed_99 rfl (by decide) ?_
          first | exact ⟨ka h91, hM1, hS1⟩ | exact ⟨kb h91, hM1, hS1⟩
        · refine E_iconst (v := nI 1) d_TM_isPlayed_94 rfl ?_
          refine E_goto 99 d_TM_isPlayed_95 rfl ?_
          refine E_retZ d_TM_isPlayed_99 rfl (by decide) ?_
          first | exact ⟨ka h91, hM1, hS1⟩ | exact ⟨kb h91, hM1, hS1⟩
      · by_cases k5 : k = 5
        · subst k5
          obtain ⟨e1, e2⟩ := h12 (by show 2 ≤ 5; omega)
          have e1 : mI M 3 (i + 1) = nI v := e1
          have e : playC c (5, v, w) = (st_nudge c (nI v) 1, decide (nudP c (nI v) 1)) := rfl
          rw [e]
          first | refine E_aload_n d_TM_isPlayed_0 rfl ?_ | refine E_aload_nN d_TM_isPlayed_0 rfl ?_
          refine E_getR (q := 3) d_TM_isPlayed_1 gf_TM_16 (by exact ⟨by decide, rfl⟩) (by exact hR _ rfl) ?_
          refine E_iload_n d_TM_isPlayed_4 rfl ?_
          refine E_iconst (v := nI 1) d_TM_isPlayed_5 rfl ?_
          first | (with_reducible refine E_isN2 ?_; refine E_iaddN d_TM_isPlayed_6 ?_) | refine E_iadd d_TM_isPlayed_6 ?_
          refine E_iald d_TM_isPlayed_7 (by exact ⟨by decide, rfl⟩) (by exact ⟨by with_reducible rfl, by omega, by decide⟩) (by exact e1) ?_
          refine E_istore_2 d_TM_isPlayed_8 rfl ?_
          first | refine E_aload_n d_TM_isPlayed_9 rfl ?_ | refine E_aload_nN d_TM_isPlayed_9 rfl ?_
          refine E_getR (q := 3) d_TM_isPlayed_10 gf_TM_16 (by exact ⟨by decide, rfl⟩) (by exact hR _ rfl) ?_
          refine E_iload_n d_TM_isPlayed_13 rfl ?_
          refine E_iconst (v := nI 2) d_TM_isPlayed_14 rfl ?_
          first | (with_reducible refine E_isN2 ?_; refine E_iaddN d_TM_isPlayed_15 ?_) | refine E_iadd d_TM_isPlayed_15 ?_
          refine E_iald d_TM_isPlayed_16 (by exact ⟨by decide, rfl⟩) (by exact ⟨by with_reducible rfl, by omega, by decide⟩) (by rfl) ?_
          refine E_istore_3 d_TM_isPlayed_17 rfl ?_
          first | refine E_aload_n d_TM_isPlayed_18 rfl ?_ | refine E_aload_nN d_TM_isPlayed_18 rfl ?_
          refine E_getR (q := 3) d_TM_isPlayed_19 gf_TM_16 (by exact ⟨by decide, rfl⟩) (by exact hR _ rfl) ?_
          refine E_iload_n d_TM_isPlayed_22 rfl ?_
          refine E_iald d_TM_isPlayed_23 (by exact ⟨by decide, rfl⟩) (by exact ⟨by with_reducible rfl, by omega, by decide⟩) (by exact h0) ?_
          refine E_tableIn 100 d_TM_isPlayed_24 (by decide) (by decide) (by first | rfl | decide) rfl ?_
          first | refine E_aload_n d_TM_isPlayed_100 rfl ?_ | refine E_aload_nN d_TM_isPlayed_100 rfl ?_
          refine E_iload_n d_TM_isPlayed_101 rfl ?_
          refine E_iconst (v := nI 1) d_TM_isPlayed_102 rfl ?_
          refine E_V2 (sp_TM_nudge hM _ _) d_TM_isPlayed_103 ml_TM_335 cb_TM_nudge cv_TM_nudge (by exact ⟨by decide, rfl⟩) ⟨by decide, rfl⟩ ⟨by decide, by decide⟩ rfl (Nat.le_of_ble_eq_true rfl) (Nat.le_of_ble_eq_true rfl) (kI fun r1 M1 hc => ?_)
          obtain ⟨rfl, hM1, hS1⟩ := hc
          refine E_retZ d_TM_isPlayed_106 rfl (by first | exact pI_01 _ | decide) ?_
          exact ⟨pI_congr ⟨fun q => decide_eq_true q, fun q => of_decide_eq_true q⟩, hM1, hS1⟩
        · by_cases k6 : k = 6
          · subst k6
            obtain ⟨e1, e2⟩ := h12 (by show 2 ≤ 6; omega)
            have e1 : mI M 3 (i + 1) = nI v := e1
            have e : playC c (6, v, w) = (st_nudge c (nI v) (-1), decide (nudP c (nI v) (-1))) := rfl
            rw [e]
            first | refine E_aload_n d_TM_isPlayed_0 rfl ?_ | refine E_aload_nN d_TM_isPlayed_0 rfl ?_
            refine E_getR (q := 3) d_TM_isPlayed_1 gf_TM_16 (by exact ⟨by decide, rfl⟩) (by exact hR _ rfl) ?_
            refine E_iload_n d_TM_isPlayed_4 rfl ?_
            refine E_iconst (v := nI 1) d_TM_isPlayed_5 rfl ?_
            first | (with_reducible refine E_isN2 ?_; refine E_iaddN d_TM_isPlayed_6 ?_) | refine E_iadd d_TM_isPlayed_6 ?_
            refine E_iald d_TM_isPlayed_7 (by exact ⟨by decide, rfl⟩) (by exact ⟨by with_reducible rfl, by omega, by decide⟩) (by exact e1) ?_
            refine E_istore_2 d_TM_isPlayed_8 rfl ?_
            first | refine E_aload_n d_TM_isPlayed_9 rfl ?_ | refine E_aload_nN d_TM_isPlayed_9 rfl ?_
            refine E_getR (q := 3) d_TM_isPlayed_10 gf_TM_16 (by exact ⟨by decide, rfl⟩) (by exact hR _ rfl) ?_
            refine E_iload_n d_TM_isPlayed_13 rfl ?_
            refine E_iconst (v := nI 2) d_TM_isPlayed_14 rfl ?_
            first | (with_reducible refine E_isN2 ?_; refine E_iaddN d_TM_isPlayed_15 ?_) | refine E_iadd d_TM_isPlayed_15 ?_
            refine E_iald d_TM_isPlayed_16 (by exact ⟨by decide, rfl⟩) (by exact ⟨by with_reducible rfl, by omega, by decide⟩) (by rfl) ?_
            refine E_istore_3 d_TM_isPlayed_17 rfl ?_
            first | refine E_aload_n d_TM_isPlayed_18 rfl ?_ | refine E_aload_nN d_TM_isPlayed_18 rfl ?_
            refine E_getR (q := 3) d_TM_isPlayed_19 gf_TM_16 (by exact ⟨by decide, rfl⟩) (by exact hR _ rfl) ?_
            refine E_iload_n d_TM_isPlayed_22 rfl ?_
            refine E_iald d_TM_isPlayed_23 (by exact ⟨by decide, rfl⟩) (by exact ⟨by with_reducible rfl, by omega, by decide⟩) (by exact h0) ?_
            refine E_tableIn 107 d_TM_isPlayed_24 (by decide) (by decide) (by first | rfl | decide) rfl ?_
            first | refine E_aload_n d_TM_isPlayed_107 rfl ?_ | refine E_aload_nN d_TM_isPlayed_107 rfl ?_
            refine E_iload_n d_TM_isPlayed_108 rfl ?_
            refine E_iconst (v := (-1)) d_TM_isPlayed_109 rfl ?_
            refine E_V2 (sp_TM_nudge hM _ _) d_TM_isPlayed_110 ml_TM_335 cb_TM_nudge cv_TM_nudge (by exact ⟨by decide, rfl⟩) ⟨by decide, rfl⟩ ⟨by decide, by decide⟩ rfl (Nat.le_of_ble_eq_true rfl) (Nat.le_of_ble_eq_true rfl) (kI fun r1 M1 hc => ?_)
            obtain ⟨rfl, hM1, hS1⟩ := hc
            refine E_retZ d_TM_isPlayed_113 rfl (by first | exact pI_01 _ | decide) ?_
            exact ⟨pI_congr ⟨fun q => decide_eq_true q, fun q => of_decide_eq_true q⟩, hM1, hS1⟩
          · by_cases k7 : k = 7
            · subst k7
              obtain ⟨e1, e2⟩ := h12 (by show 2 ≤ 7; omega)
              have e1 : mI M 3 (i + 1) = nI v := e1
              have e : playC c (7, v, w) = passN v c := rfl
              rw [e]
              have hb1 : v ≤ 9999 := hb.1
              first | refine E_aload_n d_TM_isPlayed_0 rfl ?_ | refine E_aload_nN d_TM_isPlayed_0 rfl ?_
              refine E_getR (q := 3) d_TM_isPlayed_1 gf_TM_16 (by exact ⟨by decide, rfl⟩) (by exact hR _ rfl) ?_
              refine E_iload_n d_TM_isPlayed_4 rfl ?_
              refine E_iconst (v := nI 1) d_TM_isPlayed_5 rfl ?_
              first | (with_reducible refine E_isN2 ?_; refine E_iaddN d_TM_isPlayed_6 ?_) | refine E_iadd d_TM_isPlayed_6 ?_
              refine E_iald d_TM_isPlayed_7 (by exact ⟨by decide, rfl⟩) (by exact ⟨by with_reducible rfl, by omega, by decide⟩) (by exact e1) ?_
              refine E_istore_2 d_TM_isPlayed_8 rfl ?_
              first | refine E_aload_n d_TM_isPlayed_9 rfl ?_ | refine E_aload_nN d_TM_isPlayed_9 rfl ?_
              refine E_getR (q := 3) d_TM_isPlayed_10 gf_TM_16 (by exact ⟨by decide, rfl⟩) (by exact hR _ rfl) ?_
              refine E_iload_n d_TM_isPlayed_13 rfl ?_
              refine E_iconst (v := nI 2) d_TM_isPlayed_14 rfl ?_
              first | (with_reducible refine E_isN2 ?_; refine E_iaddN d_TM_isPlayed_15 ?_) | refine E_iadd d_TM_isPlayed_15 ?_
              refine E_iald d_TM_isPlayed_16 (by exact ⟨by decide, rfl⟩) (by exact ⟨by with_reducible rfl, by omega, by decide⟩) (by rfl) ?_
              refine E_istore_3 d_TM_isPlayed_17 rfl ?_
              first | refine E_aload_n d_TM_isPlayed_18 rfl ?_ | refine E_aload_nN d_TM_isPlayed_18 rfl ?_
              refine E_getR (q := 3) d_TM_isPlayed_19 gf_TM_16 (by exact ⟨by decide, rfl⟩) (by exact hR _ rfl) ?_
              refine E_iload_n d_TM_isPlayed_22 rfl ?_
              refine E_iald d_TM_isPlayed_23 (by exact ⟨by decide, rfl⟩) (by exact ⟨by with_reducible rfl, by omega, by decide⟩) (by exact h0) ?_
              refine E_tableIn 114 d_TM_isPlayed_24 (by decide) (by decide) (by first | rfl | decide) rfl ?_
              first | refine E_aload_n d_TM_isPlayed_114 rfl ?_ | refine E_aload_nN d_TM_isPlayed_114 rfl ?_
              refine E_iload_n d_TM_isPlayed_115 rfl ?_
              refine E_V1 (sp_TM_arePassed hM hw (by omega)) d_TM_isPlayed_116 ml_TM_326 cb_TM_arePassed cv_TM_arePassed (by exact ⟨by decide, rfl⟩) ⟨by decide, rfl⟩ ⟨by decide, by decide⟩ rfl (Nat.le_of_ble_eq_true rfl) (Nat.le_of_ble_eq_true rfl) (kI fun r1 M1 hc => ?_)
              obtain ⟨rfl, hM1, hS1⟩ := hc
              refine E_retZ d_TM_isPlayed_119 rfl (by first | exact pI_01 _ | decide) ?_
              exact ⟨rfl, hM1, hS1⟩
            · have e : playC c (k, v, w) = (c, true) := by unfold playC; rw [if_neg k2, if_neg k3, if_neg k4, if_neg k5, if_neg k6, if_neg k7]
              rw [e]
              have hk8 : k ≤ 8 := hq8
              have hsw : (nI k).toInt < 2 ∨ 7 < (nI k).toInt := by rw [nI_toInt (by omega)]; omega
              first | refine E_aload_n d_TM_isPlayed_0 rfl ?_ | refine E_aload_nN d_TM_isPlayed_0 rfl ?_
              refine E_getR (q := 3) d_TM_isPlayed_1 gf_TM_16 (by exact ⟨by decide, rfl⟩) (by exact hR _ rfl) ?_
              refine E_iload_n d_TM_isPlayed_4 rfl ?_
              refine E_iconst (v := nI 1) d_TM_isPlayed_5 rfl ?_
              first | (with_reducible refine E_isN2 ?_; refine E_iaddN d_TM_isPlayed_6 ?_) | refine E_iadd d_TM_isPlayed_6 ?_
              refine E_iald d_TM_isPlayed_7 (by exact ⟨by decide, rfl⟩) (by exact ⟨by with_reducible rfl, by omega, by decide⟩) (by rfl) ?_
              refine E_istore_2 d_TM_isPlayed_8 rfl ?_
              first | refine E_aload_n d_TM_isPlayed_9 rfl ?_ | refine E_aload_nN d_TM_isPlayed_9 rfl ?_
              refine E_getR (q := 3) d_TM_isPlayed_10 gf_TM_16 (by exact ⟨by decide, rfl⟩) (by exact hR _ rfl) ?_
              refine E_iload_n d_TM_isPlayed_13 rfl ?_
              refine E_iconst (v := nI 2) d_TM_isPlayed_14 rfl ?_
              first | (with_reducible refine E_isN2 ?_; refine E_iaddN d_TM_isPlayed_15 ?_) | refine E_iadd d_TM_isPlayed_15 ?_
              refine E_iald d_TM_isPlayed_16 (by exact ⟨by decide, rfl⟩) (by exact ⟨by with_reducible rfl, by omega, by decide⟩) (by rfl) ?_
              refine E_istore_3 d_TM_isPlayed_17 rfl ?_
              first | refine E_aload_n d_TM_isPlayed_18 rfl ?_ | refine E_aload_nN d_TM_isPlayed_18 rfl ?_
              refine E_getR (q := 3) d_TM_isPlayed_19 gf_TM_16 (by exact ⟨by decide, rfl⟩) (by exact hR _ rfl) ?_
              refine E_iload_n d_TM_isPlayed_22 rfl ?_
              refine E_iald d_TM_isPlayed_23 (by exact ⟨by decide, rfl⟩) (by exact ⟨by with_reducible rfl, by omega, by decide⟩) (by exact h0) ?_
              refine E_tableOut 120 d_TM_isPlayed_24 (by exact hsw) rfl ?_
              refine E_iconst (v := nI 1) d_TM_isPlayed_120 rfl ?_
              refine E_retZ d_TM_isPlayed_121 rfl (by decide) ?_
              exact ⟨rfl, hM, Sx.rf⟩
theorem lp_TM_played {c0 : Cr} {M0 : Mem} {t : Nat} (ht : t < c0.texts.length) (hB : TxB (txAt c0 t)) {R : Cr × Int32} : ∀ j k, k + j = (txAt c0 t).clauses.length → ∀ c M, c.texts = c0.texts → playA (txAt c0 t) j k c = R → HM c M → mI M 0 23 = nI 1 → Sx S1 M0 M → E 9 0 0 Y_TM_played 21 [some (.ref 0), some (.int (nI t)), some (.int (nI k))] [] GM M (QI GM fun r M' => r = R.2 ∧ HM R.1 M' ∧ Sx S1 M0 M') := by
  intro j
  induction j with
  | zero =>
    intro k hk c M hct hv hM hw hX
    have hR := hM.R
    have h4 := hM.w.texts
    have hTx := (hM.T t (by rw [hct]; exact ht)).1
    have etx : c.texts.getD t ([], none, none) = txAt c0 t := by rw [hct]; rfl
    rw [etx] at hTx
    have hw24 : (txAt c0 t).clauses.length ≤ 24 := by have := (hM.w.text _ (getD_mem (d := ([], none, none)) (show t < c.texts.length by rw [hct]; exact ht))).1; rw [etx] at this; exact this
    have ht4 : t < 4 := by rw [hct] at h4; omega
    have hv2 : (c, -1) = R := hv
    subst hv2
    refine E_iload_n d_TM_played_21 rfl ?_
    first | refine E_aload_n d_TM_played_22 rfl ?_ | refine E_aload_nN d_TM_played_22 rfl ?_
    refine E_getR (q := 3) d_TM_played_23 gf_TM_16 (by exact ⟨by decide, rfl⟩) (by exact hR _ rfl) ?_
    refine E_sipush (v := nI 681) d_TM_played_26 (by decide) ?_
    refine E_iload_n d_TM_played_29 rfl ?_
    first | (with_reducible refine E_isN2 ?_; refine E_imulN d_TM_played_30 ?_) | refine E_imul d_TM_played_30 ?_
    refine E_iald d_TM_played_31 (by exact ⟨by decide, rfl⟩) (by exact ⟨by with_reducible rfl, by omega, by decide⟩) (by exact hTx) ?_
    first | (with_reducible refine E_isN2 ?_; refine E_icmp_ge 61 d_TM_played_32 rfl (nb_le (by omega) (by omega) fun h32 => ?_) (nb_nle (by omega) (by omega) fun h32 => ?_)) | refine E_icmp_ge 61 d_TM_played_32 rfl (fun h32 => ?_) (fun h32 => ?_)
    rotate_left
    · exfalso; omega
    refine E_iconst (v := (-1)) d_TM_played_61 rfl ?_
    refine E_retI d_TM_played_62 rfl ?_
    exact ⟨rfl, hM, hX⟩
  | succ j ih =>
    intro k hk c M hct hv hM hw hX
    have hR := hM.R
    have h4 := hM.w.texts
    have hTx0 := hM.T t (by rw [hct]; exact ht)
    have etx : c.texts.getD t ([], none, none) = txAt c0 t := by rw [hct]; rfl
    rw [etx] at hTx0
    have hTx := hTx0.1
    have hwt := hM.w.text _ (getD_mem (d := ([], none, none)) (show t < c.texts.length by rw [hct]; exact ht))
    rw [etx] at hwt
    have hw24 := hwt.1
    have ht4 : t < 4 := by rw [hct] at h4; omega
    have hk1 : k < (txAt c0 t).clauses.length := by omega
    have hcl := hTx0.2 k hk1
    have hb := hB _ (getD_mem (d := (0, 0, 0)) hk1)
    have hk8 := hwt.2.1 k hk1
    rw [playA] at hv
    refine E_iload_n d_TM_played_21 rfl ?_
    first | refine E_aload_n d_TM_played_22 rfl ?_ | refine E_aload_nN d_TM_played_22 rfl ?_
    refine E_getR (q := 3) d_TM_played_23 gf_TM_16 (by exact ⟨by decide, rfl⟩) (by exact hR _ rfl) ?_
    refine E_sipush (v := nI 681) d_TM_played_26 (by decide) ?_
    refine E_iload_n d_TM_played_29 rfl ?_
    first | (with_reducible refine E_isN2 ?_; refine E_imulN d_TM_played_30 ?_) | refine E_imul d_TM_played_30 ?_
    refine E_iald d_TM_played_31 (by exact ⟨by decide, rfl⟩) (by exact ⟨by with_reducible rfl, by omega, by decide⟩) (by exact hTx) ?_
    first | (with_reducible refine E_isN2 ?_; refine E_icmp_ge 61 d_TM_played_32 rfl (nb_le (by omega) (by omega) fun h32 => ?_) (nb_nle (by omega) (by omega) fun h32 => ?_)) | refine E_icmp_ge 61 d_TM_played_32 rfl (fun h32 => ?_) (fun h32 => ?_)
    · exfalso; omega
    first | refine E_aload_n d_TM_played_35 rfl ?_ | refine E_aload_nN d_TM_played_35 rfl ?_
    refine E_sipush (v := nI 681) d_TM_played_36 (by decide) ?_
    refine E_iload_n d_TM_played_39 rfl ?_
    first | (with_reducible refine E_isN2 ?_; refine E_imulN d_TM_played_40 ?_) | refine E_imul d_TM_played_40 ?_
    refine E_iconst (v := nI 1) d_TM_played_41 rfl ?_
    first | (with_reducible refine E_isN2 ?_; refine E_iaddN d_TM_played_42 ?_) | refine E_iadd d_TM_played_42 ?_
    refine E_iconst (v := nI 3) d_TM_played_43 rfl ?_
    refine E_iload_n d_TM_played_44 rfl ?_
    first | (with_reducible refine E_isN2 ?_; refine E_imulN d_TM_played_45 ?_) | refine E_imul d_TM_played_45 ?_
    first | (with_reducible refine E_isN2 ?_; refine E_iaddN d_TM_played_46 ?_) | refine E_iadd d_TM_played_46 ?_
    refine E_V1 (sp_TM_isPlayed (q := (txAt c0 t).clauses.getD k (0, 0, 0)) hM hw (by omega) hcl.1 hk8 hb hcl.2.2.2) d_TM_played_47 ml_TM_338 cb_TM_isPlayed cv_TM_isPlayed (by exact ⟨by decide, rfl⟩) ⟨by decide, rfl⟩ ⟨by decide, by decide⟩ rfl (Nat.le_of_ble_eq_true rfl) (Nat.le_of_ble_eq_true rfl) (kI fun r1 M1 hc => ?_)
    obtain ⟨rfl, hM1, hS1⟩ := hc
    first | (with_reducible refine E_isP ?_; refine E_if_ne 55 d_TM_played_50 rfl (pb_1 fun h50 => ?_) (pb_0 fun h50 => ?_)) | (with_reducible refine E_isN1 ?_; refine E_if_ne 55 d_TM_played_50 rfl (nz_ne fun h50 => ?_) (nz_eq (by omega) fun h50 => ?_)) | refine E_if_ne 55 d_TM_played_50 rfl (fun h50 => ?_) (fun h50 => ?_)
    · first | (with_reducible refine E_isL2 ?_; refine E_iincN2 (m := 1) d_TM_played_55 rfl rfl ?_) | refine E_iinc_2 d_TM_played_55 rfl rfl ?_
      refine E_goto 21 d_TM_played_58 rfl ?_
      rw [if_pos h50] at hv; exact ih (k + 1) (by omega) _ _ ((playC_texts _ _).trans hct) hv hM1 (fl1 hS1 hw) (hX.tr hS1)
    · refine E_iload_n d_TM_played_53 rfl ?_
      refine E_retI d_TM_played_54 rfl ?_
      rw [if_neg h50] at hv; subst hv; exact ⟨rfl, hM1, hX.tr hS1⟩
theorem sp_TM_played {c : Cr} {M : Mem} (hM : HM c M) (hw : mI M 0 23 = nI 1) (hB : ∀ x ∈ c.texts, TxB x) (x : Int32) : E 9 0 0 Y_TM_played 0 [some (.ref 0), some (.int x), none] [] GM M (QI GM fun r M' => r = ans_played c x ∧ HM (st_played c x) M' ∧ Sx S1 M M') := by
  have hR := hM.R
  have h4 := hM.w.texts
  have e1 := hM.A.texts
  have hb : ∀ x, (nI 0 ≤ x ∧ x ≤ nI c.texts.length - nI 1) ↔ inN x c.texts.length := fun x => isIn_p (by omega)
  revert x
  refine args1 c.texts.length (fun t ht hx htn => ?_) (fun x hx => ?_)
  · rw [ans_played, st_played, if_pos hx, if_pos hx, htn]
    rw [pk_sub (by omega)] at hb
    refine E_iload_n d_TM_played_0 rfl ?_
    refine E_iconst (v := nI 0) d_TM_played_1 rfl ?_
    first | refine E_aload_n d_TM_played_2 rfl ?_ | refine E_aload_nN d_TM_played_2 rfl ?_
    refine E_getR (q := 1) d_TM_played_3 gf_TM_7 (by exact ⟨by decide, rfl⟩) (by exact hR _ rfl) ?_
    refine E_iconst (v := nI 1) d_TM_played_6 rfl ?_
    refine E_iald d_TM_played_7 (by exact ⟨by decide, rfl⟩) (by exact ⟨by with_reducible rfl, by omega, by decide⟩) (by exact e1) ?_
    refine E_iconst (v := nI 1) d_TM_played_8 rfl ?_
    first | (with_reducible refine E_isN2 ?_; refine E_isubN d_TM_played_9 (by omega) ?_) | refine E_isub d_TM_played_9 ?_
    refine E_S3 (sp_TM_isIn _ _ _) d_TM_played_10 ml_TM_69 cb_TM_isIn cs_TM_isIn ⟨by decide, by decide⟩ rfl (Nat.le_of_ble_eq_true rfl) (Nat.le_of_ble_eq_true rfl) (kI fun r1 M1 hc => ?_)
    obtain ⟨rfl, rfl⟩ := hc
    first | (with_reducible refine E_isP ?_; refine E_if_ne 19 d_TM_played_13 rfl (pb_1 fun h13 => ?_) (pb_0 fun h13 => ?_)) | (with_reducible refine E_isN1 ?_; refine E_if_ne 19 d_TM_played_13 rfl (nz_ne fun h13 => ?_) (nz_eq (by omega) fun h13 => ?_)) | refine E_if_ne 19 d_TM_played_13 rfl (fun h13 => ?_) (fun h13 => ?_)
    rotate_left
    · exfalso; exact h13 ((hb _).mpr hx)
    refine E_iconst (v := nI 0) d_TM_played_19 rfl ?_
    refine E_istore_2 d_TM_played_20 rfl ?_
    exact lp_TM_played ht (hB _ (getD_mem ht)) _ 0 (Nat.zero_add _) c M1 rfl rfl hM hw Sx.rf
  · rw [ans_played, st_played, if_neg hx, if_neg hx]
    refine E_iload_n d_TM_played_0 rfl ?_
    refine E_iconst (v := nI 0) d_TM_played_1 rfl ?_
    first | refine E_aload_n d_TM_played_2 rfl ?_ | refine E_aload_nN d_TM_played_2 rfl ?_
    refine E_getR (q := 1) d_TM_played_3 gf_TM_7 (by exact ⟨by decide, rfl⟩) (by exact hR _ rfl) ?_
    refine E_iconst (v := nI 1) d_TM_played_6 rfl ?_
    refine E_iald d_TM_played_7 (by exact ⟨by decide, rfl⟩) (by exact ⟨by with_reducible rfl, by omega, by decide⟩) (by exact e1) ?_
    refine E_iconst (v := nI 1) d_TM_played_8 rfl ?_
    first | (with_reducible refine E_isN2 ?_; refine E_isubN d_TM_played_9 (by omega) ?_) | refine E_isub d_TM_played_9 ?_
    refine E_S3 (sp_TM_isIn _ _ _) d_TM_played_10 ml_TM_69 cb_TM_isIn cs_TM_isIn ⟨by decide, by decide⟩ rfl (Nat.le_of_ble_eq_true rfl) (Nat.le_of_ble_eq_true rfl) (kI fun r1 M1 hc => ?_)
    obtain ⟨rfl, rfl⟩ := hc
    first | (with_reducible refine E_isP ?_; refine E_if_ne 19 d_TM_played_13 rfl (pb_1 fun h13 => ?_) (pb_0 fun h13 => ?_)) | (with_reducible refine E_isN1 ?_; refine E_if_ne 19 d_TM_played_13 rfl (nz_ne fun h13 => ?_) (nz_eq (by omega) fun h13 => ?_)) | refine E_if_ne 19 d_TM_played_13 rfl (fun h13 => ?_) (fun h13 => ?_)
    · exfalso; first | exact hx ((hb _).mp h13) | (rw [pk_sub (by omega)] at hb; exact hx ((hb _).mp h13))
    refine E_bipush (v := (-2)) d_TM_played_16 (by decide) ?_
    refine E_retI d_TM_played_18 rfl ?_
    exact ⟨rfl, hM, Sx.rf⟩
