theorem clA_sways {x : Tx} (h : WTx x) : (clA x 1 x.clauses.length 0 = 0 ↔ x.sways = none) := by
  constructor
  · intro e
    cases hs : x.sways with
    | none => rfl
    | some q =>
      obtain ⟨m, h1, h2⟩ := h.2.2.2.1.mp (by rw [hs]; rfl)
      exact absurd h2 (clA_no _ _ e m (Nat.zero_le _) (by omega))
  · intro e
    apply Decidable.byContradiction
    intro q
    have := clA_at _ _ q
    have h3 := h.2.2.2.1.mpr ⟨_, by have := this.2.1; omega, this.2.2⟩
    rw [e] at h3
    exact Bool.noConfusion h3
theorem sp_TM_swaysOf {c : Cr} {M : Mem} (hM : HM c M) {p f y : Nat} (hp : p < c.now.people) (hf : f ≤ 8) (hy : y ≤ 1) : E 3 0 0 Y_TM_swaysOf 0 [some (.ref 0), some (.int (nI p)), some (.int (nI f)), some (.int (nI y)), none] [] GM M (QI GM fun r M' => r = iI (sway c c.now p f y) ∧ Sx SY M M') := by
  have hR := hM.R
  have hA := hM.A
  have e0 : sway c c.now p f y = match (txO c c.ruling).bind Tx.sways with | none => 0 | some q => clampZ (worthR q.1 (nmOf c c.now p f y) c.now) (-2) 2 := rfl
  rw [e0]
  have hru := hA.ruling
  have hwr := hM.w.ruling
  revert hru hwr
  generalize c.ruling = t
  intro hru hwr
  cases t with
  | none =>
    rw [show enO none = -1 from rfl] at hru
    first | refine E_aload_n d_TM_swaysOf_0 rfl ?_ | refine E_aload_nN d_TM_swaysOf_0 rfl ?_
    first | refine E_aload_n d_TM_swaysOf_1 rfl ?_ | refine E_aload_nN d_TM_swaysOf_1 rfl ?_
    refine E_getR (q := 1) d_TM_swaysOf_2 gf_TM_7 (by exact ⟨by decide, rfl⟩) (by exact hR _ rfl) ?_
    refine E_iconst (v := nI 2) d_TM_swaysOf_5 rfl ?_
    refine E_iald d_TM_swaysOf_6 (by exact ⟨by decide, rfl⟩) (by exact ⟨by with_reducible rfl, by omega, by decide⟩) (by exact hru) ?_
    refine E_iconst (v := nI 1) d_TM_swaysOf_7 rfl ?_
    refine E_V2 (sp_TM_clauseOf0 hM) d_TM_swaysOf_8 ml_TM_270 cb_TM_clauseOf cv_TM_clauseOf (by exact ⟨by decide, rfl⟩) ⟨by decide, rfl⟩ ⟨by decide, by decide⟩ rfl (Nat.le_of_ble_eq_true rfl) (Nat.le_of_ble_eq_true rfl) (kI fun r1 M1 hc => ?_)
    obtain ⟨rfl, rfl⟩ := hc
    refine E_istore_4 d_TM_swaysOf_11 rfl ?_
    first | refine E_aload_n d_TM_swaysOf_13 rfl ?_ | refine E_aload_nN d_TM_swaysOf_13 rfl ?_
    refine E_iload_n d_TM_swaysOf_14 rfl ?_
    refine E_iload_n d_TM_swaysOf_15 rfl ?_
    refine E_iload_n d_TM_swaysOf_16 rfl ?_
    refine E_V3 (sp_TM_name hM hp hf hy) d_TM_swaysOf_17 ml_TM_273 cb_TM_name cv_TM_name (by exact ⟨by decide, rfl⟩) ⟨by decide, rfl⟩ ⟨by decide, by decide⟩ rfl (Nat.le_of_ble_eq_true rfl) (Nat.le_of_ble_eq_true rfl) (kV fun M1 hc => ?_)
    obtain ⟨hNm, hS1⟩ := hc
    refine E_iload d_TM_swaysOf_20 rfl ?_
    refine E_iconst (v := (-1)) d_TM_swaysOf_22 rfl ?_
    first | (with_reducible refine E_isN2 ?_; refine E_icmp_ne 30 d_TM_swaysOf_23 rfl (nb_ne fun h23 => ?_) (nb_eq (by omega) (by omega) fun h23 => ?_)) | refine E_icmp_ne 30 d_TM_swaysOf_23 rfl (fun h23 => ?_) (fun h23 => ?_)
    · exfalso; exact h23 rfl
    refine E_iconst (v := nI 0) d_TM_swaysOf_26 rfl ?_
    refine E_goto 48 d_TM_swaysOf_27 rfl ?_
    refine E_retI d_TM_swaysOf_48 rfl ?_
    exact ⟨rfl, hS1⟩
  | some t =>
    have ht2 := hwr t rfl
    have hw : WTx (txAt c t) := hM.w.text _ (getD_mem ht2)
    have h4 := hM.w.texts
    rw [show enO (some t) = nI t from rfl] at hru
    rw [txO_some ht2]
    show E _ _ _ _ _ _ _ _ _ (QI GM fun r M' => r = iI (match (txAt c t).sways with | none => 0 | some q => clampZ (worthR q.1 (nmOf c c.now p f y) c.now) (-2) 2) ∧ Sx SY M M')
    cases hcl : clA (txAt c t) 1 (txAt c t).clauses.length 0 with
    | zero =>
      rw [(clA_sways hw).mp hcl]
      first | refine E_aload_n d_TM_swaysOf_0 rfl ?_ | refine E_aload_nN d_TM_swaysOf_0 rfl ?_
      first | refine E_aload_n d_TM_swaysOf_1 rfl ?_ | refine E_aload_nN d_TM_swaysOf_1 rfl ?_
      refine E_getR (q := 1) d_TM_swaysOf_2 gf_TM_7 (by exact ⟨by decide, rfl⟩) (by exact hR _ rfl) ?_
      refine E_iconst (v := nI 2) d_TM_swaysOf_5 rfl ?_
      refine E_iald d_TM_swaysOf_6 (by exact ⟨by decide, rfl⟩) (by exact ⟨by with_reducible rfl, by omega, by decide⟩) (by exact hru) ?_
      refine E_iconst (v := nI 1) d_TM_swaysOf_7 rfl ?_
      refine E_V2 (sp_TM_clauseOf hM ht2 (by decide)) d_TM_swaysOf_8 ml_TM_270 cb_TM_clauseOf cv_TM_clauseOf (by exact ⟨by decide, rfl⟩) ⟨by decide, rfl⟩ ⟨by decide, by decide⟩ rfl (Nat.le_of_ble_eq_true rfl) (Nat.le_of_ble_eq_true rfl) (kI fun r1 M1 hc => ?_)
      obtain ⟨rfl, rfl⟩ := hc; rw [hcl]
      refine E_istore_4 d_TM_swaysOf_11 rfl ?_
      first | refine E_aload_n d_TM_swaysOf_13 rfl ?_ | refine E_aload_nN d_TM_swaysOf_13 rfl ?_
      refine E_iload_n d_TM_swaysOf_14 rfl ?_
      refine E_iload_n d_TM_swaysOf_15 rfl ?_
      refine E_iload_n d_TM_swaysOf_16 rfl ?_
      refine E_V3 (sp_TM_name hM hp hf hy) d_TM_swaysOf_17 ml_TM_273 cb_TM_name cv_TM_name (by exact ⟨by decide, rfl⟩) ⟨by decide, rfl⟩ ⟨by decide, by decide⟩ rfl (Nat.le_of_ble_eq_true rfl) (Nat.le_of_ble_eq_true rfl) (kV fun M1 hc => ?_)
      obtain ⟨hNm, hS1⟩ := hc
      refine E_iload d_TM_swaysOf_20 rfl ?_
      refine E_iconst (v := (-1)) d_TM_swaysOf_22 rfl ?_
      first | (with_reducible refine E_isN2 ?_; refine E_icmp_ne 30 d_TM_swaysOf_23 rfl (nb_ne fun h23 => ?_) (nb_eq (by omega) (by omega) fun h23 => ?_)) | refine E_icmp_ne 30 d_TM_swaysOf_23 rfl (fun h23 => ?_) (fun h23 => ?_)
      · exfalso; exact h23 rfl
      refine E_iconst (v := nI 0) d_TM_swaysOf_26 rfl ?_
      refine E_goto 48 d_TM_swaysOf_27 rfl ?_
      refine E_retI d_TM_swaysOf_48 rfl ?_
      exact ⟨rfl, hS1⟩
    | succ k =>
      have hat := clA_at _ _ (show clA (txAt c t) 1 (txAt c t).clauses.length 0 ≠ 0 by rw [hcl]; exact Nat.succ_ne_zero _)
      rw [hcl, Nat.add_sub_cancel] at hat
      have hk24 := hw.1
      have hk1 : k < (txAt c t).clauses.length := by have := hat.2.1; omega
      have hs : ∃ q, (txAt c t).sways = some q := by
        cases hs : (txAt c t).sways with
        | none => rw [(clA_sways hw).mpr hs] at hcl; exact absurd hcl (by omega)
        | some q => exact ⟨q, rfl⟩
      obtain ⟨q, hs⟩ := hs
      rw [hs]
      first | refine E_aload_n d_TM_swaysOf_0 rfl ?_ | refine E_aload_nN d_TM_swaysOf_0 rfl ?_
      first | refine E_aload_n d_TM_swaysOf_1 rfl ?_ | refine E_aload_nN d_TM_swaysOf_1 rfl ?_
      refine E_getR (q := 1) d_TM_swaysOf_2 gf_TM_7 (by exact ⟨by decide, rfl⟩) (by exact hR _ rfl) ?_
      refine E_iconst (v := nI 2) d_TM_swaysOf_5 rfl ?_
      refine E_iald d_TM_swaysOf_6 (by exact ⟨by decide, rfl⟩) (by exact ⟨by with_reducible rfl, by omega, by decide⟩) (by exact hru) ?_
      refine E_iconst (v := nI 1) d_TM_swaysOf_7 rfl ?_
      refine E_V2 (sp_TM_clauseOf hM ht2 (by decide)) d_TM_swaysOf_8 ml_TM_270 cb_TM_clauseOf cv_TM_clauseOf (by exact ⟨by decide, rfl⟩) ⟨by decide, rfl⟩ ⟨by decide, by decide⟩ rfl (Nat.le_of_ble_eq_true rfl) (Nat.le_of_ble_eq_true rfl) (kI fun r1 M1 hc => ?_)
      obtain ⟨rfl, rfl⟩ := hc; rw [hcl, show pM (k + 1) = nI k from rfl]
      refine E_istore_4 d_TM_swaysOf_11 rfl ?_
      first | refine E_aload_n d_TM_swaysOf_13 rfl ?_ | refine E_aload_nN d_TM_swaysOf_13 rfl ?_
      refine E_iload_n d_TM_swaysOf_14 rfl ?_
      refine E_iload_n d_TM_swaysOf_15 rfl ?_
      refine E_iload_n d_TM_swaysOf_16 rfl ?_
      refine E_V3 (sp_TM_name hM hp hf hy) d_TM_swaysOf_17 ml_TM_273 cb_TM_name cv_TM_name (by exact ⟨by decide, rfl⟩) ⟨by decide, rfl⟩ ⟨by decide, by decide⟩ rfl (Nat.le_of_ble_eq_true rfl) (Nat.le_of_ble_eq_true rfl) (kV fun M1 hc => ?_)
      obtain ⟨hNm, hS1⟩ := hc
      have hM1 := hM.sy hS1
      have hR := hM1.R
      have hL0 : RepLaw (txAt c t).sways (mI M1 3) t (681 * t + 1 + 3 * k) := ((hM1.T t ht2).2 k hk1).2.2.1 hat.2.2
      rw [hs] at hL0
      have hru2 : mI M1 1 2 = nI t := by rw [hM1.A.ruling, ← hA.ruling]; exact hru
      refine E_iload d_TM_swaysOf_20 rfl ?_
      refine E_iconst (v := (-1)) d_TM_swaysOf_22 rfl ?_
      first | (with_reducible refine E_isN2 ?_; refine E_icmp_ne 30 d_TM_swaysOf_23 rfl (nb_ne fun h23 => ?_) (nb_eq (by omega) (by omega) fun h23 => ?_)) | refine E_icmp_ne 30 d_TM_swaysOf_23 rfl (fun h23 => ?_) (fun h23 => ?_)
      rotate_left
      · exfalso; exact nI_nm1 (by omega) h23
      first | refine E_aload_n d_TM_swaysOf_30 rfl ?_ | refine E_aload_nN d_TM_swaysOf_30 rfl ?_
      first | refine E_aload_n d_TM_swaysOf_31 rfl ?_ | refine E_aload_nN d_TM_swaysOf_31 rfl ?_
      refine E_getR (q := 1) d_TM_swaysOf_32 gf_TM_7 (by exact ⟨by decide, rfl⟩) (by exact hR _ rfl) ?_
      refine E_iconst (v := nI 2) d_TM_swaysOf_35 rfl ?_
      refine E_iald d_TM_swaysOf_36 (by exact ⟨by decide, rfl⟩) (by exact ⟨by with_reducible rfl, by omega, by decide⟩) (by exact hru2) ?_
      refine E_iload d_TM_swaysOf_37 rfl ?_
      refine E_V2 (sp_TM_summedUp hM1 (by omega) (by omega) hL0 (hw.2.2.2.2.2 q hs) hNm (nm_zM hM.w hp hf hy)) d_TM_swaysOf_39 ml_TM_280 cb_TM_summedUp cv_TM_summedUp (by exact ⟨by decide, rfl⟩) ⟨by decide, rfl⟩ ⟨by decide, by decide⟩ rfl (Nat.le_of_ble_eq_true rfl) (Nat.le_of_ble_eq_true rfl) (kL fun r1 M1 hc => ?_)
      obtain ⟨rfl, hzR, hS2⟩ := hc
      have hS3 := hS1.tr (hS2.wk fun _ => SZ.y)
      refine E_bipush (v := (-2)) d_TM_swaysOf_42 (by decide) ?_
      refine E_iconst (v := nI 2) d_TM_swaysOf_44 rfl ?_
      refine E_S3 (sp_TM_held2 hzR.b) d_TM_swaysOf_45 ml_TM_286 cb_TM_held cs_TM_held ⟨by decide, by decide⟩ rfl (Nat.le_of_ble_eq_true rfl) (Nat.le_of_ble_eq_true rfl) (kI fun r1 M1 hc => ?_)
      obtain ⟨rfl, rfl⟩ := hc
      refine E_retI d_TM_swaysOf_48 rfl ?_
      exact ⟨rfl, hS3⟩
