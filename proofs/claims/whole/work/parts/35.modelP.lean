def countN (c : Cr) (t f : Nat) : Nat := cnt (fun p => isYes c c.now (some (txAt c t)) p f) c.now.people
theorem lp_TM_countBy {c : Cr} {M0 : Mem} {t f : Nat} (ht : t < c.texts.length) (hf : f ≤ 8) : ∀ (k p : Nat), p + k = c.now.people → ∀ M, HM c M → Sx SY M0 M → E 4 0 0 Y_TM_countBy 5 [some (.ref 0), some (.int (nI t)), some (.int (nI f)), some (.int (nI (cnt (fun p => isYes c c.now (some (txAt c t)) p f) p))), some (.int (nI p))] [] GM M (QI GM fun r M' => r = nI (countN c t f) ∧ Sx SY M0 M') := by
  intro k
  induction k with
  | zero =>
    intro p hp M hM hX
    have hR := hM.R
    have hA := hM.A
    have hp8 := hM.w.p8
    have hp2 : p = c.now.people := by omega
    subst hp2
    refine E_iload d_TM_countBy_5 rfl ?_
    first | refine E_aload_n d_TM_countBy_7 rfl ?_ | refine E_aload_nN d_TM_countBy_7 rfl ?_
    refine E_getR (q := 1) d_TM_countBy_8 gf_TM_7 (by exact ⟨by decide, rfl⟩) (by exact hR _ rfl) ?_
    refine E_iconst (v := nI 0) d_TM_countBy_11 rfl ?_
    refine E_iald d_TM_countBy_12 (by exact ⟨by decide, rfl⟩) (by exact ⟨by with_reducible rfl, by omega, by decide⟩) (by first | exact hA.people | exact hA.texts | rfl) ?_
    first | (with_reducible refine E_isN2 ?_; refine E_icmp_ge 41 d_TM_countBy_13 rfl (nb_le (by omega) (by omega) fun h13 => ?_) (nb_nle (by omega) (by omega) fun h13 => ?_)) | refine E_icmp_ge 41 d_TM_countBy_13 rfl (fun h13 => ?_) (fun h13 => ?_)
    rotate_left
    · exfalso; omega
    refine E_iload_n d_TM_countBy_41 rfl ?_
    refine E_retI d_TM_countBy_42 rfl ?_
    exact ⟨rfl, hX⟩
  | succ k ih =>
    intro p hp M hM hX
    have hR := hM.R
    have hA := hM.A
    have hp8 := hM.w.p8
    have eT : txO c (some t) = some (txAt c t) := txO_some ht
    have e : cnt (fun p => isYes c c.now (some (txAt c t)) p f) (p + 1) = cnt (fun p => isYes c c.now (some (txAt c t)) p f) p + (if isYes c c.now (some (txAt c t)) p f = true then 1 else 0) := rfl
    refine E_iload d_TM_countBy_5 rfl ?_
    first | refine E_aload_n d_TM_countBy_7 rfl ?_ | refine E_aload_nN d_TM_countBy_7 rfl ?_
    refine E_getR (q := 1) d_TM_countBy_8 gf_TM_7 (by exact ⟨by decide, rfl⟩) (by exact hR _ rfl) ?_
    refine E_iconst (v := nI 0) d_TM_countBy_11 rfl ?_
    refine E_iald d_TM_countBy_12 (by exact ⟨by decide, rfl⟩) (by exact ⟨by with_reducible rfl, by omega, by decide⟩) (by first | exact hA.people | exact hA.texts | rfl) ?_
    first | (with_reducible refine E_isN2 ?_; refine E_icmp_ge 41 d_TM_countBy_13 rfl (nb_le (by omega) (by omega) fun h13 => ?_) (nb_nle (by omega) (by omega) fun h13 => ?_)) | refine E_icmp_ge 41 d_TM_countBy_13 rfl (fun h13 => ?_) (fun h13 => ?_)
    · exfalso; omega
    refine E_iload_n d_TM_countBy_16 rfl ?_
    first | refine E_aload_n d_TM_countBy_17 rfl ?_ | refine E_aload_nN d_TM_countBy_17 rfl ?_
    refine E_iload_n d_TM_countBy_18 rfl ?_
    refine E_iload d_TM_countBy_19 rfl ?_
    refine E_iload_n d_TM_countBy_21 rfl ?_
    refine E_V3 (sp_TM_isYesBy (t := some t) hM (fun n q => by rw [← Option.some.inj q]; exact ht) (by omega) hf) d_TM_countBy_22 ml_TM_283 cb_TM_isYesBy cv_TM_isYesBy (by exact ⟨by decide, rfl⟩) ⟨by decide, rfl⟩ ⟨by decide, by decide⟩ rfl (Nat.le_of_ble_eq_true rfl) (Nat.le_of_ble_eq_true rfl) (kI fun r1 M1 hc => ?_)
    obtain ⟨rfl, hS1⟩ := hc; rw [eT]
    first | (with_reducible refine E_isP ?_; refine E_if_eq 32 d_TM_countBy_25 rfl (pb_0 fun h25 => ?_) (pb_1 fun h25 => ?_)) | (with_reducible refine E_isN1 ?_; refine E_if_eq 32 d_TM_countBy_25 rfl (nz_eq (by omega) fun h25 => ?_) (nz_ne fun h25 => ?_)) | refine E_if_eq 32 d_TM_countBy_25 rfl (fun h25 => ?_) (fun h25 => ?_)
    · refine E_iconst (v := nI 0) d_TM_countBy_32 rfl ?_
      first | (with_reducible refine E_isN2 ?_; refine E_iaddN d_TM_countBy_33 ?_) | refine E_iadd d_TM_countBy_33 ?_
      refine E_istore_3 d_TM_countBy_34 rfl ?_
      first | (with_reducible refine E_isL4 ?_; refine E_iincN4 (m := 1) d_TM_countBy_35 rfl rfl ?_) | refine E_iinc_4 d_TM_countBy_35 rfl rfl ?_
      refine E_goto 5 d_TM_countBy_38 rfl ?_
      refine E_eqL ?_ (ih (p + 1) (by omega) _ (hM.sy hS1) (hX.tr hS1))
      rw [e]
      first | rw [if_pos h25] | rw [if_neg h25]
    · refine E_iconst (v := nI 1) d_TM_countBy_28 rfl ?_
      refine E_goto 33 d_TM_countBy_29 rfl ?_
      first | (with_reducible refine E_isN2 ?_; refine E_iaddN d_TM_countBy_33 ?_) | refine E_iadd d_TM_countBy_33 ?_
      refine E_istore_3 d_TM_countBy_34 rfl ?_
      first | (with_reducible refine E_isL4 ?_; refine E_iincN4 (m := 1) d_TM_countBy_35 rfl rfl ?_) | refine E_iinc_4 d_TM_countBy_35 rfl rfl ?_
      refine E_goto 5 d_TM_countBy_38 rfl ?_
      refine E_eqL ?_ (ih (p + 1) (by omega) _ (hM.sy hS1) (hX.tr hS1))
      rw [e]
      first | rw [if_pos h25] | rw [if_neg h25]
theorem sp_TM_countBy {c : Cr} {M : Mem} {t f : Nat} (hM : HM c M) (ht : t < c.texts.length) (hf : f ≤ 8) : E 4 0 0 Y_TM_countBy 0 [some (.ref 0), some (.int (nI t)), some (.int (nI f)), none, none] [] GM M (QI GM fun r M' => r = nI (countN c t f) ∧ Sx SY M M') := by
  refine E_iconst (v := nI 0) d_TM_countBy_0 rfl ?_
  refine E_istore_3 d_TM_countBy_1 rfl ?_
  refine E_iconst (v := nI 0) d_TM_countBy_2 rfl ?_
  refine E_istore_4 d_TM_countBy_3 rfl ?_
  exact lp_TM_countBy ht hf c.now.people 0 (Nat.zero_add _) M hM Sx.rf
