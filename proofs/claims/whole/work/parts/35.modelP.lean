def countN (c : Cr) (t f : Nat) : Nat := cnt (fun p => isYes c c.now (some (txAt c t)) p f) c.now.people
theorem lp_TM_countBy {c : Cr} {M0 : Mem} {t f : Nat} (ht : t < c.texts.length) (hf : f ≤ 8) : ∀ (k p : Nat), p + k = c.now.people → ∀ M, HM c M → Sx SY M0 M → E 4 0 0 Y_TM_countBy 5 [some (.ref 0), some (.int (nI t)), some (.int (nI f)), some (.int (nI (cnt (fun p => isYes c c.now (some (txAt c t)) p f) p))), some (.int (nI p))] [] GM M (QI GM fun r M' => r = nI (countN c t f) ∧ Sx SY M0 M') := by
  intro k
  induction k with
  | zero =>
    intro p hp M hM hX
    have hR := hM.R
    have hA := hM.A
    have hp8 := hM.w.p8
    have hp2 : p = c.now.people := by omega
    subst hp2
    refine E_iload d_TM_countBy_5 rfl ?_
    first | refine E_aload_n d_TM_countBy_7 rfl ?_ | refine E_aload_nN d_TM_countBy_7 rfl ?_
    refine E_getR (q := 1) d_TM_countBy_8 gf_TM_7 (by exact ⟨by decide, rfl⟩) (by exact hR _ rfl) ?_
    refine E_iconst (v := nI 0) d_TM_countBy_11 rfl ?_
    refine E_iald d_TM_countBy_12 (by exact ⟨by decide, rfl⟩) (by exact ⟨by with_reducible rfl, by omega, by decide⟩) (by first | exact hA.people | exact hA.texts | rfl) ?_
    first | (with_reducible refine E_isN2 ?_; refine E_icmp_ge 41 d_TM_countBy_13 rfl (nb_le (by omega) (by omega) fun h13 => ?_) (nb_nle (by omega) (by omega) fun h13 => ?_)) | refine E_icmp_ge 41 d_TM_countBy_13 rfl (fun h13 => ?_) (fun h13 => ?_)
    rotate_left
    · exfalso; omega
    refine E_iload_n d_TM_countBy_41 rfl ?_
    refine E_retI d_TM_countBy_42 rfl ?_
    exact ⟨rfl, hX⟩
  | succ k ih =>
    intro p hp M hM hX
    have hR := hM.R
    have hA := hM.A
    have hp8 := hM.w.p8
    have eT : txO c (some t) = some (txAt c t) := txO_some ht
    have e : cnt (fun p => isYes c c.now (some (txAt c t)) p f) (p + 1) = cnt (fun p => isYes c c.now (some (txAt c t)) p f) p + (if isYes c c.now (some (txAt c t)) p f = true then 1 else 0) := rfl
    refine E_iload d_TM_countBy_5 rfl ?_
    first | refine E_aload_n d_TM_countBy_7 rfl ?_ | refine E_aload_nN d_TM_countBy_7 rfl ?_
    refine E_getR (q := 1) d_TM_countBy_8 gf_TM_7 (by exact ⟨by decide, rfl⟩) (by exact hR _ rfl) ?_
    refine E_iconst (v := nI 0) d_TM_countBy_11 rfl ?_
    refine E_iald d_TM_countBy_12 (by exact ⟨by decide, rfl⟩) (by exact ⟨by with_reducible rfl, by omega, by decide⟩) (by first | exact hA.people | exact hA.texts | rfl) ?_
    first | (with_reducible refine E_isN2 ?_; refine E_icmp_ge 41 d_TM_countBy_13 rfl (nb_le (by omega) (by omega) fun h13 => ?_) (nb_nle (by omega) (by omega) fun h13 => ?_)) | refine E_icmp_ge 41 d_TM_countBy_13 rfl (fun h13 => ?_) (fun h13 => ?_)
    · exfalso; omega
    refine E_iload_n d_TM_countBy_16 rfl ?_
    first | refine E_aload_n d_TM_countBy_17 rfl ?_ | refine E_aload_nN d_TM_countBy_17 rfl ?_
    refine E_iload_n d_TM_countBy_18 rfl ?_
    refine E_iload d_TM_countBy_19 rfl ?_
    refine E_iload_n d_TM_countBy_21 rfl ?_
    refine E_V3 (sp_TM_isYesBy (t := some t) hM (fun n q => by rw [← Option.some.inj q]; exact ht) (by omega) hf) d_TM_countBy_22 ml_TM_283 cb_TM_isYesBy cv_TM_isYesBy (by exact ⟨by decide, rfl⟩) ⟨by decide, rfl⟩ ⟨by decide, by decide⟩ rfl (Nat.le_of_ble_eq_true rfl) (Nat.le_of_ble_eq_true rfl) (kI fun r1 M1 hc => ?_)
    obtain ⟨rfl, hS1⟩ := hc; rw [eT]
    first | (with_reducible refine E_isP ?_; refine E_if_eq 32 d_TM_countBy_25 rfl (pb_0 fun h25 => ?_) (pb_1 fun h25 => ?_)) | (with_reducible refine E_isN1 ?_; refine E_if_eq 32 d_TM_countBy_25 rfl (nz_eq (by omega) fun h25 => ?_) (nz_ne fun h25 => ?_)) | refine E_if_eq 32 d_TM_countBy_25 rfl (fun h25 => ?_) (fun h25 => ?_)
    · refine E_iconst (v := nI 0) d_TM_countBy_32 rfl ?_
      first | (with_reducible refine E_isN2 ?_; refine E_iaddN d_TM_countBy_33 ?_) | refine E_iadd d_TM_countBy_33 ?_
      refine E_istore_3 d_TM_countBy_34 rfl ?_
      first | (with_reducible refine E_isL4 ?_; refine E_iincN4 (m := 1) d_TM_countBy_35 rfl rfl ?_) | refine E_iinc_4 d_TM_countBy_35 rfl rfl ?_
      refine E_goto 5 d_TM_countBy_38 rfl ?_
      refine E_eqL ?_ (ih (p + 1) (by omega) _ (hM.sy hS1) (hX.tr hS1))
      rw [e]
      first | rw [if_pos h25] | rw [if_neg h25]
    · refine E_iconst (v := nI 1) d_TM_countBy_28 rfl ?_
      refine E_goto 33 d_TM_countBy_29 rfl ?_
      first | (with_reducible refine E_isN2 ?_; refine E_iaddN d_TM_countBy_33 ?_) | refine E_iadd d_TM_countBy_33 ?_
      refine E_istore_3 d_TM_countBy_34 rfl ?_
      first | (with_reducible refine E_isL4 ?_; refine E_iincN4 (m := 1) d_TM_countBy_35 rfl rfl ?_) | refine E_iinc_4 d_TM_countBy_35 rfl rfl ?_
      refine E_goto 5 d_TM_countBy_38 rfl ?_
      refine E_eqL ?_ (ih (p + 1) (by omega) _ (hM.sy hS1) (hX.tr hS1))
      rw [e]
      first | rw [if_pos h25] | rw [if_neg h25]
theorem sp_TM_countBy {c : Cr} {M : Mem} {t f : Nat} (hM : HM c M) (ht : t < c.texts.length) (hf : f ≤ 8) : E 4 0 0 Y_TM_countBy 0 [some (.ref 0), some (.int (nI t)), some (.int (nI f)), none, none] [] GM M (QI GM fun r M' => r = nI (countN c t f) ∧ Sx SY M M') := by
  refine E_iconst (v := nI 0) d_TM_countBy_0 rfl ?_
  refine E_istore_3 d_TM_countBy_1 rfl ?_
  refine E_iconst (v := nI 0) d_TM_countBy_2 rfl ?_
  refine E_istore_4 d_TM_countBy_3 rfl ?_
  exact lp_TM_countBy ht hf c.now.people 0 (Nat.zero_add _) M hM Sx.rf
def unlA (c : Cr) (f : Nat) : Nat → Nat
  | 0 => 0
  | t + 1 => unlA c f t ||| 2 ^ countN c t f
def unlN (c : Cr) (f : Nat) : Nat := pc9 (unlA c f c.texts.length)
def partA (c : Cr) : Nat → Nat
  | 0 => 0
  | f + 1 => if unlN c (partA c f) < unlN c (f + 1) then f + 1 else partA c f
def ans_part (c : Cr) : Int32 := nI (partA c c.now.people)
theorem countN_le (c : Cr) (t f : Nat) : countN c t f ≤ c.now.people := cnt_le _ _
theorem unlA_lt {c : Cr} (h : Wf c) (f : Nat) : ∀ t, unlA c f t < 512 := by
  intro t
  induction t with
  | zero => exact (show 0 < 512 by decide)
  | succ t ih => exact or_lt (n := 9) ih (Nat.pow_lt_pow_right (by decide) (by have := countN_le c t f; have := h.p8; omega))
theorem lp_TM_unlikeBy {c : Cr} {M0 : Mem} {f : Nat} (hf : f ≤ 8) : ∀ (k t : Nat), t + k = c.texts.length → ∀ M, HM c M → Sx SY M0 M → E 5 0 0 Y_TM_unlikeBy 4 [some (.ref 0), some (.int (nI f)), some (.int (nI (unlA c f t))), some (.int (nI t))] [] GM M (QI GM fun r M' => r = nI (unlN c f) ∧ Sx SY M0 M') := by
  intro k
  induction k with
  | zero =>
    intro t ht M hM hX
    have hR := hM.R
    have hA := hM.A
    have h4 := hM.w.texts
    have ht2 : t = c.texts.length := by omega
    subst ht2
    refine E_iload_n d_TM_unlikeBy_4 rfl ?_
    first | refine E_aload_n d_TM_unlikeBy_5 rfl ?_ | refine E_aload_nN d_TM_unlikeBy_5 rfl ?_
    refine E_getR (q := 1) d_TM_unlikeBy_6 gf_TM_7 (by exact ⟨by decide, rfl⟩) (by exact hR _ rfl) ?_
    refine E_iconst (v := nI 1) d_TM_unlikeBy_9 rfl ?_
    refine E_iald d_TM_unlikeBy_10 (by exact ⟨by decide, rfl⟩) (by exact ⟨by with_reducible rfl, by omega, by decide⟩) (by first | exact hA.people | exact hA.texts | rfl) ?_
    first | (with_reducible refine E_isN2 ?_; refine E_icmp_ge 31 d_TM_unlikeBy_11 rfl (nb_le (by omega) (by omega) fun h11 => ?_) (nb_nle (by omega) (by omega) fun h11 => ?_)) | refine E_icmp_ge 31 d_TM_unlikeBy_11 rfl (fun h11 => ?_) (fun h11 => ?_)
    rotate_left
    · exfalso; omega
    refine E_iload_n d_TM_unlikeBy_31 rfl ?_
    refine E_S1 (sp_TM_bits _ (unlA_lt hM.w f _)) d_TM_unlikeBy_32 ml_TM_267 cb_TM_bits cs_TM_bits ⟨by decide, by decide⟩ rfl (Nat.le_of_ble_eq_true rfl) (Nat.le_of_ble_eq_true rfl) (kI fun r1 M1 hc => ?_)
    obtain ⟨rfl, rfl⟩ := hc
    refine E_retI d_TM_unlikeBy_35 rfl ?_
    exact ⟨rfl, hX⟩
  | succ k ih =>
    intro t ht M hM hX
    have hR := hM.R
    have hA := hM.A
    have h4 := hM.w.texts
    have hp8 := hM.w.p8
    have hcn := countN_le c t f
    refine E_iload_n d_TM_unlikeBy_4 rfl ?_
    first | refine E_aload_n d_TM_unlikeBy_5 rfl ?_ | refine E_aload_nN d_TM_unlikeBy_5 rfl ?_
    refine E_getR (q := 1) d_TM_unlikeBy_6 gf_TM_7 (by exact ⟨by decide, rfl⟩) (by exact hR _ rfl) ?_
    refine E_iconst (v := nI 1) d_TM_unlikeBy_9 rfl ?_
    refine E_iald d_TM_unlikeBy_10 (by exact ⟨by decide, rfl⟩) (by exact ⟨by with_reducible rfl, by omega, by decide⟩) (by first | exact hA.people | exact hA.texts | rfl) ?_
    first | (with_reducible refine E_isN2 ?_; refine E_icmp_ge 31 d_TM_unlikeBy_11 rfl (nb_le (by omega) (by omega) fun h11 => ?_) (nb_nle (by omega) (by omega) fun h11 => ?_)) | refine E_icmp_ge 31 d_TM_unlikeBy_11 rfl (fun h11 => ?_) (fun h11 => ?_)
    · exfalso; omega
    refine E_iload_n d_TM_unlikeBy_14 rfl ?_
    refine E_iconst (v := nI 1) d_TM_unlikeBy_15 rfl ?_
    first | refine E_aload_n d_TM_unlikeBy_16 rfl ?_ | refine E_aload_nN d_TM_unlikeBy_16 rfl ?_
    refine E_iload_n d_TM_unlikeBy_17 rfl ?_
    refine E_iload_n d_TM_unlikeBy_18 rfl ?_
    refine E_V2 (sp_TM_countBy hM (by omega) hf) d_TM_unlikeBy_19 ml_TM_422 cb_TM_countBy cv_TM_countBy (by exact ⟨by decide, rfl⟩) ⟨by decide, rfl⟩ ⟨by decide, by decide⟩ rfl (Nat.le_of_ble_eq_true rfl) (Nat.le_of_ble_eq_true rfl) (kI fun r1 M1 hc => ?_)
    obtain ⟨rfl, hS1⟩ := hc
    first | (with_reducible refine E_isN2 ?_; first | refine E_ishl1 d_TM_unlikeBy_22 (by omega) ?_ | refine E_ishlN d_TM_unlikeBy_22 (by omega) (by omega) ?_) | refine E_ishl d_TM_unlikeBy_22 ?_
    first | (with_reducible refine E_isN2 ?_; refine E_iorN d_TM_unlikeBy_23 ?_) | refine E_ior d_TM_unlikeBy_23 ?_
    refine E_istore_2 d_TM_unlikeBy_24 rfl ?_
    first | (with_reducible refine E_isL3 ?_; refine E_iincN3 (m := 1) d_TM_unlikeBy_25 rfl rfl ?_) | refine E_iinc_3 d_TM_unlikeBy_25 rfl rfl ?_
    refine E_goto 4 d_TM_unlikeBy_28 rfl ?_
    exact ih (t + 1) (by omega) _ (hM.sy hS1) (hX.tr hS1)
theorem sp_TM_unlikeBy {c : Cr} {M : Mem} {f : Nat} (hM : HM c M) (hf : f ≤ 8) : E 5 0 0 Y_TM_unlikeBy 0 [some (.ref 0), some (.int (nI f)), none, none] [] GM M (QI GM fun r M' => r = nI (unlN c f) ∧ Sx SY M M') := by
  refine E_iconst (v := nI 0) d_TM_unlikeBy_0 rfl ?_
  refine E_istore_2 d_TM_unlikeBy_1 rfl ?_
  refine E_iconst (v := nI 0) d_TM_unlikeBy_2 rfl ?_
  refine E_istore_3 d_TM_unlikeBy_3 rfl ?_
  exact lp_TM_unlikeBy hf c.texts.length 0 (Nat.zero_add _) M hM Sx.rf
theorem unlN_le {c : Cr} (h : Wf c) (f : Nat) : unlN c f ≤ 9 := pc9_le9 (unlA_lt h f _)
theorem partA_le (c : Cr) : ∀ f, partA c f ≤ f := by
  intro f
  induction f with
  | zero => exact Nat.le_refl _
  | succ f ih => rw [partA]; split <;> omega
theorem lp_TM_part {c : Cr} {M0 : Mem} : ∀ (k f : Nat), f + k = c.now.people → ∀ M, HM c M → Sx SY M0 M → E 6 0 0 Y_TM_part 4 [some (.ref 0), some (.int (nI (partA c f))), some (.int (nI (f + 1)))] [] GM M (QI GM fun r M' => r = ans_part c ∧ Sx SY M0 M') := by
  intro k
  induction k with
  | zero =>
    intro f hf M hM hX
    have hR := hM.R
    have hA := hM.A
    have hp8 := hM.w.p8
    have hf2 : f = c.now.people := by omega
    subst hf2
    refine E_iload_n d_TM_part_4 rfl ?_
    first | refine E_aload_n d_TM_part_5 rfl ?_ | refine E_aload_nN d_TM_part_5 rfl ?_
    refine E_getR (q := 1) d_TM_part_6 gf_TM_7 (by exact ⟨by decide, rfl⟩) (by exact hR _ rfl) ?_
    refine E_iconst (v := nI 0) d_TM_part_9 rfl ?_
    refine E_iald d_TM_part_10 (by exact ⟨by decide, rfl⟩) (by exact ⟨by with_reducible rfl, by omega, by decide⟩) (by first | exact hA.people | exact hA.texts | rfl) ?_
    first | (with_reducible refine E_isN2 ?_; refine E_icmp_gt 35 d_TM_part_11 rfl (nb_lt (by omega) (by omega) fun h11 => ?_) (nb_nlt (by omega) (by omega) fun h11 => ?_)) | refine E_icmp_gt 35 d_TM_part_11 rfl (fun h11 => ?_) (fun h11 => ?_)
    rotate_left
    · exfalso; omega
    refine E_iload_n d_TM_part_35 rfl ?_
    refine E_retI d_TM_part_36 rfl ?_
    exact ⟨rfl, hX⟩
  | succ k ih =>
    intro f hf M hM hX
    have hR := hM.R
    have hA := hM.A
    have hp8 := hM.w.p8
    have hb := partA_le c f
    have u1 := unlN_le hM.w (f + 1)
    have u2 := unlN_le hM.w (partA c f)
    have e : partA c (f + 1) = if unlN c (partA c f) < unlN c (f + 1) then f + 1 else partA c f := rfl
    refine E_iload_n d_TM_part_4 rfl ?_
    first | refine E_aload_n d_TM_part_5 rfl ?_ | refine E_aload_nN d_TM_part_5 rfl ?_
    refine E_getR (q := 1) d_TM_part_6 gf_TM_7 (by exact ⟨by decide, rfl⟩) (by exact hR _ rfl) ?_
    refine E_iconst (v := nI 0) d_TM_part_9 rfl ?_
    refine E_iald d_TM_part_10 (by exact ⟨by decide, rfl⟩) (by exact ⟨by with_reducible rfl, by omega, by decide⟩) (by first | exact hA.people | exact hA.texts | rfl) ?_
    first | (with_reducible refine E_isN2 ?_; refine E_icmp_gt 35 d_TM_part_11 rfl (nb_lt (by omega) (by omega) fun h11 => ?_) (nb_nlt (by omega) (by omega) fun h11 => ?_)) | refine E_icmp_gt 35 d_TM_part_11 rfl (fun h11 => ?_) (fun h11 => ?_)
    · exfalso; omega
    first | refine E_aload_n d_TM_part_14 rfl ?_ | refine E_aload_nN d_TM_part_14 rfl ?_
    refine E_iload_n d_TM_part_15 rfl ?_
    refine E_V1 (sp_TM_unlikeBy hM (by omega)) d_TM_part_16 ml_TM_425 cb_TM_unlikeBy cv_TM_unlikeBy (by exact ⟨by decide, rfl⟩) ⟨by decide, rfl⟩ ⟨by decide, by decide⟩ rfl (Nat.le_of_ble_eq_true rfl) (Nat.le_of_ble_eq_true rfl) (kI fun r1 M1 hc => ?_)
    obtain ⟨rfl, hS1⟩ := hc
    have hM1 := hM.sy hS1
    have hX1 := hX.tr hS1
    first | refine E_aload_n d_TM_part_19 rfl ?_ | refine E_aload_nN d_TM_part_19 rfl ?_
    refine E_iload_n d_TM_part_20 rfl ?_
    refine E_V1 (sp_TM_unlikeBy hM1 (by omega)) d_TM_part_21 ml_TM_425 cb_TM_unlikeBy cv_TM_unlikeBy (by exact ⟨by decide, rfl⟩) ⟨by decide, rfl⟩ ⟨by decide, by decide⟩ rfl (Nat.le_of_ble_eq_true rfl) (Nat.le_of_ble_eq_true rfl) (kI fun r1 M1 hc => ?_)
    obtain ⟨rfl, hS2⟩ := hc
    have hM1 := hM1.sy hS2
    have hX1 := hX1.tr hS2
    first | (with_reducible refine E_isN2 ?_; refine E_icmp_le 29 d_TM_part_24 rfl (nb_le (by omega) (by omega) fun h24 => ?_) (nb_nle (by omega) (by omega) fun h24 => ?_)) | refine E_icmp_le 29 d_TM_part_24 rfl (fun h24 => ?_) (fun h24 => ?_)
    · first | (with_reducible refine E_isL2 ?_; refine E_iincN2 (m := 1) d_TM_part_29 rfl rfl ?_) | refine E_iinc_2 d_TM_part_29 rfl rfl ?_
      refine E_goto 4 d_TM_part_32 rfl ?_
      refine E_eqL ?_ (ih (f + 1) (by omega) _ hM1 hX1)
      rw [e]
      first | rw [if_pos h24] | rw [if_neg (Nat.not_lt.mpr h24)]
    · refine E_iload_n d_TM_part_27 rfl ?_
      refine E_istore_1 d_TM_part_28 rfl ?_
      first | (with_reducible refine E_isL2 ?_; refine E_iincN2 (m := 1) d_TM_part_29 rfl rfl ?_) | refine E_iinc_2 d_TM_part_29 rfl rfl ?_
      refine E_goto 4 d_TM_part_32 rfl ?_
      refine E_eqL ?_ (ih (f + 1) (by omega) _ hM1 hX1)
      rw [e]
      first | rw [if_pos h24] | rw [if_neg (Nat.not_lt.mpr h24)]
theorem sp_TM_part {c : Cr} {M : Mem} (hM : HM c M) : E 6 0 0 Y_TM_part 0 [some (.ref 0), none, none] [] GM M (QI GM fun r M' => r = ans_part c ∧ Sx SY M M') := by
  refine E_iconst (v := nI 0) d_TM_part_0 rfl ?_
  refine E_istore_1 d_TM_part_1 rfl ?_
  refine E_iconst (v := nI 1) d_TM_part_2 rfl ?_
  refine E_istore_2 d_TM_part_3 rfl ?_
  exact lp_TM_part c.now.people 0 (Nat.zero_add _) M hM Sx.rf
