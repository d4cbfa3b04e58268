section OuC
variable {c : Cr} {G : Geo} {M : Mem}
theorem sp_Ou_ringThrough (h : OM c G M) {f0 : Nat} (hf : f0 ≤ c.now.people) : E 2 0 0 Y_Ou_ringThrough 0 [some (.ref 216), some (.int (nI f0)), none, none] [] G M (QI G fun r M' => r = nI (ringSz (cm c) f0) ∧ M' = M) := by
  have hp8 := h.2.2.2.p8
  have hG := h.1
  have hO := h.2.2.1
  rw [ringSz_m hp8 (cm_le c) hf]
  have L : ∀ k n, n + k = c.now.people + 1 → ∀ R, ringA (cm c) f0 k (n + 1) = R → E 2 0 0 Y_Ou_ringThrough 4 [some (.ref 216), some (.int (nI f0)), some (.int (nI (itn (cm c) n f0))), some (.int (nI (n + 1)))] [] G M (QI G fun r M' => r = nI R ∧ M' = M) := by
    intro k
    induction k with
    | zero =>
      intro n hn R hv
      rw [ringA] at hv
      subst hv
      refine E_iload_n d_Ou_ringThrough_4 rfl ?_
      first | refine E_aload_n d_Ou_ringThrough_5 rfl ?_ | refine E_aload_nN d_Ou_ringThrough_5 rfl ?_
      refine E_getI d_Ou_ringThrough_6 gf_Ou_31 (by first | exact hG.s (by decide) rfl) (by exact hO.1) ?_
      refine E_iconst (v := nI 1) d_Ou_ringThrough_9 rfl ?_
      first | (with_reducible refine E_isN2 ?_; refine E_iaddN d_Ou_ringThrough_10 ?_) | refine E_iadd d_Ou_ringThrough_10 ?_
      first | (with_reducible refine E_isN2 ?_; refine E_icmp_gt 33 d_Ou_ringThrough_11 rfl (nb_lt (by omega) (by omega) fun h11 => ?_) (nb_nlt (by omega) (by omega) fun h11 => ?_)) | refine E_icmp_gt 33 d_Ou_ringThrough_11 rfl (fun h11 => ?_) (fun h11 => ?_)
      rotate_left
      · exfalso; omega
      refine E_iconst (v := nI 0) d_Ou_ringThrough_33 rfl ?_
      refine E_retI d_Ou_ringThrough_34 rfl ?_
      exact ⟨rfl, rfl⟩
    | succ k ih =>
      intro n hn R hv
      rw [ringA] at hv
      have hle := itn_le (cm_le c) hf n
      have hle2 : cm c (itn (cm c) n f0) ≤ c.now.people := cm_le c _
      have e : itn (cm c) (n + 1) f0 = cm c (itn (cm c) n f0) := rfl
      rw [e] at hv
      refine E_iload_n d_Ou_ringThrough_4 rfl ?_
      first | refine E_aload_n d_Ou_ringThrough_5 rfl ?_ | refine E_aload_nN d_Ou_ringThrough_5 rfl ?_
      refine E_getI d_Ou_ringThrough_6 gf_Ou_31 (by first | exact hG.s (by decide) rfl) (by exact hO.1) ?_
      refine E_iconst (v := nI 1) d_Ou_ringThrough_9 rfl ?_
      first | (with_reducible refine E_isN2 ?_; refine E_iaddN d_Ou_ringThrough_10 ?_) | refine E_iadd d_Ou_ringThrough_10 ?_
      first | (with_reducible refine E_isN2 ?_; refine E_icmp_gt 33 d_Ou_ringThrough_11 rfl (nb_lt (by omega) (by omega) fun h11 => ?_) (nb_nlt (by omega) (by omega) fun h11 => ?_)) | refine E_icmp_gt 33 d_Ou_ringThrough_11 rfl (fun h11 => ?_) (fun h11 => ?_)
      · exfalso; omega
      first | refine E_aload_n d_Ou_ringThrough_14 rfl ?_ | refine E_aload_nN d_Ou_ringThrough_14 rfl ?_
      refine E_iload_n d_Ou_ringThrough_15 rfl ?_
      refine E_V1 (sp_Ou_comesOf h hle) d_Ou_ringThrough_16 ml_Ou_35 cb_Ou_comesOf cv_Ou_comesOf (by first | exact hG.s (by decide) rfl) ⟨by decide, rfl⟩ ⟨by decide, by decide⟩ rfl (Nat.le_of_ble_eq_true rfl) (Nat.le_of_ble_eq_true rfl) (kI fun r1 M1 hc => ?_)
      obtain ⟨rfl, rfl⟩ := hc
      refine E_istore_2 d_Ou_ringThrough_19 rfl ?_
      refine E_iload_n d_Ou_ringThrough_20 rfl ?_
      refine E_iload_n d_Ou_ringThrough_21 rfl ?_
      first | (with_reducible refine E_isN2 ?_; refine E_icmp_ne 27 d_Ou_ringThrough_22 rfl (nb_ne fun h22 => ?_) (nb_eq (by omega) (by omega) fun h22 => ?_)) | refine E_icmp_ne 27 d_Ou_ringThrough_22 rfl (fun h22 => ?_) (fun h22 => ?_)
      · first | (with_reducible refine E_isL3 ?_; refine E_iincN3 (m := 1) d_Ou_ringThrough_27 rfl rfl ?_) | refine E_iinc_3 d_Ou_ringThrough_27 rfl rfl ?_
        refine E_goto 4 d_Ou_ringThrough_30 rfl ?_
        rw [if_neg h22] at hv; exact ih (n + 1) (by omega) R hv
      · refine E_iload_n d_Ou_ringThrough_25 rfl ?_
        refine E_retI d_Ou_ringThrough_26 rfl ?_
        rw [if_pos h22] at hv; exact ⟨congrArg nI hv, rfl⟩
  refine E_iload_n d_Ou_ringThrough_0 rfl ?_
  refine E_istore_2 d_Ou_ringThrough_1 rfl ?_
  refine E_iconst (v := nI 1) d_Ou_ringThrough_2 rfl ?_
  refine E_istore_3 d_Ou_ringThrough_3 rfl ?_
  exact L (c.now.people + 1) 0 (Nat.zero_add _) _ rfl
theorem sp_Ou_someOfRing (h : OM c G M) {f0 : Nat} (hf : f0 ≤ c.now.people) : E 2 0 0 Y_Ou_someOfRing 0 [some (.ref 216), some (.int (nI f0)), none, none] [] G M (QI G fun r M' => r = nI (itn (cm c) (c.now.people + 1) f0) ∧ M' = M) := by
  have hp8 := h.2.2.2.p8
  have hG := h.1
  have hO := h.2.2.1
  have L : ∀ k n, n + k = c.now.people + 1 → E 2 0 0 Y_Ou_someOfRing 4 [some (.ref 216), some (.int (nI f0)), some (.int (nI (itn (cm c) n f0))), some (.int (nI n))] [] G M (QI G fun r M' => r = nI (itn (cm c) (c.now.people + 1) f0) ∧ M' = M) := by
    intro k
    induction k with
    | zero =>
      intro n hn
      have hn2 : n = c.now.people + 1 := by omega
      subst hn2
      refine E_iload_n d_Ou_someOfRing_4 rfl ?_
      first | refine E_aload_n d_Ou_someOfRing_5 rfl ?_ | refine E_aload_nN d_Ou_someOfRing_5 rfl ?_
      refine E_getI d_Ou_someOfRing_6 gf_Ou_31 (by first | exact hG.s (by decide) rfl) (by exact hO.1) ?_
      first | (with_reducible refine E_isN2 ?_; refine E_icmp_gt 24 d_Ou_someOfRing_9 rfl (nb_lt (by omega) (by omega) fun h9 => ?_) (nb_nlt (by omega) (by omega) fun h9 => ?_)) | refine E_icmp_gt 24 d_Ou_someOfRing_9 rfl (fun h9 => ?_) (fun h9 => ?_)
      rotate_left
      · exfalso; omega
      refine E_iload_n d_Ou_someOfRing_24 rfl ?_
      refine E_retI d_Ou_someOfRing_25 rfl ?_
      exact ⟨rfl, rfl⟩
    | succ k ih =>
      intro n hn
      have hle := itn_le (cm_le c) hf n
      refine E_iload_n d_Ou_someOfRing_4 rfl ?_
      first | refine E_aload_n d_Ou_someOfRing_5 rfl ?_ | refine E_aload_nN d_Ou_someOfRing_5 rfl ?_
      refine E_getI d_Ou_someOfRing_6 gf_Ou_31 (by first | exact hG.s (by decide) rfl) (by exact hO.1) ?_
      first | (with_reducible refine E_isN2 ?_; refine E_icmp_gt 24 d_Ou_someOfRing_9 rfl (nb_lt (by omega) (by omega) fun h9 => ?_) (nb_nlt (by omega) (by omega) fun h9 => ?_)) | refine E_icmp_gt 24 d_Ou_someOfRing_9 rfl (fun h9 => ?_) (fun h9 => ?_)
      · exfalso; omega
      first | refine E_aload_n d_Ou_someOfRing_12 rfl ?_ | refine E_aload_nN d_Ou_someOfRing_12 rfl ?_
      refine E_iload_n d_Ou_someOfRing_13 rfl ?_
      refine E_V1 (sp_Ou_comesOf h hle) d_Ou_someOfRing_14 ml_Ou_35 cb_Ou_comesOf cv_Ou_comesOf (by first | exact hG.s (by decide) rfl) ⟨by decide, rfl⟩ ⟨by decide, by decide⟩ rfl (Nat.le_of_ble_eq_true rfl) (Nat.le_of_ble_eq_true rfl) (kI fun r1 M1 hc => ?_)
      obtain ⟨rfl, rfl⟩ := hc
      refine E_istore_2 d_Ou_someOfRing_17 rfl ?_
      first | (with_reducible refine E_isL3 ?_; refine E_iincN3 (m := 1) d_Ou_someOfRing_18 rfl rfl ?_) | refine E_iinc_3 d_Ou_someOfRing_18 rfl rfl ?_
      refine E_goto 4 d_Ou_someOfRing_21 rfl ?_
      exact ih (n + 1) (by omega)
  refine E_iload_n d_Ou_someOfRing_0 rfl ?_
  refine E_istore_2 d_Ou_someOfRing_1 rfl ?_
  refine E_iconst (v := nI 0) d_Ou_someOfRing_2 rfl ?_
  refine E_istore_3 d_Ou_someOfRing_3 rfl ?_
  exact L (c.now.people + 1) 0 (Nat.zero_add _)
theorem sp_Ou_ringSize (h : OM c G M) {f0 : Nat} (hf : f0 ≤ c.now.people) : E 3 0 0 Y_Ou_ringSize 0 [some (.ref 216), some (.int (nI f0))] [] G M (QI G fun r M' => r = nI (ringSz (cm c) (endF c f0)) ∧ M' = M) := by
  have hp8 := h.2.2.2.p8
  have hG := h.1
  have e : ringSz (cm c) (itn (cm c) (c.now.people + 1) f0) = ringSz (cm c) (endF c f0) := end_size hp8 (cm_le c) hf
  rw [← e]
  first | refine E_aload_n d_Ou_ringSize_0 rfl ?_ | refine E_aload_nN d_Ou_ringSize_0 rfl ?_
  first | refine E_aload_n d_Ou_ringSize_1 rfl ?_ | refine E_aload_nN d_Ou_ringSize_1 rfl ?_
  refine E_iload_n d_Ou_ringSize_2 rfl ?_
  refine E_V1 (sp_Ou_someOfRing h hf) d_Ou_ringSize_3 ml_Ou_41 cb_Ou_someOfRing cv_Ou_someOfRing (by first | exact hG.s (by decide) rfl) ⟨by decide, rfl⟩ ⟨by decide, by decide⟩ rfl (Nat.le_of_ble_eq_true rfl) (Nat.le_of_ble_eq_true rfl) (kI fun r1 M1 hc => ?_)
  obtain ⟨rfl, rfl⟩ := hc
  refine E_V1 (sp_Ou_ringThrough h (itn_le (cm_le c) hf _)) d_Ou_ringSize_6 ml_Ou_38 cb_Ou_ringThrough cv_Ou_ringThrough (by first | exact hG.s (by decide) rfl) ⟨by decide, rfl⟩ ⟨by decide, by decide⟩ rfl (Nat.le_of_ble_eq_true rfl) (Nat.le_of_ble_eq_true rfl) (kI fun r1 M1 hc => ?_)
  obtain ⟨rfl, rfl⟩ := hc
  refine E_retI d_Ou_ringSize_9 rfl ?_
  exact ⟨rfl, rfl⟩
theorem sp_Ou_ringLowest0 (h : OM c G M) {f0 : Nat} (hf : f0 ≤ c.now.people) : E 3 0 0 Y_Ou_ringLowest 0 [some (.ref 216), some (.int (nI f0)), none, none, none] [] G M (QI G fun r M' => r = nI (lowA (cm c) (itn (cm c) (c.now.people + 1) f0) (c.now.people + 1) 1 (itn (cm c) (c.now.people + 1) f0)) ∧ M' = M) := by
  have hp8 := h.2.2.2.p8
  have hG := h.1
  have hO := h.2.2.1
  have hx : itn (cm c) (c.now.people + 1) f0 ≤ c.now.people := itn_le (cm_le c) hf _
  revert hx
  have hsp := sp_Ou_someOfRing h hf
  revert hsp
  generalize itn (cm c) (c.now.people + 1) f0 = x
  intro hsp hx
  have L : ∀ k n w, n + k = c.now.people + 1 → w ≤ c.now.people → ∀ R, lowA (cm c) x k (n + 1) w = R → E 3 0 0 Y_Ou_ringLowest 11 [some (.ref 216), some (.int (nI f0)), some (.int (nI (itn (cm c) n x))), some (.int (nI w)), some (.int (nI n))] [] G M (QI G fun r M' => r = nI R ∧ M' = M) := by
    intro k
    induction k with
    | zero =>
      intro n w hn hw R hv
      rw [lowA] at hv
      subst hv
      refine E_iload d_Ou_ringLowest_11 rfl ?_
      first | refine E_aload_n d_Ou_ringLowest_13 rfl ?_ | refine E_aload_nN d_Ou_ringLowest_13 rfl ?_
      refine E_getI d_Ou_ringLowest_14 gf_Ou_31 (by first | exact hG.s (by decide) rfl) (by exact hO.1) ?_
      first | (with_reducible refine E_isN2 ?_; refine E_icmp_gt 38 d_Ou_ringLowest_17 rfl (nb_lt (by omega) (by omega) fun h17 => ?_) (nb_nlt (by omega) (by omega) fun h17 => ?_)) | refine E_icmp_gt 38 d_Ou_ringLowest_17 rfl (fun h17 => ?_) (fun h17 => ?_)
      rotate_left
      · exfalso; omega
      refine E_iload_n d_Ou_ringLowest_38 rfl ?_
      refine E_retI d_Ou_ringLowest_39 rfl ?_
      exact ⟨rfl, rfl⟩
    | succ k ih =>
      intro n w hn hw R hv
      rw [lowA] at hv
      have hle := itn_le (cm_le c) hx n
      have hle2 : cm c (itn (cm c) n x) ≤ c.now.people := cm_le c _
      have e : itn (cm c) (n + 1) x = cm c (itn (cm c) n x) := rfl
      rw [e] at hv
      have em : (if nI (cm c (itn (cm c) n x)) < nI w then nI (cm c (itn (cm c) n x)) else nI w) = nI (if cm c (itn (cm c) n x) < w then cm c (itn (cm c) n x) else w) := by
        by_cases q : cm c (itn (cm c) n x) < w
        · rw [if_pos q, if_pos ((nI_ltI (by omega) (by omega)).mpr q)]
        · rw [if_neg q, if_neg (fun r => q ((nI_ltI (by omega) (by omega)).mp r))]
      refine E_iload d_Ou_ringLowest_11 rfl ?_
      first | refine E_aload_n d_Ou_ringLowest_13 rfl ?_ | refine E_aload_nN d_Ou_ringLowest_13 rfl ?_
      refine E_getI d_Ou_ringLowest_14 gf_Ou_31 (by first | exact hG.s (by decide) rfl) (by exact hO.1) ?_
      first | (with_reducible refine E_isN2 ?_; refine E_icmp_gt 38 d_Ou_ringLowest_17 rfl (nb_lt (by omega) (by omega) fun h17 => ?_) (nb_nlt (by omega) (by omega) fun h17 => ?_)) | refine E_icmp_gt 38 d_Ou_ringLowest_17 rfl (fun h17 => ?_) (fun h17 => ?_)
      · exfalso; omega
      first | refine E_aload_n d_Ou_ringLowest_20 rfl ?_ | refine E_aload_nN d_Ou_ringLowest_20 rfl ?_
      refine E_iload_n d_Ou_ringLowest_21 rfl ?_
      refine E_V1 (sp_Ou_comesOf h hle) d_Ou_ringLowest_22 ml_Ou_35 cb_Ou_comesOf cv_Ou_comesOf (by first | exact hG.s (by decide) rfl) ⟨by decide, rfl⟩ ⟨by decide, by decide⟩ rfl (Nat.le_of_ble_eq_true rfl) (Nat.le_of_ble_eq_true rfl) (kI fun r1 M1 hc => ?_)
      obtain ⟨rfl, rfl⟩ := hc
      refine E_istore_2 d_Ou_ringLowest_25 rfl ?_
      refine E_iload_n d_Ou_ringLowest_26 rfl ?_
      refine E_iload_n d_Ou_ringLowest_27 rfl ?_
      refine E_minI d_Ou_ringLowest_28 ml_Ou_44 (by decide) (Nat.le_of_ble_eq_true rfl) ?_
      rw [em]
      refine E_istore_3 d_Ou_ringLowest_31 rfl ?_
      first | (with_reducible refine E_isL4 ?_; refine E_iincN4 (m := 1) d_Ou_ringLowest_32 rfl rfl ?_) | refine E_iinc_4 d_Ou_ringLowest_32 rfl rfl ?_
      refine E_goto 11 d_Ou_ringLowest_35 rfl ?_
      exact ih (n + 1) _ (by omega) (by split <;> omega) R hv
  first | refine E_aload_n d_Ou_ringLowest_0 rfl ?_ | refine E_aload_nN d_Ou_ringLowest_0 rfl ?_
  refine E_iload_n d_Ou_ringLowest_1 rfl ?_
  refine E_V1 (hsp) d_Ou_ringLowest_2 ml_Ou_41 cb_Ou_someOfRing cv_Ou_someOfRing (by first | exact hG.s (by decide) rfl) ⟨by decide, rfl⟩ ⟨by decide, by decide⟩ rfl (Nat.le_of_ble_eq_true rfl) (Nat.le_of_ble_eq_true rfl) (kI fun r1 M1 hc => ?_)
  obtain ⟨rfl, rfl⟩ := hc
  refine E_istore_2 d_Ou_ringLowest_5 rfl ?_
  refine E_iload_n d_Ou_ringLowest_6 rfl ?_
  refine E_istore_3 d_Ou_ringLowest_7 rfl ?_
  refine E_iconst (v := nI 0) d_Ou_ringLowest_8 rfl ?_
  refine E_istore_4 d_Ou_ringLowest_9 rfl ?_
  exact L (c.now.people + 1) 0 x (Nat.zero_add _) hx _ rfl
theorem sp_Ou_ringLowest (h : OM c G M) {f0 : Nat} (hf : f0 ≤ c.now.people) : E 3 0 0 Y_Ou_ringLowest 0 [some (.ref 216), some (.int (nI f0)), none, none, none] [] G M (QI G fun r M' => r = nI (lowN (cm c) (endF c f0)) ∧ M' = M) := by
  have e : lowA (cm c) (itn (cm c) (c.now.people + 1) f0) (c.now.people + 1) 1 (itn (cm c) (c.now.people + 1) f0) = lowN (cm c) (endF c f0) := end_low h.2.2.2.p8 (cm_le c) hf
  rw [← e]
  exact sp_Ou_ringLowest0 h hf
theorem sp_Ou_tillRing (h : OM c G M) {f0 : Nat} (hf : f0 ≤ c.now.people) : E 3 0 0 Y_Ou_tillRing 0 [some (.ref 216), some (.int (nI f0)), none, none] [] G M (QI G fun r M' => r = nI (tillN (cm c) f0) ∧ M' = M) := by
  have hp8 := h.2.2.2.p8
  have hG := h.1
  have hO := h.2.2.1
  obtain ⟨t1, t2, t3⟩ := tillN_at hp8 (cm_le c) hf
  have L : ∀ k n, n + k = tillN (cm c) f0 → E 3 0 0 Y_Ou_tillRing 4 [some (.ref 216), some (.int (nI f0)), some (.int (nI (itn (cm c) n f0))), some (.int (nI n))] [] G M (QI G fun r M' => r = nI (tillN (cm c) f0) ∧ M' = M) := by
    intro k
    induction k with
    | zero =>
      intro n hn
      have hn2 : n = tillN (cm c) f0 := by omega
      have hle := itn_le (cm_le c) hf n
      have hr : ringSz (cm c) (itn (cm c) n f0) ≠ 0 := by rw [hn2]; exact t2
      have hr9 := ringSz_le (cm c) (itn (cm c) n f0)
      refine E_iload_n d_Ou_tillRing_4 rfl ?_
      first | refine E_aload_n d_Ou_tillRing_5 rfl ?_ | refine E_aload_nN d_Ou_tillRing_5 rfl ?_
      refine E_getI d_Ou_tillRing_6 gf_Ou_31 (by first | exact hG.s (by decide) rfl) (by exact hO.1) ?_
      first | (with_reducible refine E_isN2 ?_; refine E_icmp_gt 32 d_Ou_tillRing_9 rfl (nb_lt (by omega) (by omega) fun h9 => ?_) (nb_nlt (by omega) (by omega) fun h9 => ?_)) | refine E_icmp_gt 32 d_Ou_tillRing_9 rfl (fun h9 => ?_) (fun h9 => ?_)
      · exfalso; omega
      first | refine E_aload_n d_Ou_tillRing_12 rfl ?_ | refine E_aload_nN d_Ou_tillRing_12 rfl ?_
      refine E_iload_n d_Ou_tillRing_13 rfl ?_
      refine E_V1 (sp_Ou_ringThrough h hle) d_Ou_tillRing_14 ml_Ou_38 cb_Ou_ringThrough cv_Ou_ringThrough (by first | exact hG.s (by decide) rfl) ⟨by decide, rfl⟩ ⟨by decide, by decide⟩ rfl (Nat.le_of_ble_eq_true rfl) (Nat.le_of_ble_eq_true rfl) (kI fun r1 M1 hc => ?_)
      obtain ⟨rfl, rfl⟩ := hc
      first | (with_reducible refine E_isP ?_; refine E_if_ne 32 d_Ou_tillRing_17 rfl (pb_1 fun h17 => ?_) (pb_0 fun h17 => ?_)) | (with_reducible refine E_isN1 ?_; refine E_if_ne 32 d_Ou_tillRing_17 rfl (nz_ne fun h17 => ?_) (nz_eq (by omega) fun h17 => ?_)) | refine E_if_ne 32 d_Ou_tillRing_17 rfl (fun h17 => ?_) (fun h17 => ?_)
      rotate_left
      · exfalso; omega
      refine E_iload_n d_Ou_tillRing_32 rfl ?_
      refine E_retI d_Ou_tillRing_33 rfl ?_
      exact ⟨congrArg nI hn2, rfl⟩
    | succ k ih =>
      intro n hn
      have hle := itn_le (cm_le c) hf n
      have hr : ringSz (cm c) (itn (cm c) n f0) = 0 := Decidable.byContradiction fun q => by have := t3 n q; omega
      have hr9 := ringSz_le (cm c) (itn (cm c) n f0)
      refine E_iload_n d_Ou_tillRing_4 rfl ?_
      first | refine E_aload_n d_Ou_tillRing_5 rfl ?_ | refine E_aload_nN d_Ou_tillRing_5 rfl ?_
      refine E_getI d_Ou_tillRing_6 gf_Ou_31 (by first | exact hG.s (by decide) rfl) (by exact hO.1) ?_
      first | (with_reducible refine E_isN2 ?_; refine E_icmp_gt 32 d_Ou_tillRing_9 rfl (nb_lt (by omega) (by omega) fun h9 => ?_) (nb_nlt (by omega) (by omega) fun h9 => ?_)) | refine E_icmp_gt 32 d_Ou_tillRing_9 rfl (fun h9 => ?_) (fun h9 => ?_)
      · exfalso; omega
      first | refine E_aload_n d_Ou_tillRing_12 rfl ?_ | refine E_aload_nN d_Ou_tillRing_12 rfl ?_
      refine E_iload_n d_Ou_tillRing_13 rfl ?_
      refine E_V1 (sp_Ou_ringThrough h hle) d_Ou_tillRing_14 ml_Ou_38 cb_Ou_ringThrough cv_Ou_ringThrough (by first | exact hG.s (by decide) rfl) ⟨by decide, rfl⟩ ⟨by decide, by decide⟩ rfl (Nat.le_of_ble_eq_true rfl) (Nat.le_of_ble_eq_true rfl) (kI fun r1 M1 hc => ?_)
      obtain ⟨rfl, rfl⟩ := hc
      first | (with_reducible refine E_isP ?_; refine E_if_ne 32 d_Ou_tillRing_17 rfl (pb_1 fun h17 => ?_) (pb_0 fun h17 => ?_)) | (with_reducible refine E_isN1 ?_; refine E_if_ne 32 d_Ou_tillRing_17 rfl (nz_ne fun h17 => ?_) (nz_eq (by omega) fun h17 => ?_)) | refine E_if_ne 32 d_Ou_tillRing_17 rfl (fun h17 => ?_) (fun h17 => ?_)
      · exfalso; omega
      first | refine E_aload_n d_Ou_tillRing_20 rfl ?_ | refine E_aload_nN d_Ou_tillRing_20 rfl ?_
      refine E_iload_n d_Ou_tillRing_21 rfl ?_
      refine E_V1 (sp_Ou_comesOf h hle) d_Ou_tillRing_22 ml_Ou_35 cb_Ou_comesOf cv_Ou_comesOf (by first | exact hG.s (by decide) rfl) ⟨by decide, rfl⟩ ⟨by decide, by decide⟩ rfl (Nat.le_of_ble_eq_true rfl) (Nat.le_of_ble_eq_true rfl) (kI fun r1 M1 hc => ?_)
      obtain ⟨rfl, rfl⟩ := hc
      refine E_istore_2 d_Ou_tillRing_25 rfl ?_
      first | (with_reducible refine E_isL3 ?_; refine E_iincN3 (m := 1) d_Ou_tillRing_26 rfl rfl ?_) | refine E_iinc_3 d_Ou_tillRing_26 rfl rfl ?_
      refine E_goto 4 d_Ou_tillRing_29 rfl ?_
      exact ih (n + 1) (by omega)
  refine E_iload_n d_Ou_tillRing_0 rfl ?_
  refine E_istore_2 d_Ou_tillRing_1 rfl ?_
  refine E_iconst (v := nI 0) d_Ou_tillRing_2 rfl ?_
  refine E_istore_3 d_Ou_tillRing_3 rfl ?_
  exact L (tillN (cm c) f0) 0 (Nat.zero_add _)
theorem sp_Ou_ringCount (h : OM c G M) : E 4 0 0 Y_Ou_ringCount 0 [some (.ref 216), none, none] [] G M (QI G fun r M' => r = ans_rings c ∧ M' = M) := by
  have hp8 := h.2.2.2.p8
  have hG := h.1
  have hO := h.2.2.1
  have L : ∀ k f, f + k = c.now.people + 1 → E 4 0 0 Y_Ou_ringCount 4 [some (.ref 216), some (.int (nI (cnt (fun f => decide (ringSz (cm c) f ≠ 0) && decide (lowN (cm c) f = f)) f))), some (.int (nI f))] [] G M (QI G fun r M' => r = ans_rings c ∧ M' = M) := by
    intro k
    induction k with
    | zero =>
      intro f hf
      have hf2 : f = c.now.people + 1 := by omega
      subst hf2
      refine E_iload_n d_Ou_ringCount_4 rfl ?_
      first | refine E_aload_n d_Ou_ringCount_5 rfl ?_ | refine E_aload_nN d_Ou_ringCount_5 rfl ?_
      refine E_getI d_Ou_ringCount_6 gf_Ou_31 (by first | exact hG.s (by decide) rfl) (by exact hO.1) ?_
      first | (with_reducible refine E_isN2 ?_; refine E_icmp_gt 38 d_Ou_ringCount_9 rfl (nb_lt (by omega) (by omega) fun h9 => ?_) (nb_nlt (by omega) (by omega) fun h9 => ?_)) | refine E_icmp_gt 38 d_Ou_ringCount_9 rfl (fun h9 => ?_) (fun h9 => ?_)
      rotate_left
      · exfalso; omega
      refine E_iload_n d_Ou_ringCount_38 rfl ?_
      refine E_retI d_Ou_ringCount_39 rfl ?_
      exact ⟨rfl, rfl⟩
    | succ k ih =>
      intro f hf
      have ih2 := ih (f + 1) (by omega)
      have e : cnt (fun f => decide (ringSz (cm c) f ≠ 0) && decide (lowN (cm c) f = f)) (f + 1) = cnt (fun f => decide (ringSz (cm c) f ≠ 0) && decide (lowN (cm c) f = f)) f + (if (decide (ringSz (cm c) f ≠ 0) && decide (lowN (cm c) f = f)) = true then 1 else 0) := rfl
      rw [e] at ih2
      have hr9 := ringSz_le (cm c) f
      have hfp : f ≤ c.now.people := by omega
      by_cases hz : ringSz (cm c) f = 0
      · have i0 : (if (decide (ringSz (cm c) f ≠ 0) && decide (lowN (cm c) f = f)) = true then 1 else 0) = 0 := if_neg (by simp [hz])
        rw [i0] at ih2
        refine E_iload_n d_Ou_ringCount_4 rfl ?_
        first | refine E_aload_n d_Ou_ringCount_5 rfl ?_ | refine E_aload_nN d_Ou_ringCount_5 rfl ?_
        refine E_getI d_Ou_ringCount_6 gf_Ou_31 (by first | exact hG.s (by decide) rfl) (by exact hO.1) ?_
        first | (with_reducible refine E_isN2 ?_; refine E_icmp_gt 38 d_Ou_ringCount_9 rfl (nb_lt (by omega) (by omega) fun h9 => ?_) (nb_nlt (by omega) (by omega) fun h9 => ?_)) | refine E_icmp_gt 38 d_Ou_ringCount_9 rfl (fun h9 => ?_) (fun h9 => ?_)
        · exfalso; omega
        first | refine E_aload_n d_Ou_ringCount_12 rfl ?_ | refine E_aload_nN d_Ou_ringCount_12 rfl ?_
        refine E_iload_n d_Ou_ringCount_13 rfl ?_
        refine E_V1 (sp_Ou_ringThrough h hfp) d_Ou_ringCount_14 ml_Ou_38 cb_Ou_ringThrough cv_Ou_ringThrough (by first | exact hG.s (by decide) rfl) ⟨by decide, rfl⟩ ⟨by decide, by decide⟩ rfl (Nat.le_of_ble_eq_true rfl) (Nat.le_of_ble_eq_true rfl) (kI fun r1 M1 hc => ?_)
        obtain ⟨rfl, rfl⟩ := hc
        first | (with_reducible refine E_isN1 ?_; refine E_if_le 32 d_Ou_ringCount_17 rfl (nz_le (by omega) fun h17 => ?_) (nz_nle (by omega) fun h17 => ?_)) | refine E_if_le 32 d_Ou_ringCount_17 rfl (fun h17 => ?_) (fun h17 => ?_)
        rotate_left
        · exfalso; omega
        first | (with_reducible refine E_isL2 ?_; refine E_iincN2 (m := 1) d_Ou_ringCount_32 rfl rfl ?_) | refine E_iinc_2 d_Ou_ringCount_32 rfl rfl ?_
        refine E_goto 4 d_Ou_ringCount_35 rfl ?_
        exact ih2
      · have el := ring_low hp8 (cm_le c) hfp hz
        have hs := sp_Ou_ringLowest0 h hfp
        rw [el] at hs
        have hl : lowN (cm c) f ≤ f := (lowA_le 9 1 f).1
        have i1 : lowN (cm c) f = f → (if (decide (ringSz (cm c) f ≠ 0) && decide (lowN (cm c) f = f)) = true then 1 else 0) = 1 := fun q => if_pos (by simp [hz, q])
        have i0 : lowN (cm c) f ≠ f → (if (decide (ringSz (cm c) f ≠ 0) && decide (lowN (cm c) f = f)) = true then 1 else 0) = 0 := fun q => if_neg (by simp [q])
        refine E_iload_n d_Ou_ringCount_4 rfl ?_
        first | refine E_aload_n d_Ou_ringCount_5 rfl ?_ | refine E_aload_nN d_Ou_ringCount_5 rfl ?_
        refine E_getI d_Ou_ringCount_6 gf_Ou_31 (by first | exact hG.s (by decide) rfl) (by exact hO.1) ?_
        first | (with_reducible refine E_isN2 ?_; refine E_icmp_gt 38 d_Ou_ringCount_9 rfl (nb_lt (by omega) (by omega) fun h9 => ?_) (nb_nlt (by omega) (by omega) fun h9 => ?_)) | refine E_icmp_gt 38 d_Ou_ringCount_9 rfl (fun h9 => ?_) (fun h9 => ?_)
        · exfalso; omega
        first | refine E_aload_n d_Ou_ringCount_12 rfl ?_ | refine E_aload_nN d_Ou_ringCount_12 rfl ?_
        refine E_iload_n d_Ou_ringCount_13 rfl ?_
        refine E_V1 (sp_Ou_ringThrough h hfp) d_Ou_ringCount_14 ml_Ou_38 cb_Ou_ringThrough cv_Ou_ringThrough (by first | exact hG.s (by decide) rfl) ⟨by decide, rfl⟩ ⟨by decide, by decide⟩ rfl (Nat.le_of_ble_eq_true rfl) (Nat.le_of_ble_eq_true rfl) (kI fun r1 M1 hc => ?_)
        obtain ⟨rfl, rfl⟩ := hc
        first | (with_reducible refine E_isN1 ?_; refine E_if_le 32 d_Ou_ringCount_17 rfl (nz_le (by omega) fun h17 => ?_) (nz_nle (by omega) fun h17 => ?_)) | refine E_if_le 32 d_Ou_ringCount_17 rfl (fun h17 => ?_) (fun h17 => ?_)
        · exfalso; omega
        first | refine E_aload_n d_Ou_ringCount_20 rfl ?_ | refine E_aload_nN d_Ou_ringCount_20 rfl ?_
        refine E_iload_n d_Ou_ringCount_21 rfl ?_
        refine E_V1 (hs) d_Ou_ringCount_22 ml_Ou_50 cb_Ou_ringLowest cv_Ou_ringLowest (by first | exact hG.s (by decide) rfl) ⟨by decide, rfl⟩ ⟨by decide, by decide⟩ rfl (Nat.le_of_ble_eq_true rfl) (Nat.le_of_ble_eq_true rfl) (kI fun r1 M1 hc => ?_)
        obtain ⟨rfl, rfl⟩ := hc
        refine E_iload_n d_Ou_ringCount_25 rfl ?_
        first | (with_reducible refine E_isN2 ?_; refine E_icmp_ne 32 d_Ou_ringCount_26 rfl (nb_ne fun h26 => ?_) (nb_eq (by omega) (by omega) fun h26 => ?_)) | refine E_icmp_ne 32 d_Ou_ringCount_26 rfl (fun h26 => ?_) (fun h26 => ?_)
        · first | (with_reducible refine E_isL2 ?_; refine E_iincN2 (m := 1) d_Ou_ringCount_32 rfl rfl ?_) | refine E_iinc_2 d_Ou_ringCount_32 rfl rfl ?_
          refine E_goto 4 d_Ou_ringCount_35 rfl ?_
          first | (rw [i0 h26] at ih2; exact ih2) | (rw [i1 h26] at ih2; exact ih2)
        · first | (with_reducible refine E_isL1 ?_; refine E_iincN1 (m := 1) d_Ou_ringCount_29 rfl rfl ?_) | refine E_iinc_1 d_Ou_ringCount_29 rfl rfl ?_
          first | (with_reducible refine E_isL2 ?_; refine E_iincN2 (m := 1) d_Ou_ringCount_32 rfl rfl ?_) | refine E_iinc_2 d_Ou_ringCount_32 rfl rfl ?_
          refine E_goto 4 d_Ou_ringCount_35 rfl ?_
          first | (rw [i0 h26] at ih2; exact ih2) | (rw [i1 h26] at ih2; exact ih2)
  refine E_iconst (v := nI 0) d_Ou_ringCount_0 rfl ?_
  refine E_istore_1 d_Ou_ringCount_1 rfl ?_
  refine E_iconst (v := nI 0) d_Ou_ringCount_2 rfl ?_
  refine E_istore_2 d_Ou_ringCount_3 rfl ?_
  exact L (c.now.people + 1) 0 (Nat.zero_add _)
theorem sp_Ou_leadBits (h : OM c G M) {x : Nat} (hx : x ≤ c.now.people) : E 2 0 0 Y_Ou_leadBits 0 [some (.ref 216), some (.int (nI x)), none, none, none] [] G M (QI G fun r M' => r = nI (bset (fun f => leadB (cm c) x f 10) (c.now.people + 1)) ∧ M' = M) := by
  have hp8 := h.2.2.2.p8
  have hG := h.1
  have hO := h.2.2.1
  rw [← ldOut_eq hp8 (cm_le c) hx]
  have b512 : ∀ b, (∀ j, b.testBit j = true → j ≤ c.now.people ∧ ∃ n, itn (cm c) n j = x) → b < 512 := fun b hb => by
    have : b < 2 ^ (c.now.people + 1) := lt_of_bits fun k hk => by
      rw [Bool.eq_false_iff]
      intro q
      have := (hb k q).1
      omega
    exact Nat.lt_of_lt_of_le this (show 2 ^ (c.now.people + 1) ≤ 2 ^ 9 from Nat.pow_le_pow_right (by decide) (by omega))
  have LI : ∀ k f t b, f + k = c.now.people + 1 → (∀ j, b.testBit j = true → j ≤ c.now.people ∧ ∃ n, itn (cm c) n j = x) → (K : E 2 0 0 Y_Ou_leadBits 53 [some (.ref 216), some (.int (nI x)), some (.int (nI (ldIn (cm c) b (c.now.people + 1)))), some (.int (nI t)), none] [] G M (QI G fun r M' => r = nI (ldOut (cm c) c.now.people (2 ^ x) (c.now.people + 1)) ∧ M' = M)) → E 2 0 0 Y_Ou_leadBits 17 [some (.ref 216), some (.int (nI x)), some (.int (nI (ldIn (cm c) b f))), some (.int (nI t)), some (.int (nI f))] [] G M (QI G fun r M' => r = nI (ldOut (cm c) c.now.people (2 ^ x) (c.now.people + 1)) ∧ M' = M) := by
    intro k
    induction k with
    | zero =>
      intro f t b hf hb K
      have hf2 : f = c.now.people + 1 := by omega
      subst hf2
      refine E_iload d_Ou_leadBits_17 rfl ?_
      first | refine E_aload_n d_Ou_leadBits_19 rfl ?_ | refine E_aload_nN d_Ou_leadBits_19 rfl ?_
      refine E_getI d_Ou_leadBits_20 gf_Ou_31 (by first | exact hG.s (by decide) rfl) (by exact hO.1) ?_
      first | (with_reducible refine E_isN2 ?_; refine E_icmp_gt 53 d_Ou_leadBits_23 rfl (nb_lt (by omega) (by omega) fun h23 => ?_) (nb_nlt (by omega) (by omega) fun h23 => ?_)) | refine E_icmp_gt 53 d_Ou_leadBits_23 rfl (fun h23 => ?_) (fun h23 => ?_)
      rotate_left
      · exfalso; omega
      refine E_wk ?_ K; exact ⟨Or.inl rfl, Or.inl rfl, Or.inl rfl, Or.inl rfl, Or.inr rfl, trivial⟩
    | succ k ih =>
      intro f t b hf hb K
      have hcm := cm_le c f
      have hb2 := b512 _ (ldIn_sound (m := c.now.people) hb f (by omega))
      have ih2 := ih (f + 1) t b (by omega) hb K
      rw [ldIn] at ih2
      have i1 : ldIn (cm c) b f / 2 ^ cm c f &&& 1 = 1 → (if (ldIn (cm c) b f).testBit (cm c f) = true then ldIn (cm c) b f ||| 2 ^ f else ldIn (cm c) b f) = ldIn (cm c) b f ||| 2 ^ f := fun q => if_pos ((tb_div _ _).mpr q)
      have i0 : ldIn (cm c) b f / 2 ^ cm c f &&& 1 ≠ 1 → (if (ldIn (cm c) b f).testBit (cm c f) = true then ldIn (cm c) b f ||| 2 ^ f else ldIn (cm c) b f) = ldIn (cm c) b f := fun q => if_neg (fun r => q ((tb_div _ _).mp r))
      have ha : ldIn (cm c) b f / 2 ^ cm c f &&& 1 ≤ 1 := Nat.and_le_right
      refine E_iload d_Ou_leadBits_17 rfl ?_
      first | refine E_aload_n d_Ou_leadBits_19 rfl ?_ | refine E_aload_nN d_Ou_leadBits_19 rfl ?_
      refine E_getI d_Ou_leadBits_20 gf_Ou_31 (by first | exact hG.s (by decide) rfl) (by exact hO.1) ?_
      first | (with_reducible refine E_isN2 ?_; refine E_icmp_gt 53 d_Ou_leadBits_23 rfl (nb_lt (by omega) (by omega) fun h23 => ?_) (nb_nlt (by omega) (by omega) fun h23 => ?_)) | refine E_icmp_gt 53 d_Ou_leadBits_23 rfl (fun h23 => ?_) (fun h23 => ?_)
      · exfalso; omega
      refine E_iload_n d_Ou_leadBits_26 rfl ?_
      first | refine E_aload_n d_Ou_leadBits_27 rfl ?_ | refine E_aload_nN d_Ou_leadBits_27 rfl ?_
      refine E_iload d_Ou_leadBits_28 rfl ?_
      refine E_V1 (sp_Ou_comesOf h (by omega)) d_Ou_leadBits_30 ml_Ou_35 cb_Ou_comesOf cv_Ou_comesOf (by first | exact hG.s (by decide) rfl) ⟨by decide, rfl⟩ ⟨by decide, by decide⟩ rfl (Nat.le_of_ble_eq_true rfl) (Nat.le_of_ble_eq_true rfl) (kI fun r1 M1 hc => ?_)
      obtain ⟨rfl, rfl⟩ := hc
      first | (with_reducible refine E_isN2 ?_; refine E_ishrN d_Ou_leadBits_33 (by omega) (by omega) ?_) | refine E_ishr d_Ou_leadBits_33 ?_
      refine E_iconst (v := nI 1) d_Ou_leadBits_34 rfl ?_
      first | (with_reducible refine E_isN2 ?_; refine E_iandN d_Ou_leadBits_35 ?_) | refine E_iand d_Ou_leadBits_35 ?_
      refine E_iconst (v := nI 1) d_Ou_leadBits_36 rfl ?_
      first | (with_reducible refine E_isN2 ?_; refine E_icmp_ne 47 d_Ou_leadBits_37 rfl (nb_ne fun h37 => ?_) (nb_eq (by omega) (by omega) fun h37 => ?_)) | refine E_icmp_ne 47 d_Ou_leadBits_37 rfl (fun h37 => ?_) (fun h37 => ?_)
      · first | (with_reducible refine E_isL4 ?_; refine E_iincN4 (m := 1) d_Ou_leadBits_47 rfl rfl ?_) | refine E_iinc_4 d_Ou_leadBits_47 rfl rfl ?_
        refine E_goto 17 d_Ou_leadBits_50 rfl ?_
        first | (rw [i0 h37] at ih2; exact ih2) | (rw [i1 h37] at ih2; exact ih2)
      · refine E_iload_n d_Ou_leadBits_40 rfl ?_
        refine E_iconst (v := nI 1) d_Ou_leadBits_41 rfl ?_
        refine E_iload d_Ou_leadBits_42 rfl ?_
        first | (with_reducible refine E_isN2 ?_; first | refine E_ishl1 d_Ou_leadBits_44 (by omega) ?_ | refine E_ishlN d_Ou_leadBits_44 (by omega) (by omega) ?_) | refine E_ishl d_Ou_leadBits_44 ?_
        first | (with_reducible refine E_isN2 ?_; refine E_iorN d_Ou_leadBits_45 ?_) | refine E_ior d_Ou_leadBits_45 ?_
        refine E_istore_2 d_Ou_leadBits_46 rfl ?_
        first | (with_reducible refine E_isL4 ?_; refine E_iincN4 (m := 1) d_Ou_leadBits_47 rfl rfl ?_) | refine E_iinc_4 d_Ou_leadBits_47 rfl rfl ?_
        refine E_goto 17 d_Ou_leadBits_50 rfl ?_
        first | (rw [i0 h37] at ih2; exact ih2) | (rw [i1 h37] at ih2; exact ih2)
  have LO : ∀ k t, t + k = c.now.people + 1 → E 2 0 0 Y_Ou_leadBits 6 [some (.ref 216), some (.int (nI x)), some (.int (nI (ldOut (cm c) c.now.people (2 ^ x) t))), some (.int (nI t)), none] [] G M (QI G fun r M' => r = nI (ldOut (cm c) c.now.people (2 ^ x) (c.now.people + 1)) ∧ M' = M) := by
    intro k
    induction k with
    | zero =>
      intro t ht
      have ht2 : t = c.now.people + 1 := by omega
      subst ht2
      refine E_iload_n d_Ou_leadBits_6 rfl ?_
      first | refine E_aload_n d_Ou_leadBits_7 rfl ?_ | refine E_aload_nN d_Ou_leadBits_7 rfl ?_
      refine E_getI d_Ou_leadBits_8 gf_Ou_31 (by first | exact hG.s (by decide) rfl) (by exact hO.1) ?_
      first | (with_reducible refine E_isN2 ?_; refine E_icmp_gt 59 d_Ou_leadBits_11 rfl (nb_lt (by omega) (by omega) fun h11 => ?_) (nb_nlt (by omega) (by omega) fun h11 => ?_)) | refine E_icmp_gt 59 d_Ou_leadBits_11 rfl (fun h11 => ?_) (fun h11 => ?_)
      rotate_left
      · exfalso; omega
      refine E_iload_n d_Ou_leadBits_59 rfl ?_
      refine E_retI d_Ou_leadBits_60 rfl ?_
      exact ⟨rfl, rfl⟩
    | succ k ih =>
      intro t ht
      have ih2 := ih (t + 1) (by omega)
      have K : E 2 0 0 Y_Ou_leadBits 53 [some (.ref 216), some (.int (nI x)), some (.int (nI (ldIn (cm c) (ldOut (cm c) c.now.people (2 ^ x) t) (c.now.people + 1)))), some (.int (nI t)), none] [] G M (QI G fun r M' => r = nI (ldOut (cm c) c.now.people (2 ^ x) (c.now.people + 1)) ∧ M' = M) := by
        first | (with_reducible refine E_isL3 ?_; refine E_iincN3 (m := 1) d_Ou_leadBits_53 rfl rfl ?_) | refine E_iinc_3 d_Ou_leadBits_53 rfl rfl ?_
        refine E_goto 6 d_Ou_leadBits_56 rfl ?_
        exact ih2
      refine E_iload_n d_Ou_leadBits_6 rfl ?_
      first | refine E_aload_n d_Ou_leadBits_7 rfl ?_ | refine E_aload_nN d_Ou_leadBits_7 rfl ?_
      refine E_getI d_Ou_leadBits_8 gf_Ou_31 (by first | exact hG.s (by decide) rfl) (by exact hO.1) ?_
      first | (with_reducible refine E_isN2 ?_; refine E_icmp_gt 59 d_Ou_leadBits_11 rfl (nb_lt (by omega) (by omega) fun h11 => ?_) (nb_nlt (by omega) (by omega) fun h11 => ?_)) | refine E_icmp_gt 59 d_Ou_leadBits_11 rfl (fun h11 => ?_) (fun h11 => ?_)
      · exfalso; omega
      refine E_iconst (v := nI 0) d_Ou_leadBits_14 rfl ?_
      refine E_istore_4 d_Ou_leadBits_15 rfl ?_
      exact LI (c.now.people + 1) 0 t _ (Nat.zero_add _) (ldOut_sound hx t) K
  refine E_iconst (v := nI 1) d_Ou_leadBits_0 rfl ?_
  refine E_iload_n d_Ou_leadBits_1 rfl ?_
  first | (with_reducible refine E_isN2 ?_; first | refine E_ishl1 d_Ou_leadBits_2 (by omega) ?_ | refine E_ishlN d_Ou_leadBits_2 (by omega) (by omega) ?_) | refine E_ishl d_Ou_leadBits_2 ?_
  refine E_istore_2 d_Ou_leadBits_3 rfl ?_
  refine E_iconst (v := nI 0) d_Ou_leadBits_4 rfl ?_
  refine E_istore_3 d_Ou_leadBits_5 rfl ?_
  exact LO (c.now.people + 1) 0 (Nat.zero_add _)
end OuC
