section RDd
variable {G : Geo} {M : Mem} {l : List Nat} {sw : Nat}
theorem sp_Sg_opensOne {s : Nat} (hs : s ≤ 41) : E 0 0 0 Y_Sg_opensOne 0 [some (.int (nI s))] [] G M (QI G fun r M' => r = pI (s = 36 ∨ s = 33 ∨ s = 10 ∨ s = 11 ∨ s = 12) ∧ M' = M) := by
  have k1 : (s = 36 ∨ s = 33 ∨ s = 10 ∨ s = 11 ∨ s = 12) → nI 1 = pI (s = 36 ∨ s = 33 ∨ s = 10 ∨ s = 11 ∨ s = 12) := fun q => (pI_t q).symm
  have k0 : ¬ (s = 36 ∨ s = 33 ∨ s = 10 ∨ s = 11 ∨ s = 12) → nI 0 = pI (s = 36 ∨ s = 33 ∨ s = 10 ∨ s = 11 ∨ s = 12) := fun q => (pI_f q).symm
  refine E_iload_n d_Sg_opensOne_0 rfl ?_
  refine E_bipush (v := nI 36) d_Sg_opensOne_1 (by decide) ?_
  first | (with_reducible refine E_isN2 ?_; refine E_icmp_eq 30 d_Sg_opensOne_3 rfl (nb_eq (by omega) (by omega) fun h3 => ?_) (nb_ne fun h3 => ?_)) | refine E_icmp_eq 30 d_Sg_opensOne_3 rfl (fun h3 => ?_) (fun h3 => ?_)
  · refine E_iconst (v := nI 1) d_Sg_opensOne_30 rfl ?_
    refine E_goto 35 d_Sg_opensOne_31 rfl ?_
    refine E_retZ d_Sg_opensOne_35 rfl (by decide) ?_
    exact ⟨by first | exact k1 (by omega) | exact k0 (by omega), rfl⟩
  · refine E_iload_n d_Sg_opensOne_6 rfl ?_
    refine E_bipush (v := nI 33) d_Sg_opensOne_7 (by decide) ?_
    first | (with_reducible refine E_isN2 ?_; refine E_icmp_eq 30 d_Sg_opensOne_9 rfl (nb_eq (by omega) (by omega) fun h9 => ?_) (nb_ne fun h9 => ?_)) | refine E_icmp_eq 30 d_Sg_opensOne_9 rfl (fun h9 => ?_) (fun h9 => ?_)
    · refine E_iconst (v := nI 1) d_Sg_opensOne_30 rfl ?_
      refine E_goto 35 d_Sg_opensOne_31 rfl ?_
      refine E_retZ d_Sg_opensOne_35 rfl (by decide) ?_
      exact ⟨by first | exact k1 (by omega) | exact k0 (by omega), rfl⟩
    · refine E_iload_n d_Sg_opensOne_12 rfl ?_
      refine E_bipush (v := nI 10) d_Sg_opensOne_13 (by decide) ?_
      first | (with_reducible refine E_isN2 ?_; refine E_icmp_eq 30 d_Sg_opensOne_15 rfl (nb_eq (by omega) (by omega) fun h15 => ?_) (nb_ne fun h15 => ?_)) | refine E_icmp_eq 30 d_Sg_opensOne_15 rfl (fun h15 => ?_) (fun h15 => ?_)
      · refine E_iconst (v := nI 1) d_Sg_opensOne_30 rfl ?_
        refine E_goto 35 d_Sg_opensOne_31 rfl ?_
        refine E_retZ d_Sg_opensOne_35 rfl (by decide) ?_
        exact ⟨by first | exact k1 (by omega) | exact k0 (by omega), rfl⟩
      · refine E_iload_n d_Sg_opensOne_18 rfl ?_
        refine E_bipush (v := nI 11) d_Sg_opensOne_19 (by decide) ?_
        first | (with_reducible refine E_isN2 ?_; refine E_icmp_eq 30 d_Sg_opensOne_21 rfl (nb_eq (by omega) (by omega) fun h21 => ?_) (nb_ne fun h21 => ?_)) | refine E_icmp_eq 30 d_Sg_opensOne_21 rfl (fun h21 => ?_) (fun h21 => ?_)
        · refine E_iconst (v := nI 1) d_Sg_opensOne_30 rfl ?_
          refine E_goto 35 d_Sg_opensOne_31 rfl ?_
          refine E_retZ d_Sg_opensOne_35 rfl (by decide) ?_
          exact ⟨by first | exact k1 (by omega) | exact k0 (by omega), rfl⟩
        · refine E_iload_n d_Sg_opensOne_24 rfl ?_
          refine E_bipush (v := nI 12) d_Sg_opensOne_25 (by decide) ?_
          first | (with_reducible refine E_isN2 ?_; refine E_icmp_ne 34 d_Sg_opensOne_27 rfl (nb_ne fun h27 => ?_) (nb_eq (by omega) (by omega) fun h27 => ?_)) | refine E_icmp_ne 34 d_Sg_opensOne_27 rfl (fun h27 => ?_) (fun h27 => ?_)
          · refine E_iconst (v := nI 0) d_Sg_opensOne_34 rfl ?_
            refine E_retZ d_Sg_opensOne_35 rfl (by decide) ?_
            exact ⟨by first | exact k1 (by omega) | exact k0 (by omega), rfl⟩
          · refine E_iconst (v := nI 1) d_Sg_opensOne_30 rfl ?_
            refine E_goto 35 d_Sg_opensOne_31 rfl ?_
            refine E_retZ d_Sg_opensOne_35 rfl (by decide) ?_
            exact ⟨by first | exact k1 (by omega) | exact k0 (by omega), rfl⟩
theorem sp_Sg_isName {s : Nat} (hs : s ≤ 41) : E 0 0 0 Y_Sg_isName 0 [some (.int (nI s))] [] G M (QI G fun r M' => r = pI ((19 ≤ s ∧ s ≤ 25) ∨ s = 3) ∧ M' = M) := by
  have k1 : ((19 ≤ s ∧ s ≤ 25) ∨ s = 3) → nI 1 = pI ((19 ≤ s ∧ s ≤ 25) ∨ s = 3) := fun q => (pI_t q).symm
  have k0 : ¬ ((19 ≤ s ∧ s ≤ 25) ∨ s = 3) → nI 0 = pI ((19 ≤ s ∧ s ≤ 25) ∨ s = 3) := fun q => (pI_f q).symm
  refine E_iload_n d_Sg_isName_0 rfl ?_
  refine E_bipush (v := nI 19) d_Sg_isName_1 (by decide) ?_
  first | (with_reducible refine E_isN2 ?_; refine E_icmp_lt 12 d_Sg_isName_3 rfl (nb_lt (by omega) (by omega) fun h3 => ?_) (nb_nlt (by omega) (by omega) fun h3 => ?_)) | refine E_icmp_lt 12 d_Sg_isName_3 rfl (fun h3 => ?_) (fun h3 => ?_)
  · refine E_iload_n d_Sg_isName_12 rfl ?_
    refine E_iconst (v := nI 3) d_Sg_isName_13 rfl ?_
    first | (with_reducible refine E_isN2 ?_; refine E_icmp_ne 21 d_Sg_isName_14 rfl (nb_ne fun h14 => ?_) (nb_eq (by omega) (by omega) fun h14 => ?_)) | refine E_icmp_ne 21 d_Sg_isName_14 rfl (fun h14 => ?_) (fun h14 => ?_)
    · refine E_iconst (v := nI 0) d_Sg_isName_21 rfl ?_
      refine E_retZ d_Sg_isName_22 rfl (by decide) ?_
      exact ⟨by first | exact k1 (by omega) | exact k0 (by omega), rfl⟩
    · refine E_iconst (v := nI 1) d_Sg_isName_17 rfl ?_
      refine E_goto 22 d_Sg_isName_18 rfl ?_
      refine E_retZ d_Sg_isName_22 rfl (by decide) ?_
      exact ⟨by first | exact k1 (by omega) | exact k0 (by omega), rfl⟩
  · refine E_iload_n d_Sg_isName_6 rfl ?_
    refine E_bipush (v := nI 25) d_Sg_isName_7 (by decide) ?_
    first | (with_reducible refine E_isN2 ?_; refine E_icmp_le 17 d_Sg_isName_9 rfl (nb_le (by omega) (by omega) fun h9 => ?_) (nb_nle (by omega) (by omega) fun h9 => ?_)) | refine E_icmp_le 17 d_Sg_isName_9 rfl (fun h9 => ?_) (fun h9 => ?_)
    · refine E_iconst (v := nI 1) d_Sg_isName_17 rfl ?_
      refine E_goto 22 d_Sg_isName_18 rfl ?_
      refine E_retZ d_Sg_isName_22 rfl (by decide) ?_
      exact ⟨by first | exact k1 (by omega) | exact k0 (by omega), rfl⟩
    · refine E_iload_n d_Sg_isName_12 rfl ?_
      refine E_iconst (v := nI 3) d_Sg_isName_13 rfl ?_
      first | (with_reducible refine E_isN2 ?_; refine E_icmp_ne 21 d_Sg_isName_14 rfl (nb_ne fun h14 => ?_) (nb_eq (by omega) (by omega) fun h14 => ?_)) | refine E_icmp_ne 21 d_Sg_isName_14 rfl (fun h14 => ?_) (fun h14 => ?_)
      · refine E_iconst (v := nI 0) d_Sg_isName_21 rfl ?_
        refine E_retZ d_Sg_isName_22 rfl (by decide) ?_
        exact ⟨by first | exact k1 (by omega) | exact k0 (by omega), rfl⟩
      · refine E_iconst (v := nI 1) d_Sg_isName_17 rfl ?_
        refine E_goto 22 d_Sg_isName_18 rfl ?_
        refine E_retZ d_Sg_isName_22 rfl (by decide) ?_
        exact ⟨by first | exact k1 (by omega) | exact k0 (by omega), rfl⟩
theorem sp_Sg_isComparing {s : Nat} (hs : s ≤ 41) : E 0 0 0 Y_Sg_isComparing 0 [some (.int (nI s))] [] G M (QI G fun r M' => r = pI (26 ≤ s ∧ s ≤ 31) ∧ M' = M) := by
  have k1 : (26 ≤ s ∧ s ≤ 31) → nI 1 = pI (26 ≤ s ∧ s ≤ 31) := fun q => (pI_t q).symm
  have k0 : ¬ (26 ≤ s ∧ s ≤ 31) → nI 0 = pI (26 ≤ s ∧ s ≤ 31) := fun q => (pI_f q).symm
  refine E_iload_n d_Sg_isComparing_0 rfl ?_
  refine E_bipush (v := nI 26) d_Sg_isComparing_1 (by decide) ?_
  first | (with_reducible refine E_isN2 ?_; refine E_icmp_lt 16 d_Sg_isComparing_3 rfl (nb_lt (by omega) (by omega) fun h3 => ?_) (nb_nlt (by omega) (by omega) fun h3 => ?_)) | refine E_icmp_lt 16 d_Sg_isComparing_3 rfl (fun h3 => ?_) (fun h3 => ?_)
  · refine E_iconst (v := nI 0) d_Sg_isComparing_16 rfl ?_
    refine E_retZ d_Sg_isComparing_17 rfl (by decide) ?_
    exact ⟨by first | exact k1 (by omega) | exact k0 (by omega), rfl⟩
  · refine E_iload_n d_Sg_isComparing_6 rfl ?_
    refine E_bipush (v := nI 31) d_Sg_isComparing_7 (by decide) ?_
    first | (with_reducible refine E_isN2 ?_; refine E_icmp_gt 16 d_Sg_isComparing_9 rfl (nb_lt (by omega) (by omega) fun h9 => ?_) (nb_nlt (by omega) (by omega) fun h9 => ?_)) | refine E_icmp_gt 16 d_Sg_isComparing_9 rfl (fun h9 => ?_) (fun h9 => ?_)
    · refine E_iconst (v := nI 0) d_Sg_isComparing_16 rfl ?_
      refine E_retZ d_Sg_isComparing_17 rfl (by decide) ?_
      exact ⟨by first | exact k1 (by omega) | exact k0 (by omega), rfl⟩
    · refine E_iconst (v := nI 1) d_Sg_isComparing_12 rfl ?_
      refine E_goto 17 d_Sg_isComparing_13 rfl ?_
      refine E_retZ d_Sg_isComparing_17 rfl (by decide) ?_
      exact ⟨by first | exact k1 (by omega) | exact k0 (by omega), rfl⟩
theorem sp_Sg_beginsClause {s : Nat} (hs : s ≤ 41) : E 0 0 0 Y_Sg_beginsClause 0 [some (.int (nI s))] [] G M (QI G fun r M' => r = pI (s ≤ 9 ∧ s ≠ 3 ∧ s ≠ 5) ∧ M' = M) := by
  have k1 : (s ≤ 9 ∧ s ≠ 3 ∧ s ≠ 5) → nI 1 = pI (s ≤ 9 ∧ s ≠ 3 ∧ s ≠ 5) := fun q => (pI_t q).symm
  have k0 : ¬ (s ≤ 9 ∧ s ≠ 3 ∧ s ≠ 5) → nI 0 = pI (s ≤ 9 ∧ s ≠ 3 ∧ s ≠ 5) := fun q => (pI_f q).symm
  refine E_iload_n d_Sg_beginsClause_0 rfl ?_
  first | (with_reducible refine E_isN1 ?_; refine E_if_lt 24 d_Sg_beginsClause_1 rfl (nz_lt (by omega) fun h1 => ?_) (nz_nlt (by omega) fun h1 => ?_)) | refine E_if_lt 24 d_Sg_beginsClause_1 rfl (fun h1 => ?_) (fun h1 => ?_)
  · exfalso; omega
  refine E_iload_n d_Sg_beginsClause_4 rfl ?_
  refine E_bipush (v := nI 9) d_Sg_beginsClause_5 (by decide) ?_
  first | (with_reducible refine E_isN2 ?_; refine E_icmp_gt 24 d_Sg_beginsClause_7 rfl (nb_lt (by omega) (by omega) fun h7 => ?_) (nb_nlt (by omega) (by omega) fun h7 => ?_)) | refine E_icmp_gt 24 d_Sg_beginsClause_7 rfl (fun h7 => ?_) (fun h7 => ?_)
  · refine E_iconst (v := nI 0) d_Sg_beginsClause_24 rfl ?_
    refine E_retZ d_Sg_beginsClause_25 rfl (by decide) ?_
    exact ⟨by first | exact k1 (by omega) | exact k0 (by omega), rfl⟩
  · refine E_iload_n d_Sg_beginsClause_10 rfl ?_
    refine E_iconst (v := nI 3) d_Sg_beginsClause_11 rfl ?_
    first | (with_reducible refine E_isN2 ?_; refine E_icmp_eq 24 d_Sg_beginsClause_12 rfl (nb_eq (by omega) (by omega) fun h12 => ?_) (nb_ne fun h12 => ?_)) | refine E_icmp_eq 24 d_Sg_beginsClause_12 rfl (fun h12 => ?_) (fun h12 => ?_)
    · refine E_iconst (v := nI 0) d_Sg_beginsClause_24 rfl ?_
      refine E_retZ d_Sg_beginsClause_25 rfl (by decide) ?_
      exact ⟨by first | exact k1 (by omega) | exact k0 (by omega), rfl⟩
    · refine E_iload_n d_Sg_beginsClause_15 rfl ?_
      refine E_iconst (v := nI 5) d_Sg_beginsClause_16 rfl ?_
      first | (with_reducible refine E_isN2 ?_; refine E_icmp_eq 24 d_Sg_beginsClause_17 rfl (nb_eq (by omega) (by omega) fun h17 => ?_) (nb_ne fun h17 => ?_)) | refine E_icmp_eq 24 d_Sg_beginsClause_17 rfl (fun h17 => ?_) (fun h17 => ?_)
      · refine E_iconst (v := nI 0) d_Sg_beginsClause_24 rfl ?_
        refine E_retZ d_Sg_beginsClause_25 rfl (by decide) ?_
        exact ⟨by first | exact k1 (by omega) | exact k0 (by omega), rfl⟩
      · refine E_iconst (v := nI 1) d_Sg_beginsClause_20 rfl ?_
        refine E_goto 25 d_Sg_beginsClause_21 rfl ?_
        refine E_retZ d_Sg_beginsClause_25 rfl (by decide) ?_
        exact ⟨by first | exact k1 (by omega) | exact k0 (by omega), rfl⟩
theorem sp_Re_isAdding (hG : GC G) {s : Nat} (hR : RC M) (h : mI M 225 14 = nI s) (hs : s ≤ 41) : E 0 0 0 Y_Re_isAdding 0 [some (.ref 225)] [] G M (QI G fun r M' => r = pI (jAdd s = true) ∧ M' = M) := by
  have k1 : (s = 32 ∨ s = 33) → nI 1 = pI (jAdd s = true) := fun q => (pI_t (jAdd_iff.mpr q)).symm
  have k0 : ¬ (s = 32 ∨ s = 33) → nI 0 = pI (jAdd s = true) := fun q => (pI_f (fun r => q (jAdd_iff.mp r))).symm
  first | refine E_aload_n d_Re_isAdding_0 rfl ?_ | refine E_aload_nN d_Re_isAdding_0 rfl ?_
  refine E_getI d_Re_isAdding_1 gf_Re_61 (by exact hG.s (by decide) rfl) (by exact h) ?_
  refine E_bipush (v := nI 32) d_Re_isAdding_4 (by decide) ?_
  first | (with_reducible refine E_isN2 ?_; refine E_icmp_eq 18 d_Re_isAdding_6 rfl (nb_eq (by omega) (by omega) fun h6 => ?_) (nb_ne fun h6 => ?_)) | refine E_icmp_eq 18 d_Re_isAdding_6 rfl (fun h6 => ?_) (fun h6 => ?_)
  · refine E_iconst (v := nI 1) d_Re_isAdding_18 rfl ?_
    refine E_goto 23 d_Re_isAdding_19 rfl ?_
    refine E_retZ d_Re_isAdding_23 rfl (by decide) ?_
    exact ⟨by first | exact k1 (by omega) | exact k0 (by omega), rfl⟩
  · first | refine E_aload_n d_Re_isAdding_9 rfl ?_ | refine E_aload_nN d_Re_isAdding_9 rfl ?_
    refine E_getI d_Re_isAdding_10 gf_Re_61 (by exact hG.s (by decide) rfl) (by exact h) ?_
    refine E_bipush (v := nI 33) d_Re_isAdding_13 (by decide) ?_
    first | (with_reducible refine E_isN2 ?_; refine E_icmp_ne 22 d_Re_isAdding_15 rfl (nb_ne fun h15 => ?_) (nb_eq (by omega) (by omega) fun h15 => ?_)) | refine E_icmp_ne 22 d_Re_isAdding_15 rfl (fun h15 => ?_) (fun h15 => ?_)
    · refine E_iconst (v := nI 0) d_Re_isAdding_22 rfl ?_
      refine E_retZ d_Re_isAdding_23 rfl (by decide) ?_
      exact ⟨by first | exact k1 (by omega) | exact k0 (by omega), rfl⟩
    · refine E_iconst (v := nI 1) d_Re_isAdding_18 rfl ?_
      refine E_goto 23 d_Re_isAdding_19 rfl ?_
      refine E_retZ d_Re_isAdding_23 rfl (by decide) ?_
      exact ⟨by first | exact k1 (by omega) | exact k0 (by omega), rfl⟩
theorem sp_Re_isMultiplying (hG : GC G) {s : Nat} (hR : RC M) (h : mI M 225 14 = nI s) (hs : s ≤ 41) : E 0 0 0 Y_Re_isMultiplying 0 [some (.ref 225)] [] G M (QI G fun r M' => r = pI (jMul s = true) ∧ M' = M) := by
  have k1 : (s = 34 ∨ s = 35) → nI 1 = pI (jMul s = true) := fun q => (pI_t (jMul_iff.mpr q)).symm
  have k0 : ¬ (s = 34 ∨ s = 35) → nI 0 = pI (jMul s = true) := fun q => (pI_f (fun r => q (jMul_iff.mp r))).symm
  first | refine E_aload_n d_Re_isMultiplying_0 rfl ?_ | refine E_aload_nN d_Re_isMultiplying_0 rfl ?_
  refine E_getI d_Re_isMultiplying_1 gf_Re_61 (by exact hG.s (by decide) rfl) (by exact h) ?_
  refine E_bipush (v := nI 34) d_Re_isMultiplying_4 (by decide) ?_
  first | (with_reducible refine E_isN2 ?_; refine E_icmp_eq 18 d_Re_isMultiplying_6 rfl (nb_eq (by omega) (by omega) fun h6 => ?_) (nb_ne fun h6 => ?_)) | refine E_icmp_eq 18 d_Re_isMultiplying_6 rfl (fun h6 => ?_) (fun h6 => ?_)
  · refine E_iconst (v := nI 1) d_Re_isMultiplying_18 rfl ?_
    refine E_goto 23 d_Re_isMultiplying_19 rfl ?_
    refine E_retZ d_Re_isMultiplying_23 rfl (by decide) ?_
    exact ⟨by first | exact k1 (by omega) | exact k0 (by omega), rfl⟩
  · first | refine E_aload_n d_Re_isMultiplying_9 rfl ?_ | refine E_aload_nN d_Re_isMultiplying_9 rfl ?_
    refine E_getI d_Re_isMultiplying_10 gf_Re_61 (by exact hG.s (by decide) rfl) (by exact h) ?_
    refine E_bipush (v := nI 35) d_Re_isMultiplying_13 (by decide) ?_
    first | (with_reducible refine E_isN2 ?_; refine E_icmp_ne 22 d_Re_isMultiplying_15 rfl (nb_ne fun h15 => ?_) (nb_eq (by omega) (by omega) fun h15 => ?_)) | refine E_icmp_ne 22 d_Re_isMultiplying_15 rfl (fun h15 => ?_) (fun h15 => ?_)
    · refine E_iconst (v := nI 0) d_Re_isMultiplying_22 rfl ?_
      refine E_retZ d_Re_isMultiplying_23 rfl (by decide) ?_
      exact ⟨by first | exact k1 (by omega) | exact k0 (by omega), rfl⟩
    · refine E_iconst (v := nI 1) d_Re_isMultiplying_18 rfl ?_
      refine E_goto 23 d_Re_isMultiplying_19 rfl ?_
      refine E_retZ d_Re_isMultiplying_23 rfl (by decide) ?_
      exact ⟨by first | exact k1 (by omega) | exact k0 (by omega), rfl⟩
def PR (l : List Nat) (sw : Nat) (r : Res) (b : Nat) (M M' : Mem) : Prop := Fo 225 JR AR M M' ∧ (r.f = 0 → RS l sw r.k (b + r.cc.length) M' ∧ cdAt r.cc b M' ∧ kpB b M M') ∧ (r.f ≠ 0 → FS l r.f r.k M')
theorem PR.fl {f k b : Nat} {M1 : Mem} (h : FS l f k M1) (hX : Fo 225 JR AR M M1) : PR l sw (rF f k) b M M1 := ⟨hX, fun q => absurd q h.2.2.2.2.1, fun _ => h⟩
theorem sp_Re_readPlain (hG : GC G) (h3 : l.length ≤ 300) {k b : Nat} (h : RS l sw k b M) (hb : b ≤ k) (hsw : sw ≤ 9) : E 2 0 0 Y_Re_readPlain 0 [some (.ref 225)] [] G M (QV G fun M' => PR l sw (plainR (SS l) (VV l) sw k) b M M') := by
  have hR := h.R
  have hs := SS_rg l k
  have hv := VV_le l k
  have P1 : ∀ {f : Nat}, plainR (SS l) (VV l) sw k = rF f k → ∀ M', FS l f k M' ∧ Fo 225 J2 An M M' → PR l sw (plainR (SS l) (VV l) sw k) b M M' := fun e M' q => by rw [e]; exact PR.fl q.1 q.2.j2
  have hlen : SS l k ≠ 40 → b < 300 := fun q => by have := h.v.lt300 q; omega
  by_cases c1 : SS l k ≠ 39 ∧ ¬ ((19 ≤ SS l k ∧ SS l k ≤ 25) ∨ SS l k = 3)
  · have e : plainR (SS l) (VV l) sw k = rF 1 k := by unfold plainR; rw [if_pos c1]
    first | refine E_aload_n d_Re_readPlain_0 rfl ?_ | refine E_aload_nN d_Re_readPlain_0 rfl ?_
    refine E_getI d_Re_readPlain_1 gf_Re_61 (by exact hG.s (by decide) rfl) (by exact h.s) ?_
    refine E_bipush (v := nI 39) d_Re_readPlain_4 (by decide) ?_
    first | (with_reducible refine E_isN2 ?_; refine E_icmp_eq 27 d_Re_readPlain_6 rfl (nb_eq (by omega) (by omega) fun h6 => ?_) (nb_ne fun h6 => ?_)) | refine E_icmp_eq 27 d_Re_readPlain_6 rfl (fun h6 => ?_) (fun h6 => ?_)
    · exfalso; omega
    first | refine E_aload_n d_Re_readPlain_9 rfl ?_ | refine E_aload_nN d_Re_readPlain_9 rfl ?_
    refine E_getI d_Re_readPlain_10 gf_Re_61 (by exact hG.s (by decide) rfl) (by exact h.s) ?_
    refine E_S1 (sp_Sg_isName hs) d_Re_readPlain_13 ml_Re_161 cb_Sg_isName cs_Sg_isName ⟨by decide, by decide⟩ rfl (Nat.le_of_ble_eq_true rfl) (Nat.le_of_ble_eq_true rfl) (kI fun r1 M1 hc => ?_)
    obtain ⟨rfl, rfl⟩ := hc
    first | (with_reducible refine E_isP ?_; refine E_if_ne 27 d_Re_readPlain_16 rfl (pb_1 fun h16 => ?_) (pb_0 fun h16 => ?_)) | (with_reducible refine E_isN1 ?_; refine E_if_ne 27 d_Re_readPlain_16 rfl (nz_ne fun h16 => ?_) (nz_eq (by omega) fun h16 => ?_)) | refine E_if_ne 27 d_Re_readPlain_16 rfl (fun h16 => ?_) (fun h16 => ?_)
    · exfalso; exact c1.2 h16
    first | refine E_aload_n d_Re_readPlain_19 rfl ?_ | refine E_aload_nN d_Re_readPlain_19 rfl ?_
    refine E_iconst (v := nI 1) d_Re_readPlain_20 rfl ?_
    refine E_V1 (sp_Re_fail (f := 1) hG h h3 (by decide) (by decide)) d_Re_readPlain_21 ml_Re_108 cb_Re_fail cv_Re_fail (by exact hG.s (by decide) rfl) ⟨by decide, rfl⟩ ⟨by decide, by decide⟩ rfl (Nat.le_of_ble_eq_true rfl) (Nat.le_of_ble_eq_true rfl) (kV fun M1 hc => ?_)
    skip
    refine E_goto 86 d_Re_readPlain_24 rfl ?_
    refine E_retV d_Re_readPlain_86 rfl ?_
    exact P1 e _ hc
  · by_cases c2 : 9999 < VV l k
    · have e : plainR (SS l) (VV l) sw k = rF 2 k := by unfold plainR; rw [if_neg c1, if_pos c2]
      first | refine E_aload_n d_Re_readPlain_0 rfl ?_ | refine E_aload_nN d_Re_readPlain_0 rfl ?_
      refine E_getI d_Re_readPlain_1 gf_Re_61 (by exact hG.s (by decide) rfl) (by exact h.s) ?_
      refine E_bipush (v := nI 39) d_Re_readPlain_4 (by decide) ?_
      first | (with_reducible refine E_isN2 ?_; refine E_icmp_eq 27 d_Re_readPlain_6 rfl (nb_eq (by omega) (by omega) fun h6 => ?_) (nb_ne fun h6 => ?_)) | refine E_icmp_eq 27 d_Re_readPlain_6 rfl (fun h6 => ?_) (fun h6 => ?_)
      · first | refine E_aload_n d_Re_readPlain_27 rfl ?_ | refine E_aload_nN d_Re_readPlain_27 rfl ?_
        refine E_getI d_Re_readPlain_28 gf_Re_102 (by exact hG.s (by decide) rfl) (by exact h.w) ?_
        refine E_sipush (v := nI 9999) d_Re_readPlain_31 (by decide) ?_
        first | (with_reducible refine E_isN2 ?_; refine E_icmp_le 45 d_Re_readPlain_34 rfl (nb_le (by omega) (by omega) fun h34 => ?_) (nb_nle (by omega) (by omega) fun h34 => ?_)) | refine E_icmp_le 45 d_Re_readPlain_34 rfl (fun h34 => ?_) (fun h34 => ?_)
        · exfalso; omega
        first | refine E_aload_n d_Re_readPlain_37 rfl ?_ | refine E_aload_nN d_Re_readPlain_37 rfl ?_
        refine E_iconst (v := nI 2) d_Re_readPlain_38 rfl ?_
        refine E_V1 (sp_Re_fail (f := 2) hG h h3 (by decide) (by decide)) d_Re_readPlain_39 ml_Re_108 cb_Re_fail cv_Re_fail (by exact hG.s (by decide) rfl) ⟨by decide, rfl⟩ ⟨by decide, by decide⟩ rfl (Nat.le_of_ble_eq_true rfl) (Nat.le_of_ble_eq_true rfl) (kV fun M1 hc => ?_)
        skip
        refine E_goto 86 d_Re_readPlain_42 rfl ?_
        refine E_retV d_Re_readPlain_86 rfl ?_
        exact P1 e _ hc
      · first | refine E_aload_n d_Re_readPlain_9 rfl ?_ | refine E_aload_nN d_Re_readPlain_9 rfl ?_
        refine E_getI d_Re_readPlain_10 gf_Re_61 (by exact hG.s (by decide) rfl) (by exact h.s) ?_
        refine E_S1 (sp_Sg_isName hs) d_Re_readPlain_13 ml_Re_161 cb_Sg_isName cs_Sg_isName ⟨by decide, by decide⟩ rfl (Nat.le_of_ble_eq_true rfl) (Nat.le_of_ble_eq_true rfl) (kI fun r1 M1 hc => ?_)
        obtain ⟨rfl, rfl⟩ := hc
        first | (with_reducible refine E_isP ?_; refine E_if_ne 27 d_Re_readPlain_16 rfl (pb_1 fun h16 => ?_) (pb_0 fun h16 => ?_)) | (with_reducible refine E_isN1 ?_; refine E_if_ne 27 d_Re_readPlain_16 rfl (nz_ne fun h16 => ?_) (nz_eq (by omega) fun h16 => ?_)) | refine E_if_ne 27 d_Re_readPlain_16 rfl (fun h16 => ?_) (fun h16 => ?_)
        rotate_left
        · exfalso; exact c1 ⟨h6, h16⟩
        first | refine E_aload_n d_Re_readPlain_27 rfl ?_ | refine E_aload_nN d_Re_readPlain_27 rfl ?_
        refine E_getI d_Re_readPlain_28 gf_Re_102 (by exact hG.s (by decide) rfl) (by exact h.w) ?_
        refine E_sipush (v := nI 9999) d_Re_readPlain_31 (by decide) ?_
        first | (with_reducible refine E_isN2 ?_; refine E_icmp_le 45 d_Re_readPlain_34 rfl (nb_le (by omega) (by omega) fun h34 => ?_) (nb_nle (by omega) (by omega) fun h34 => ?_)) | refine E_icmp_le 45 d_Re_readPlain_34 rfl (fun h34 => ?_) (fun h34 => ?_)
        · exfalso; omega
        first | refine E_aload_n d_Re_readPlain_37 rfl ?_ | refine E_aload_nN d_Re_readPlain_37 rfl ?_
        refine E_iconst (v := nI 2) d_Re_readPlain_38 rfl ?_
        refine E_V1 (sp_Re_fail (f := 2) hG h h3 (by decide) (by decide)) d_Re_readPlain_39 ml_Re_108 cb_Re_fail cv_Re_fail (by exact hG.s (by decide) rfl) ⟨by decide, rfl⟩ ⟨by decide, by decide⟩ rfl (Nat.le_of_ble_eq_true rfl) (Nat.le_of_ble_eq_true rfl) (kV fun M1 hc => ?_)
        skip
        refine E_goto 86 d_Re_readPlain_42 rfl ?_
        refine E_retV d_Re_readPlain_86 rfl ?_
        exact P1 e _ hc
    · by_cases c3 : SS l k = 25 ∧ sw ≠ 1
      · have e : plainR (SS l) (VV l) sw k = rF 5 k := by unfold plainR; rw [if_neg c1, if_neg c2, if_pos c3]
        first | refine E_aload_n d_Re_readPlain_0 rfl ?_ | refine E_aload_nN d_Re_readPlain_0 rfl ?_
        refine E_getI d_Re_readPlain_1 gf_Re_61 (by exact hG.s (by decide) rfl) (by exact h.s) ?_
        refine E_bipush (v := nI 39) d_Re_readPlain_4 (by decide) ?_
        first | (with_reducible refine E_isN2 ?_; refine E_icmp_eq 27 d_Re_readPlain_6 rfl (nb_eq (by omega) (by omega) fun h6 => ?_) (nb_ne fun h6 => ?_)) | refine E_icmp_eq 27 d_Re_readPlain_6 rfl (fun h6 => ?_) (fun h6 => ?_)
        · first | refine E_aload_n d_Re_readPlain_27 rfl ?_ | refine E_aload_nN d_Re_readPlain_27 rfl ?_
          refine E_getI d_Re_readPlain_28 gf_Re_102 (by exact hG.s (by decide) rfl) (by exact h.w) ?_
          refine E_sipush (v := nI 9999) d_Re_readPlain_31 (by decide) ?_
          first | (with_reducible refine E_isN2 ?_; refine E_icmp_le 45 d_Re_readPlain_34 rfl (nb_le (by omega) (by omega) fun h34 => ?_) (nb_nle (by omega) (by omega) fun h34 => ?_)) | refine E_icmp_le 45 d_Re_readPlain_34 rfl (fun h34 => ?_) (fun h34 => ?_)
          rotate_left
          · exfalso; omega
          first | refine E_aload_n d_Re_readPlain_45 rfl ?_ | refine E_aload_nN d_Re_readPlain_45 rfl ?_
          refine E_getI d_Re_readPlain_46 gf_Re_61 (by exact hG.s (by decide) rfl) (by exact h.s) ?_
          refine E_bipush (v := nI 25) d_Re_readPlain_49 (by decide) ?_
          first | (with_reducible refine E_isN2 ?_; refine E_icmp_ne 70 d_Re_readPlain_51 rfl (nb_ne fun h51 => ?_) (nb_eq (by omega) (by omega) fun h51 => ?_)) | refine E_icmp_ne 70 d_Re_readPlain_51 rfl (fun h51 => ?_) (fun h51 => ?_)
          · exfalso; omega
          first | refine E_aload_n d_Re_readPlain_54 rfl ?_ | refine E_aload_nN d_Re_readPlain_54 rfl ?_
          refine E_getI d_Re_readPlain_55 gf_Re_116 (by exact hG.s (by decide) rfl) (by exact h.law) ?_
          refine E_iconst (v := nI 1) d_Re_readPlain_58 rfl ?_
          first | (with_reducible refine E_isN2 ?_; refine E_icmp_eq 70 d_Re_readPlain_59 rfl (nb_eq (by omega) (by omega) fun h59 => ?_) (nb_ne fun h59 => ?_)) | refine E_icmp_eq 70 d_Re_readPlain_59 rfl (fun h59 => ?_) (fun h59 => ?_)
          · exfalso; omega
          first | refine E_aload_n d_Re_readPlain_62 rfl ?_ | refine E_aload_nN d_Re_readPlain_62 rfl ?_
          refine E_iconst (v := nI 5) d_Re_readPlain_63 rfl ?_
          refine E_V1 (sp_Re_fail (f := 5) hG h h3 (by decide) (by decide)) d_Re_readPlain_64 ml_Re_108 cb_Re_fail cv_Re_fail (by exact hG.s (by decide) rfl) ⟨by decide, rfl⟩ ⟨by decide, by decide⟩ rfl (Nat.le_of_ble_eq_true rfl) (Nat.le_of_ble_eq_true rfl) (kV fun M1 hc => ?_)
          skip
          refine E_goto 86 d_Re_readPlain_67 rfl ?_
          refine E_retV d_Re_readPlain_86 rfl ?_
          exact P1 e _ hc
        · first | refine E_aload_n d_Re_readPlain_9 rfl ?_ | refine E_aload_nN d_Re_readPlain_9 rfl ?_
          refine E_getI d_Re_readPlain_10 gf_Re_61 (by exact hG.s (by decide) rfl) (by exact h.s) ?_
          refine E_S1 (sp_Sg_isName hs) d_Re_readPlain_13 ml_Re_161 cb_Sg_isName cs_Sg_isName ⟨by decide, by decide⟩ rfl (Nat.le_of_ble_eq_true rfl) (Nat.le_of_ble_eq_true rfl) (kI fun r1 M1 hc => ?_)
          obtain ⟨rfl, rfl⟩ := hc
          first | (with_reducible refine E_isP ?_; refine E_if_ne 27 d_Re_readPlain_16 rfl (pb_1 fun h16 => ?_) (pb_0 fun h16 => ?_)) | (with_reducible refine E_isN1 ?_; refine E_if_ne 27 d_Re_readPlain_16 rfl (nz_ne fun h16 => ?_) (nz_eq (by omega) fun h16 => ?_)) | refine E_if_ne 27 d_Re_readPlain_16 rfl (fun h16 => ?_) (fun h16 => ?_)
          rotate_left
          · exfalso; exact c1 ⟨h6, h16⟩
          first | refine E_aload_n d_Re_readPlain_27 rfl ?_ | refine E_aload_nN d_Re_readPlain_27 rfl ?_
          refine E_getI d_Re_readPlain_28 gf_Re_102 (by exact hG.s (by decide) rfl) (by exact h.w) ?_
          refine E_sipush (v := nI 9999) d_Re_readPlain_31 (by decide) ?_
          first | (with_reducible refine E_isN2 ?_; refine E_icmp_le 45 d_Re_readPlain_34 rfl (nb_le (by omega) (by omega) fun h34 => ?_) (nb_nle (by omega) (by omega) fun h34 => ?_)) | refine E_icmp_le 45 d_Re_readPlain_34 rfl (fun h34 => ?_) (fun h34 => ?_)
          rotate_left
          · exfalso; omega
          first | refine E_aload_n d_Re_readPlain_45 rfl ?_ | refine E_aload_nN d_Re_readPlain_45 rfl ?_
          refine E_getI d_Re_readPlain_46 gf_Re_61 (by exact hG.s (by decide) rfl) (by exact h.s) ?_
          refine E_bipush (v := nI 25) d_Re_readPlain_49 (by decide) ?_
          first | (with_reducible refine E_isN2 ?_; refine E_icmp_ne 70 d_Re_readPlain_51 rfl (nb_ne fun h51 => ?_) (nb_eq (by omega) (by omega) fun h51 => ?_)) | refine E_icmp_ne 70 d_Re_readPlain_51 rfl (fun h51 => ?_) (fun h51 => ?_)
          · exfalso; omega
          first | refine E_aload_n d_Re_readPlain_54 rfl ?_ | refine E_aload_nN d_Re_readPlain_54 rfl ?_
          refine E_getI d_Re_readPlain_55 gf_Re_116 (by exact hG.s (by decide) rfl) (by exact h.law) ?_
          refine E_iconst (v := nI 1) d_Re_readPlain_58 rfl ?_
          first | (with_reducible refine E_isN2 ?_; refine E_icmp_eq 70 d_Re_readPlain_59 rfl (nb_eq (by omega) (by omega) fun h59 => ?_) (nb_ne fun h59 => ?_)) | refine E_icmp_eq 70 d_Re_readPlain_59 rfl (fun h59 => ?_) (fun h59 => ?_)
          · exfalso; omega
          first | refine E_aload_n d_Re_readPlain_62 rfl ?_ | refine E_aload_nN d_Re_readPlain_62 rfl ?_
          refine E_iconst (v := nI 5) d_Re_readPlain_63 rfl ?_
          refine E_V1 (sp_Re_fail (f := 5) hG h h3 (by decide) (by decide)) d_Re_readPlain_64 ml_Re_108 cb_Re_fail cv_Re_fail (by exact hG.s (by decide) rfl) ⟨by decide, rfl⟩ ⟨by decide, by decide⟩ rfl (Nat.le_of_ble_eq_true rfl) (Nat.le_of_ble_eq_true rfl) (kV fun M1 hc => ?_)
          skip
          refine E_goto 86 d_Re_readPlain_67 rfl ?_
          refine E_retV d_Re_readPlain_86 rfl ?_
          exact P1 e _ hc
      · have e : plainR (SS l) (VV l) sw k = (0, k + 1, [if SS l k = 39 then (0, VV l k) else (1, nmI (SS l k))], [(SS l k, VV l k)]) := by unfold plainR; rw [if_neg c1, if_neg c2, if_neg c3]
        have h40 : SS l k ≠ 40 := by omega
        have fin : ∀ M1, RS l sw k (b + 1) M1 ∧ cdAt [(SS l k, VV l k)] b M1 ∧ kpB b M M1 ∧ Fo 225 J7 AR M M1 → ∀ M2, RS l sw (k + 1) (b + 1) M2 ∧ Fo 225 J1 An M1 M2 → PR l sw (plainR (SS l) (VV l) sw k) b M M2 := fun M1 q1 M2 q2 => by
          rw [e]
          have kk : ∀ n, kpB n M1 M2 := fun n => kpB.an q2.2
          exact ⟨q1.2.2.2.j7.tr q2.2.j1, fun _ => ⟨q2.1, q1.2.1.kp (kk (b + 1)) (Nat.le_refl _), q1.2.2.1.tr (kk b)⟩, fun q => absurd rfl q⟩
        first | refine E_aload_n d_Re_readPlain_0 rfl ?_ | refine E_aload_nN d_Re_readPlain_0 rfl ?_
        refine E_getI d_Re_readPlain_1 gf_Re_61 (by exact hG.s (by decide) rfl) (by exact h.s) ?_
        refine E_bipush (v := nI 39) d_Re_readPlain_4 (by decide) ?_
        first | (with_reducible refine E_isN2 ?_; refine E_icmp_eq 27 d_Re_readPlain_6 rfl (nb_eq (by omega) (by omega) fun h6 => ?_) (nb_ne fun h6 => ?_)) | refine E_icmp_eq 27 d_Re_readPlain_6 rfl (fun h6 => ?_) (fun h6 => ?_)
        · first | refine E_aload_n d_Re_readPlain_27 rfl ?_ | refine E_aload_nN d_Re_readPlain_27 rfl ?_
          refine E_getI d_Re_readPlain_28 gf_Re_102 (by exact hG.s (by decide) rfl) (by exact h.w) ?_
          refine E_sipush (v := nI 9999) d_Re_readPlain_31 (by decide) ?_
          first | (with_reducible refine E_isN2 ?_; refine E_icmp_le 45 d_Re_readPlain_34 rfl (nb_le (by omega) (by omega) fun h34 => ?_) (nb_nle (by omega) (by omega) fun h34 => ?_)) | refine E_icmp_le 45 d_Re_readPlain_34 rfl (fun h34 => ?_) (fun h34 => ?_)
          rotate_left
          · exfalso; omega
          first | refine E_aload_n d_Re_readPlain_45 rfl ?_ | refine E_aload_nN d_Re_readPlain_45 rfl ?_
          refine E_getI d_Re_readPlain_46 gf_Re_61 (by exact hG.s (by decide) rfl) (by exact h.s) ?_
          refine E_bipush (v := nI 25) d_Re_readPlain_49 (by decide) ?_
          first | (with_reducible refine E_isN2 ?_; refine E_icmp_ne 70 d_Re_readPlain_51 rfl (nb_ne fun h51 => ?_) (nb_eq (by omega) (by omega) fun h51 => ?_)) | refine E_icmp_ne 70 d_Re_readPlain_51 rfl (fun h51 => ?_) (fun h51 => ?_)
          · first | refine E_aload_n d_Re_readPlain_70 rfl ?_ | refine E_aload_nN d_Re_readPlain_70 rfl ?_
            first | refine E_aload_n d_Re_readPlain_71 rfl ?_ | refine E_aload_nN d_Re_readPlain_71 rfl ?_
            refine E_getI d_Re_readPlain_72 gf_Re_61 (by exact hG.s (by decide) rfl) (by exact h.s) ?_
            first | refine E_aload_n d_Re_readPlain_75 rfl ?_ | refine E_aload_nN d_Re_readPlain_75 rfl ?_
            refine E_getI d_Re_readPlain_76 gf_Re_102 (by exact hG.s (by decide) rfl) (by exact h.w) ?_
            refine E_V2 (sp_Re_write hG h (hlen h40)) d_Re_readPlain_79 ml_Re_142 cb_Re_write cv_Re_write (by exact hG.s (by decide) rfl) ⟨by decide, rfl⟩ ⟨by decide, by decide⟩ rfl (Nat.le_of_ble_eq_true rfl) (Nat.le_of_ble_eq_true rfl) (kV fun M1 hc => ?_)
            have w1 := hc
            first | refine E_aload_n d_Re_readPlain_82 rfl ?_ | refine E_aload_nN d_Re_readPlain_82 rfl ?_
            refine E_V0 (sp_Re_advance hG w1.1 h3 h40) d_Re_readPlain_83 ml_Re_58 cb_Re_advance cv_Re_advance (by exact hG.s (by decide) rfl) ⟨by decide, rfl⟩ ⟨by decide, by decide⟩ rfl (Nat.le_of_ble_eq_true rfl) (Nat.le_of_ble_eq_true rfl) (kV fun M1 hc => ?_)
            skip
            refine E_retV d_Re_readPlain_86 rfl ?_
            exact fin _ w1 _ hc
          · first | refine E_aload_n d_Re_readPlain_54 rfl ?_ | refine E_aload_nN d_Re_readPlain_54 rfl ?_
            refine E_getI d_Re_readPlain_55 gf_Re_116 (by exact hG.s (by decide) rfl) (by exact h.law) ?_
            refine E_iconst (v := nI 1) d_Re_readPlain_58 rfl ?_
            first | (with_reducible refine E_isN2 ?_; refine E_icmp_eq 70 d_Re_readPlain_59 rfl (nb_eq (by omega) (by omega) fun h59 => ?_) (nb_ne fun h59 => ?_)) | refine E_icmp_eq 70 d_Re_readPlain_59 rfl (fun h59 => ?_) (fun h59 => ?_)
            rotate_left
            · exfalso; omega
            first | refine E_aload_n d_Re_readPlain_70 rfl ?_ | refine E_aload_nN d_Re_readPlain_70 rfl ?_
            first | refine E_aload_n d_Re_readPlain_71 rfl ?_ | refine E_aload_nN d_Re_readPlain_71 rfl ?_
            refine E_getI d_Re_readPlain_72 gf_Re_61 (by exact hG.s (by decide) rfl) (by exact h.s) ?_
            first | refine E_aload_n d_Re_readPlain_75 rfl ?_ | refine E_aload_nN d_Re_readPlain_75 rfl ?_
            refine E_getI d_Re_readPlain_76 gf_Re_102 (by exact hG.s (by decide) rfl) (by exact h.w) ?_
            refine E_V2 (sp_Re_write hG h (hlen h40)) d_Re_readPlain_79 ml_Re_142 cb_Re_write cv_Re_write (by exact hG.s (by decide) rfl) ⟨by decide, rfl⟩ ⟨by decide, by decide⟩ rfl (Nat.le_of_ble_eq_true rfl) (Nat.le_of_ble_eq_true rfl) (kV fun M1 hc => ?_)
            have w1 := hc
            first | refine E_aload_n d_Re_readPlain_82 rfl ?_ | refine E_aload_nN d_Re_readPlain_82 rfl ?_
            refine E_V0 (sp_Re_advance hG w1.1 h3 h40) d_Re_readPlain_83 ml_Re_58 cb_Re_advance cv_Re_advance (by exact hG.s (by decide) rfl) ⟨by decide, rfl⟩ ⟨by decide, by decide⟩ rfl (Nat.le_of_ble_eq_true rfl) (Nat.le_of_ble_eq_true rfl) (kV fun M1 hc => ?_)
            skip
            refine E_retV d_Re_readPlain_86 rfl ?_
            exact fin _ w1 _ hc
        · first | refine E_aload_n d_Re_readPlain_9 rfl ?_ | refine E_aload_nN d_Re_readPlain_9 rfl ?_
          refine E_getI d_Re_readPlain_10 gf_Re_61 (by exact hG.s (by decide) rfl) (by exact h.s) ?_
          refine E_S1 (sp_Sg_isName hs) d_Re_readPlain_13 ml_Re_161 cb_Sg_isName cs_Sg_isName ⟨by decide, by decide⟩ rfl (Nat.le_of_ble_eq_true rfl) (Nat.le_of_ble_eq_true rfl) (kI fun r1 M1 hc => ?_)
          obtain ⟨rfl, rfl⟩ := hc
          first | (with_reducible refine E_isP ?_; refine E_if_ne 27 d_Re_readPlain_16 rfl (pb_1 fun h16 => ?_) (pb_0 fun h16 => ?_)) | (with_reducible refine E_isN1 ?_; refine E_if_ne 27 d_Re_readPlain_16 rfl (nz_ne fun h16 => ?_) (nz_eq (by omega) fun h16 => ?_)) | refine E_if_ne 27 d_Re_readPlain_16 rfl (fun h16 => ?_) (fun h16 => ?_)
          rotate_left
          · exfalso; exact c1 ⟨h6, h16⟩
          first | refine E_aload_n d_Re_readPlain_27 rfl ?_ | refine E_aload_nN d_Re_readPlain_27 rfl ?_
          refine E_getI d_Re_readPlain_28 gf_Re_102 (by exact hG.s (by decide) rfl) (by exact h.w) ?_
          refine E_sipush (v := nI 9999) d_Re_readPlain_31 (by decide) ?_
          first | (with_reducible refine E_isN2 ?_; refine E_icmp_le 45 d_Re_readPlain_34 rfl (nb_le (by omega) (by omega) fun h34 => ?_) (nb_nle (by omega) (by omega) fun h34 => ?_)) | refine E_icmp_le 45 d_Re_readPlain_34 rfl (fun h34 => ?_) (fun h34 => ?_)
          rotate_left
          · exfalso; omega
          first | refine E_aload_n d_Re_readPlain_45 rfl ?_ | refine E_aload_nN d_Re_readPlain_45 rfl ?_
          refine E_getI d_Re_readPlain_46 gf_Re_61 (by exact hG.s (by decide) rfl) (by exact h.s) ?_
          refine E_bipush (v := nI 25) d_Re_readPlain_49 (by decide) ?_
          first | (with_reducible refine E_isN2 ?_; refine E_icmp_ne 70 d_Re_readPlain_51 rfl (nb_ne fun h51 => ?_) (nb_eq (by omega) (by omega) fun h51 => ?_)) | refine E_icmp_ne 70 d_Re_readPlain_51 rfl (fun h51 => ?_) (fun h51 => ?_)
          · first | refine E_aload_n d_Re_readPlain_70 rfl ?_ | refine E_aload_nN d_Re_readPlain_70 rfl ?_
            first | refine E_aload_n d_Re_readPlain_71 rfl ?_ | refine E_aload_nN d_Re_readPlain_71 rfl ?_
            refine E_getI d_Re_readPlain_72 gf_Re_61 (by exact hG.s (by decide) rfl) (by exact h.s) ?_
            first | refine E_aload_n d_Re_readPlain_75 rfl ?_ | refine E_aload_nN d_Re_readPlain_75 rfl ?_
            refine E_getI d_Re_readPlain_76 gf_Re_102 (by exact hG.s (by decide) rfl) (by exact h.w) ?_
            refine E_V2 (sp_Re_write hG h (hlen h40)) d_Re_readPlain_79 ml_Re_142 cb_Re_write cv_Re_write (by exact hG.s (by decide) rfl) ⟨by decide, rfl⟩ ⟨by decide, by decide⟩ rfl (Nat.le_of_ble_eq_true rfl) (Nat.le_of_ble_eq_true rfl) (kV fun M1 hc => ?_)
            have w1 := hc
            first | refine E_aload_n d_Re_readPlain_82 rfl ?_ | refine E_aload_nN d_Re_readPlain_82 rfl ?_
            refine E_V0 (sp_Re_advance hG w1.1 h3 h40) d_Re_readPlain_83 ml_Re_58 cb_Re_advance cv_Re_advance (by exact hG.s (by decide) rfl) ⟨by decide, rfl⟩ ⟨by decide, by decide⟩ rfl (Nat.le_of_ble_eq_true rfl) (Nat.le_of_ble_eq_true rfl) (kV fun M1 hc => ?_)
            skip
            refine E_retV d_Re_readPlain_86 rfl ?_
            exact fin _ w1 _ hc
          · first | refine E_aload_n d_Re_readPlain_54 rfl ?_ | refine E_aload_nN d_Re_readPlain_54 rfl ?_
            refine E_getI d_Re_readPlain_55 gf_Re_116 (by exact hG.s (by decide) rfl) (by exact h.law) ?_
            refine E_iconst (v := nI 1) d_Re_readPlain_58 rfl ?_
            first | (with_reducible refine E_isN2 ?_; refine E_icmp_eq 70 d_Re_readPlain_59 rfl (nb_eq (by omega) (by omega) fun h59 => ?_) (nb_ne fun h59 => ?_)) | refine E_icmp_eq 70 d_Re_readPlain_59 rfl (fun h59 => ?_) (fun h59 => ?_)
            rotate_left
            · exfalso; omega
            first | refine E_aload_n d_Re_readPlain_70 rfl ?_ | refine E_aload_nN d_Re_readPlain_70 rfl ?_
            first | refine E_aload_n d_Re_readPlain_71 rfl ?_ | refine E_aload_nN d_Re_readPlain_71 rfl ?_
            refine E_getI d_Re_readPlain_72 gf_Re_61 (by exact hG.s (by decide) rfl) (by exact h.s) ?_
            first | refine E_aload_n d_Re_readPlain_75 rfl ?_ | refine E_aload_nN d_Re_readPlain_75 rfl ?_
            refine E_getI d_Re_readPlain_76 gf_Re_102 (by exact hG.s (by decide) rfl) (by exact h.w) ?_
            refine E_V2 (sp_Re_write hG h (hlen h40)) d_Re_readPlain_79 ml_Re_142 cb_Re_write cv_Re_write (by exact hG.s (by decide) rfl) ⟨by decide, rfl⟩ ⟨by decide, by decide⟩ rfl (Nat.le_of_ble_eq_true rfl) (Nat.le_of_ble_eq_true rfl) (kV fun M1 hc => ?_)
            have w1 := hc
            first | refine E_aload_n d_Re_readPlain_82 rfl ?_ | refine E_aload_nN d_Re_readPlain_82 rfl ?_
            refine E_V0 (sp_Re_advance hG w1.1 h3 h40) d_Re_readPlain_83 ml_Re_58 cb_Re_advance cv_Re_advance (by exact hG.s (by decide) rfl) ⟨by decide, rfl⟩ ⟨by decide, by decide⟩ rfl (Nat.le_of_ble_eq_true rfl) (Nat.le_of_ble_eq_true rfl) (kV fun M1 hc => ?_)
            skip
            refine E_retV d_Re_readPlain_86 rfl ?_
            exact fin _ w1 _ hc
def EP (Y : MI) (ls : List (Option Value)) (G : Geo) (l : List Nat) (sw d : Nat) (f : Nat → Nat → Res) : Prop := ∀ k b M, RS l sw k b M → b ≤ k → E d 0 0 Y 0 ls [] G M (QV G fun M' => PR l sw (f k b) b M M')
def EF (Y : MI) (ls : List (Option Value)) (G : Geo) (l : List Nat) (d : Nat) : Prop := ∀ f p M, FS l f p M → E d 0 0 Y 0 ls [] G M (QV G fun M' => M' = M)
theorem PR.ad {r q : Res} {b s o : Nat} {M1 M2 M3 : Mem} (h : PR l sw r b M M1) (h0 : r.f = 0) (hA : Fo 225 JR AR M1 M2) (hk : kpB (b + r.cc.length) M1 M2) (g : PR l sw q (b + r.cc.length) M2 M3) :
    (q.f = 0 → RS l sw q.k (b + r.cc.length + q.cc.length) M3) ∧ (q.f ≠ 0 → FS l q.f q.k M3) ∧
    (∀ M4, q.f = 0 → RS l sw q.k (b + r.cc.length + q.cc.length + 1) M4 ∧ cdAt [(s, 0)] (b + r.cc.length + q.cc.length) M4 ∧ kpB (b + r.cc.length + q.cc.length) M3 M4 ∧ Fo 225 J7 AR M3 M4 → PR l sw (addR r q o s) b M M4) ∧
    (∀ M4, q.f ≠ 0 → FS l q.f q.k M4 ∧ Fo 225 J7 AR M3 M4 → PR l sw (addR r q o s) b M M4) := by
  obtain ⟨x1, x2, -⟩ := h
  obtain ⟨x3, x4⟩ := x2 h0
  obtain ⟨y1, y2, y3⟩ := g
  refine ⟨fun q0 => (y2 q0).1, fun q0 => y3 q0, fun M4 q0 hw => ?_, fun M4 q0 hw => ?_⟩
  · obtain ⟨z1, z2, z3⟩ := y2 q0
    obtain ⟨w1, w2, w3, w4⟩ := hw
    rw [addR_ok q0]
    refine ⟨((x1.tr hA).tr y1).tr w4.j7, fun _ => ⟨?_, ?_, ?_⟩, fun e => absurd rfl e⟩
    · show RS l sw q.k (b + (r.cc ++ q.cc ++ [(s, 0)]).length) M4
      have el : b + (r.cc ++ q.cc ++ [((s : Nat), (0 : Nat))] : List (Nat × Nat)).length = b + r.cc.length + q.cc.length + 1 := by simp only [List.length_append, List.length_cons, List.length_nil]; omega
      exact Eq.mpr (congrArg (fun n => RS l sw q.k n M4) el) w1
    · show cdAt (r.cc ++ q.cc ++ [(s, 0)]) b M4
      have u1 : cdAt r.cc b M4 := ((x4.1.kp hk (Nat.le_refl _)).kp z3 (Nat.le_refl _)).kp (w3.le (Nat.le_add_right _ _)) (Nat.le_refl _)
      have u2 : cdAt q.cc (b + r.cc.length) M4 := z2.kp w3 (Nat.le_refl _)
      refine (u1.app u2).app ?_
      rw [List.length_append, ← Nat.add_assoc]
      exact w2
    · exact ((x4.2.tr (hk.le (Nat.le_add_right _ _))).tr (z3.le (Nat.le_add_right _ _))).tr (w3.le (by omega))
  · have e : addR r q o s = q := if_neg q0
    rw [e]
    exact ⟨((x1.tr hA).tr y1).tr hw.2.j7, fun z => absurd z q0, fun _ => hw.1⟩
theorem lp_Re_readProduct (hG : GC G) (h3 : l.length ≤ 300) {d o : Nat} {g : Nat → Nat → Res} (hg : EP Y_Re_readOne [some (.ref 225), some (.int (nI o)), none] G l sw d g) (hgd : GdF (SS l) g) {k b : Nat} (hb : b ≤ k) {M0 : Mem} : ∀ n i, i + n = 300 → ∀ r M, Gd (SS l) k r → PR l sw r b M0 M → ∀ x3 : Option Value, E (d + 1 + 2) 0 0 Y_Re_readProduct 7 [some (.ref 225), some (.int (nI o)), some (.int (nI i)), x3] [] G M (QV G fun M' => PR l sw (chn (SS l) jMul oBi g b n r) b M0 M') := by
  intro n
  induction n with
  | zero =>
    intro i hi r M hr hP x3
    have e : i = 300 := by omega
    subst e
    refine E_iload_n d_Re_readProduct_7 rfl ?_
    refine E_sipush (v := nI 300) d_Re_readProduct_8 (by decide) ?_
    first | (with_reducible refine E_isN2 ?_; refine E_icmp_ge 54 d_Re_readProduct_11 rfl (nb_le (by omega) (by omega) fun h11 => ?_) (nb_nle (by omega) (by omega) fun h11 => ?_)) | refine E_icmp_ge 54 d_Re_readProduct_11 rfl (fun h11 => ?_) (fun h11 => ?_)
    rotate_left
    · exfalso; omega
    refine E_retV d_Re_readProduct_54 rfl ?_
    exact hP
  | succ n ih =>
    intro i hi r M hr hP x3
    by_cases h0 : r.f = 0
    · have hs := (hP.2.1 h0).1
      have hR := hs.R
      have hsr := SS_rg l r.k
      by_cases hJ : jMul (SS l r.k) = true
      · have hJ2 := jMul_iff.mp hJ
        have h40 : SS l r.k ≠ 40 := by omega
        obtain ⟨c1, c2, c3⟩ := hr.2.2.2 h0
        have e : chn (SS l) jMul oBi g b (n + 1) r = chn (SS l) jMul oBi g b n (addR r (g (r.k + 1) (b + r.cc.length)) (oBi (SS l r.k)) (SS l r.k)) := by rw [chn, if_pos ⟨h0, hJ⟩]
        rw [e]
        have hgq := hgd (r.k + 1) (b + r.cc.length)
        have hga := Gd.add (o := oBi (SS l r.k)) (s := SS l r.k) hr h0 h40 hgq
        have hgc := fun M' (h : RS l sw (r.k + 1) (b + r.cc.length) M') => hg (r.k + 1) (b + r.cc.length) M' h (by omega)
        generalize g (r.k + 1) (b + r.cc.length) = q at *
        have K : ∀ M2 M3, Fo 225 JR AR M M2 → kpB (b + r.cc.length) M M2 → PR l sw q (b + r.cc.length) M2 M3 → E (d + 1 + 2) 0 0 Y_Re_readProduct 42 [some (.ref 225), some (.int (nI o)), some (.int (nI i)), some (.int (nI (SS l r.k)))] [] G M3 (QV G fun M' => PR l sw (chn (SS l) jMul oBi g b n (addR r q (oBi (SS l r.k)) (SS l r.k))) b M0 M') := by
          intro M2 M3 hA hk hq
          obtain ⟨p1, p2, p3, p4⟩ := hP.ad (o := oBi (SS l r.k)) (s := SS l r.k) h0 hA hk hq
          clear hs hR
          by_cases q0 : q.f = 0
          · obtain ⟨d1, d2, d3⟩ := hgq.2.2.2 q0
            have hs2 := p1 q0
            have hvl := hs2.v.le
            first | refine E_aload_n d_Re_readProduct_42 rfl ?_ | refine E_aload_nN d_Re_readProduct_42 rfl ?_
            refine E_iload_n d_Re_readProduct_43 rfl ?_
            refine E_iconst (v := nI 0) d_Re_readProduct_44 rfl ?_
            refine E_V2 (sp_Re_write hG hs2 (by omega)) d_Re_readProduct_45 ml_Re_142 cb_Re_write cv_Re_write (by exact hG.s (by decide) rfl) ⟨by decide, rfl⟩ ⟨by omega, by decide⟩ rfl (Nat.le_of_ble_eq_true rfl) (Nat.le_of_ble_eq_true rfl) (kV fun M1 hc => ?_)
            have p5 := p3 _ q0 hc
            first | (with_reducible refine E_isL2 ?_; refine E_iincN2 (m := 1) d_Re_readProduct_48 rfl rfl ?_) | refine E_iinc_2 d_Re_readProduct_48 rfl rfl ?_
            refine E_goto 7 d_Re_readProduct_51 rfl ?_
            exact ih (i + 1) (by omega) _ _ hga p5 _
          · first | refine E_aload_n d_Re_readProduct_42 rfl ?_ | refine E_aload_nN d_Re_readProduct_42 rfl ?_
            refine E_iload_n d_Re_readProduct_43 rfl ?_
            refine E_iconst (v := nI 0) d_Re_readProduct_44 rfl ?_
            refine E_V2 (sp_Re_writeF hG (p2 q0)) d_Re_readProduct_45 ml_Re_142 cb_Re_write cv_Re_write (by exact hG.s (by decide) rfl) ⟨by decide, rfl⟩ ⟨by omega, by decide⟩ rfl (Nat.le_of_ble_eq_true rfl) (Nat.le_of_ble_eq_true rfl) (kV fun M1 hc => ?_)
            have p5 := p4 _ q0 hc
            first | (with_reducible refine E_isL2 ?_; refine E_iincN2 (m := 1) d_Re_readProduct_48 rfl rfl ?_) | refine E_iinc_2 d_Re_readProduct_48 rfl rfl ?_
            refine E_goto 7 d_Re_readProduct_51 rfl ?_
            exact ih (i + 1) (by omega) _ _ hga p5 _
        refine E_iload_n d_Re_readProduct_7 rfl ?_
        refine E_sipush (v := nI 300) d_Re_readProduct_8 (by decide) ?_
        first | (with_reducible refine E_isN2 ?_; refine E_icmp_ge 54 d_Re_readProduct_11 rfl (nb_le (by omega) (by omega) fun h11 => ?_) (nb_nle (by omega) (by omega) fun h11 => ?_)) | refine E_icmp_ge 54 d_Re_readProduct_11 rfl (fun h11 => ?_) (fun h11 => ?_)
        · exfalso; omega
        first | refine E_aload_n d_Re_readProduct_14 rfl ?_ | refine E_aload_nN d_Re_readProduct_14 rfl ?_
        refine E_getI d_Re_readProduct_15 gf_Re_44 (by exact hG.s (by decide) rfl) (by exact hs.f) ?_
        first | (with_reducible refine E_isP ?_; refine E_if_ne 54 d_Re_readProduct_18 rfl (pb_1 fun h18 => ?_) (pb_0 fun h18 => ?_)) | (with_reducible refine E_isN1 ?_; refine E_if_ne 54 d_Re_readProduct_18 rfl (nz_ne fun h18 => ?_) (nz_eq (by omega) fun h18 => ?_)) | refine E_if_ne 54 d_Re_readProduct_18 rfl (fun h18 => ?_) (fun h18 => ?_)
        · exfalso; omega
        first | refine E_aload_n d_Re_readProduct_21 rfl ?_ | refine E_aload_nN d_Re_readProduct_21 rfl ?_
        refine E_V0 (sp_Re_isMultiplying hG hR hs.s hsr) d_Re_readProduct_22 ml_Re_149 cb_Re_isMultiplying cv_Re_isMultiplying (by exact hG.s (by decide) rfl) ⟨by decide, rfl⟩ ⟨by omega, by decide⟩ rfl (Nat.le_of_ble_eq_true rfl) (Nat.le_of_ble_eq_true rfl) (kI fun r1 M1 hc => ?_)
        obtain ⟨rfl, rfl⟩ := hc
        first | (with_reducible refine E_isP ?_; refine E_if_eq 54 d_Re_readProduct_25 rfl (pb_0 fun h25 => ?_) (pb_1 fun h25 => ?_)) | (with_reducible refine E_isN1 ?_; refine E_if_eq 54 d_Re_readProduct_25 rfl (nz_eq (by omega) fun h25 => ?_) (nz_ne fun h25 => ?_)) | refine E_if_eq 54 d_Re_readProduct_25 rfl (fun h25 => ?_) (fun h25 => ?_)
        · exfalso; exact h25 hJ
        first | refine E_aload_n d_Re_readProduct_28 rfl ?_ | refine E_aload_nN d_Re_readProduct_28 rfl ?_
        refine E_getI d_Re_readProduct_29 gf_Re_61 (by exact hG.s (by decide) rfl) (by exact hs.s) ?_
        refine E_istore_3 d_Re_readProduct_32 rfl ?_
        first | refine E_aload_n d_Re_readProduct_33 rfl ?_ | refine E_aload_nN d_Re_readProduct_33 rfl ?_
        refine E_V0 (sp_Re_advance hG hs h3 (by omega)) d_Re_readProduct_34 ml_Re_58 cb_Re_advance cv_Re_advance (by exact hG.s (by decide) rfl) ⟨by decide, rfl⟩ ⟨by omega, by decide⟩ rfl (Nat.le_of_ble_eq_true rfl) (Nat.le_of_ble_eq_true rfl) (kV fun M1 hc => ?_)
        have p6 := hc
        first | refine E_aload_n d_Re_readProduct_37 rfl ?_ | refine E_aload_nN d_Re_readProduct_37 rfl ?_
        refine E_iload_n d_Re_readProduct_38 rfl ?_
        refine E_V1 (hgc _ p6.1) d_Re_readProduct_39 ml_Re_146 cb_Re_readOne cv_Re_readOne (by exact hG.s (by decide) rfl) ⟨by decide, rfl⟩ ⟨by omega, by decide⟩ rfl (Nat.le_of_ble_eq_true rfl) (Nat.le_of_ble_eq_true rfl) (kV fun M1 hc => ?_)
        have p7 := hc
        exact K _ _ p6.2.j1 (kpB.an p6.2) p7
      · have e : chn (SS l) jMul oBi g b (n + 1) r = r := by rw [chn, if_neg (fun q => hJ q.2)]
        rw [e]
        refine E_iload_n d_Re_readProduct_7 rfl ?_
        refine E_sipush (v := nI 300) d_Re_readProduct_8 (by decide) ?_
        first | (with_reducible refine E_isN2 ?_; refine E_icmp_ge 54 d_Re_readProduct_11 rfl (nb_le (by omega) (by omega) fun h11 => ?_) (nb_nle (by omega) (by omega) fun h11 => ?_)) | refine E_icmp_ge 54 d_Re_readProduct_11 rfl (fun h11 => ?_) (fun h11 => ?_)
        · exfalso; omega
        first | refine E_aload_n d_Re_readProduct_14 rfl ?_ | refine E_aload_nN d_Re_readProduct_14 rfl ?_
        refine E_getI d_Re_readProduct_15 gf_Re_44 (by exact hG.s (by decide) rfl) (by exact hs.f) ?_
        first | (with_reducible refine E_isP ?_; refine E_if_ne 54 d_Re_readProduct_18 rfl (pb_1 fun h18 => ?_) (pb_0 fun h18 => ?_)) | (with_reducible refine E_isN1 ?_; refine E_if_ne 54 d_Re_readProduct_18 rfl (nz_ne fun h18 => ?_) (nz_eq (by omega) fun h18 => ?_)) | refine E_if_ne 54 d_Re_readProduct_18 rfl (fun h18 => ?_) (fun h18 => ?_)
        · exfalso; omega
        first | refine E_aload_n d_Re_readProduct_21 rfl ?_ | refine E_aload_nN d_Re_readProduct_21 rfl ?_
        refine E_V0 (sp_Re_isMultiplying hG hR hs.s hsr) d_Re_readProduct_22 ml_Re_149 cb_Re_isMultiplying cv_Re_isMultiplying (by exact hG.s (by decide) rfl) ⟨by decide, rfl⟩ ⟨by omega, by decide⟩ rfl (Nat.le_of_ble_eq_true rfl) (Nat.le_of_ble_eq_true rfl) (kI fun r1 M1 hc => ?_)
        obtain ⟨rfl, rfl⟩ := hc
        first | (with_reducible refine E_isP ?_; refine E_if_eq 54 d_Re_readProduct_25 rfl (pb_0 fun h25 => ?_) (pb_1 fun h25 => ?_)) | (with_reducible refine E_isN1 ?_; refine E_if_eq 54 d_Re_readProduct_25 rfl (nz_eq (by omega) fun h25 => ?_) (nz_ne fun h25 => ?_)) | refine E_if_eq 54 d_Re_readProduct_25 rfl (fun h25 => ?_) (fun h25 => ?_)
        rotate_left
        · exfalso; exact hJ h25
        refine E_retV d_Re_readProduct_54 rfl ?_
        exact hP
    · have e : chn (SS l) jMul oBi g b (n + 1) r = r := by rw [chn, if_neg (fun q => h0 q.1)]
      rw [e]
      have hf := hP.2.2 h0
      have hR := hf.1
      have hf0 := hf.2.2.2.2.1
      have hf6 := hf.2.2.2.2.2
      refine E_iload_n d_Re_readProduct_7 rfl ?_
      refine E_sipush (v := nI 300) d_Re_readProduct_8 (by decide) ?_
      first | (with_reducible refine E_isN2 ?_; refine E_icmp_ge 54 d_Re_readProduct_11 rfl (nb_le (by omega) (by omega) fun h11 => ?_) (nb_nle (by omega) (by omega) fun h11 => ?_)) | refine E_icmp_ge 54 d_Re_readProduct_11 rfl (fun h11 => ?_) (fun h11 => ?_)
      · exfalso; omega
      first | refine E_aload_n d_Re_readProduct_14 rfl ?_ | refine E_aload_nN d_Re_readProduct_14 rfl ?_
      refine E_getI d_Re_readProduct_15 gf_Re_44 (by exact hG.s (by decide) rfl) (by exact hf.2.2.1) ?_
      first | (with_reducible refine E_isP ?_; refine E_if_ne 54 d_Re_readProduct_18 rfl (pb_1 fun h18 => ?_) (pb_0 fun h18 => ?_)) | (with_reducible refine E_isN1 ?_; refine E_if_ne 54 d_Re_readProduct_18 rfl (nz_ne fun h18 => ?_) (nz_eq (by omega) fun h18 => ?_)) | refine E_if_ne 54 d_Re_readProduct_18 rfl (fun h18 => ?_) (fun h18 => ?_)
      rotate_left
      · exfalso; omega
      refine E_retV d_Re_readProduct_54 rfl ?_
      exact hP
theorem ep_Re_readProduct (hG : GC G) (h3 : l.length ≤ 300) {d o : Nat} {g : Nat → Nat → Res} (hg : EP Y_Re_readOne [some (.ref 225), some (.int (nI o)), none] G l sw d g) (hgd : GdF (SS l) g) : EP Y_Re_readProduct [some (.ref 225), some (.int (nI o)), none, none] G l sw (d + 1 + 2) (fun k b => chn (SS l) jMul oBi g b 300 (g k b)) := by
  intro k b M h hb
  have hgc := hg k b M h hb
  have LL := fun M1 (hP : PR l sw (g k b) b M M1) => lp_Re_readProduct hG h3 hg hgd hb 300 0 (Nat.zero_add _) (g k b) M1 (hgd k b) hP
  first | refine E_aload_n d_Re_readProduct_0 rfl ?_ | refine E_aload_nN d_Re_readProduct_0 rfl ?_
  refine E_iload_n d_Re_readProduct_1 rfl ?_
  refine E_V1 (hgc) d_Re_readProduct_2 ml_Re_146 cb_Re_readOne cv_Re_readOne (by exact hG.s (by decide) rfl) ⟨by decide, rfl⟩ ⟨by omega, by decide⟩ rfl (Nat.le_of_ble_eq_true rfl) (Nat.le_of_ble_eq_true rfl) (kV fun M1 hc => ?_)
  skip
  refine E_iconst (v := nI 0) d_Re_readProduct_5 rfl ?_
  refine E_istore_2 d_Re_readProduct_6 rfl ?_
  exact LL _ hc _
theorem ef_Re_readProduct (hG : GC G) {d o : Nat} (hg : EF Y_Re_readOne [some (.ref 225), some (.int (nI o)), none] G l d) : EF Y_Re_readProduct [some (.ref 225), some (.int (nI o)), none, none] G l (d + 1 + 2) := by
  intro f p M hf
  have hgc := hg f p M hf
  have hR := hf.1
  have hf0 := hf.2.2.2.2.1
  have hf6 := hf.2.2.2.2.2
  first | refine E_aload_n d_Re_readProduct_0 rfl ?_ | refine E_aload_nN d_Re_readProduct_0 rfl ?_
  refine E_iload_n d_Re_readProduct_1 rfl ?_
  refine E_V1 (hgc) d_Re_readProduct_2 ml_Re_146 cb_Re_readOne cv_Re_readOne (by exact hG.s (by decide) rfl) ⟨by decide, rfl⟩ ⟨by omega, by decide⟩ rfl (Nat.le_of_ble_eq_true rfl) (Nat.le_of_ble_eq_true rfl) (kV fun M1 hc => ?_)
  subst hc
  refine E_iconst (v := nI 0) d_Re_readProduct_5 rfl ?_
  refine E_istore_2 d_Re_readProduct_6 rfl ?_
  refine E_iload_n d_Re_readProduct_7 rfl ?_
  refine E_sipush (v := nI 300) d_Re_readProduct_8 (by decide) ?_
  first | (with_reducible refine E_isN2 ?_; refine E_icmp_ge 54 d_Re_readProduct_11 rfl (nb_le (by omega) (by omega) fun h11 => ?_) (nb_nle (by omega) (by omega) fun h11 => ?_)) | refine E_icmp_ge 54 d_Re_readProduct_11 rfl (fun h11 => ?_) (fun h11 => ?_)
  · exfalso; omega
  first | refine E_aload_n d_Re_readProduct_14 rfl ?_ | refine E_aload_nN d_Re_readProduct_14 rfl ?_
  refine E_getI d_Re_readProduct_15 gf_Re_44 (by exact hG.s (by decide) rfl) (by exact hf.2.2.1) ?_
  first | (with_reducible refine E_isP ?_; refine E_if_ne 54 d_Re_readProduct_18 rfl (pb_1 fun h18 => ?_) (pb_0 fun h18 => ?_)) | (with_reducible refine E_isN1 ?_; refine E_if_ne 54 d_Re_readProduct_18 rfl (nz_ne fun h18 => ?_) (nz_eq (by omega) fun h18 => ?_)) | refine E_if_ne 54 d_Re_readProduct_18 rfl (fun h18 => ?_) (fun h18 => ?_)
  rotate_left
  · exfalso; omega
  refine E_retV d_Re_readProduct_54 rfl ?_
  rfl
theorem lp_Re_readSum (hG : GC G) (h3 : l.length ≤ 300) {d o : Nat} {g : Nat → Nat → Res} (hg : EP Y_Re_readProduct [some (.ref 225), some (.int (nI o)), none, none] G l sw d g) (hgd : GdF (SS l) g) {k b : Nat} (hb : b ≤ k) {M0 : Mem} : ∀ n i, i + n = 300 → ∀ r M, Gd (SS l) k r → PR l sw r b M0 M → ∀ x3 : Option Value, E (d + 1 + 2) 0 0 Y_Re_readSum 7 [some (.ref 225), some (.int (nI o)), some (.int (nI i)), x3] [] G M (QV G fun M' => PR l sw (chn (SS l) jAdd oBi g b n r) b M0 M') := by
  intro n
  induction n with
  | zero =>
    intro i hi r M hr hP x3
    have e : i = 300 := by omega
    subst e
    refine E_iload_n d_Re_readSum_7 rfl ?_
    refine E_sipush (v := nI 300) d_Re_readSum_8 (by decide) ?_
    first | (with_reducible refine E_isN2 ?_; refine E_icmp_ge 54 d_Re_readSum_11 rfl (nb_le (by omega) (by omega) fun h11 => ?_) (nb_nle (by omega) (by omega) fun h11 => ?_)) | refine E_icmp_ge 54 d_Re_readSum_11 rfl (fun h11 => ?_) (fun h11 => ?_)
    rotate_left
    · exfalso; omega
    refine E_retV d_Re_readSum_54 rfl ?_
    exact hP
  | succ n ih =>
    intro i hi r M hr hP x3
    by_cases h0 : r.f = 0
    · have hs := (hP.2.1 h0).1
      have hR := hs.R
      have hsr := SS_rg l r.k
      by_cases hJ : jAdd (SS l r.k) = true
      · have hJ2 := jAdd_iff.mp hJ
        have h40 : SS l r.k ≠ 40 := by omega
        obtain ⟨c1, c2, c3⟩ := hr.2.2.2 h0
        have e : chn (SS l) jAdd oBi g b (n + 1) r = chn (SS l) jAdd oBi g b n (addR r (g (r.k + 1) (b + r.cc.length)) (oBi (SS l r.k)) (SS l r.k)) := by rw [chn, if_pos ⟨h0, hJ⟩]
        rw [e]
        have hgq := hgd (r.k + 1) (b + r.cc.length)
        have hga := Gd.add (o := oBi (SS l r.k)) (s := SS l r.k) hr h0 h40 hgq
        have hgc := fun M' (h : RS l sw (r.k + 1) (b + r.cc.length) M') => hg (r.k + 1) (b + r.cc.length) M' h (by omega)
        generalize g (r.k + 1) (b + r.cc.length) = q at *
        have K : ∀ M2 M3, Fo 225 JR AR M M2 → kpB (b + r.cc.length) M M2 → PR l sw q (b + r.cc.length) M2 M3 → E (d + 1 + 2) 0 0 Y_Re_readSum 42 [some (.ref 225), some (.int (nI o)), some (.int (nI i)), some (.int (nI (SS l r.k)))] [] G M3 (QV G fun M' => PR l sw (chn (SS l) jAdd oBi g b n (addR r q (oBi (SS l r.k)) (SS l r.k))) b M0 M') := by
          intro M2 M3 hA hk hq
          obtain ⟨p1, p2, p3, p4⟩ := hP.ad (o := oBi (SS l r.k)) (s := SS l r.k) h0 hA hk hq
          clear hs hR
          by_cases q0 : q.f = 0
          · obtain ⟨d1, d2, d3⟩ := hgq.2.2.2 q0
            have hs2 := p1 q0
            have hvl := hs2.v.le
            first | refine E_aload_n d_Re_readSum_42 rfl ?_ | refine E_aload_nN d_Re_readSum_42 rfl ?_
            refine E_iload_n d_Re_readSum_43 rfl ?_
            refine E_iconst (v := nI 0) d_Re_readSum_44 rfl ?_
            refine E_V2 (sp_Re_write hG hs2 (by omega)) d_Re_readSum_45 ml_Re_142 cb_Re_write cv_Re_write (by exact hG.s (by decide) rfl) ⟨by decide, rfl⟩ ⟨by omega, by decide⟩ rfl (Nat.le_of_ble_eq_true rfl) (Nat.le_of_ble_eq_true rfl) (kV fun M1 hc => ?_)
            have p5 := p3 _ q0 hc
            first | (with_reducible refine E_isL2 ?_; refine E_iincN2 (m := 1) d_Re_readSum_48 rfl rfl ?_) | refine E_iinc_2 d_Re_readSum_48 rfl rfl ?_
            refine E_goto 7 d_Re_readSum_51 rfl ?_
            exact ih (i + 1) (by omega) _ _ hga p5 _
          · first | refine E_aload_n d_Re_readSum_42 rfl ?_ | refine E_aload_nN d_Re_readSum_42 rfl ?_
            refine E_iload_n d_Re_readSum_43 rfl ?_
            refine E_iconst (v := nI 0) d_Re_readSum_44 rfl ?_
            refine E_V2 (sp_Re_writeF hG (p2 q0)) d_Re_readSum_45 ml_Re_142 cb_Re_write cv_Re_write (by exact hG.s (by decide) rfl) ⟨by decide, rfl⟩ ⟨by omega, by decide⟩ rfl (Nat.le_of_ble_eq_true rfl) (Nat.le_of_ble_eq_true rfl) (kV fun M1 hc => ?_)
            have p5 := p4 _ q0 hc
            first | (with_reducible refine E_isL2 ?_; refine E_iincN2 (m := 1) d_Re_readSum_48 rfl rfl ?_) | refine E_iinc_2 d_Re_readSum_48 rfl rfl ?_
            refine E_goto 7 d_Re_readSum_51 rfl ?_
            exact ih (i + 1) (by omega) _ _ hga p5 _
        refine E_iload_n d_Re_readSum_7 rfl ?_
        refine E_sipush (v := nI 300) d_Re_readSum_8 (by decide) ?_
        first | (with_reducible refine E_isN2 ?_; refine E_icmp_ge 54 d_Re_readSum_11 rfl (nb_le (by omega) (by omega) fun h11 => ?_) (nb_nle (by omega) (by omega) fun h11 => ?_)) | refine E_icmp_ge 54 d_Re_readSum_11 rfl (fun h11 => ?_) (fun h11 => ?_)
        · exfalso; omega
        first | refine E_aload_n d_Re_readSum_14 rfl ?_ | refine E_aload_nN d_Re_readSum_14 rfl ?_
        refine E_getI d_Re_readSum_15 gf_Re_44 (by exact hG.s (by decide) rfl) (by exact hs.f) ?_
        first | (with_reducible refine E_isP ?_; refine E_if_ne 54 d_Re_readSum_18 rfl (pb_1 fun h18 => ?_) (pb_0 fun h18 => ?_)) | (with_reducible refine E_isN1 ?_; refine E_if_ne 54 d_Re_readSum_18 rfl (nz_ne fun h18 => ?_) (nz_eq (by omega) fun h18 => ?_)) | refine E_if_ne 54 d_Re_readSum_18 rfl (fun h18 => ?_) (fun h18 => ?_)
        · exfalso; omega
        first | refine E_aload_n d_Re_readSum_21 rfl ?_ | refine E_aload_nN d_Re_readSum_21 rfl ?_
        refine E_V0 (sp_Re_isAdding hG hR hs.s hsr) d_Re_readSum_22 ml_Re_138 cb_Re_isAdding cv_Re_isAdding (by exact hG.s (by decide) rfl) ⟨by decide, rfl⟩ ⟨by omega, by decide⟩ rfl (Nat.le_of_ble_eq_true rfl) (Nat.le_of_ble_eq_true rfl) (kI fun r1 M1 hc => ?_)
        obtain ⟨rfl, rfl⟩ := hc
        first | (with_reducible refine E_isP ?_; refine E_if_eq 54 d_Re_readSum_25 rfl (pb_0 fun h25 => ?_) (pb_1 fun h25 => ?_)) | (with_reducible refine E_isN1 ?_; refine E_if_eq 54 d_Re_readSum_25 rfl (nz_eq (by omega) fun h25 => ?_) (nz_ne fun h25 => ?_)) | refine E_if_eq 54 d_Re_readSum_25 rfl (fun h25 => ?_) (fun h25 => ?_)
        · exfalso; exact h25 hJ
        first | refine E_aload_n d_Re_readSum_28 rfl ?_ | refine E_aload_nN d_Re_readSum_28 rfl ?_
        refine E_getI d_Re_readSum_29 gf_Re_61 (by exact hG.s (by decide) rfl) (by exact hs.s) ?_
        refine E_istore_3 d_Re_readSum_32 rfl ?_
        first | refine E_aload_n d_Re_readSum_33 rfl ?_ | refine E_aload_nN d_Re_readSum_33 rfl ?_
        refine E_V0 (sp_Re_advance hG hs h3 (by omega)) d_Re_readSum_34 ml_Re_58 cb_Re_advance cv_Re_advance (by exact hG.s (by decide) rfl) ⟨by decide, rfl⟩ ⟨by omega, by decide⟩ rfl (Nat.le_of_ble_eq_true rfl) (Nat.le_of_ble_eq_true rfl) (kV fun M1 hc => ?_)
        have p6 := hc
        first | refine E_aload_n d_Re_readSum_37 rfl ?_ | refine E_aload_nN d_Re_readSum_37 rfl ?_
        refine E_iload_n d_Re_readSum_38 rfl ?_
        refine E_V1 (hgc _ p6.1) d_Re_readSum_39 ml_Re_135 cb_Re_readProduct cv_Re_readProduct (by exact hG.s (by decide) rfl) ⟨by decide, rfl⟩ ⟨by omega, by decide⟩ rfl (Nat.le_of_ble_eq_true rfl) (Nat.le_of_ble_eq_true rfl) (kV fun M1 hc => ?_)
        have p7 := hc
        exact K _ _ p6.2.j1 (kpB.an p6.2) p7
      · have e : chn (SS l) jAdd oBi g b (n + 1) r = r := by rw [chn, if_neg (fun q => hJ q.2)]
        rw [e]
        refine E_iload_n d_Re_readSum_7 rfl ?_
        refine E_sipush (v := nI 300) d_Re_readSum_8 (by decide) ?_
        first | (with_reducible refine E_isN2 ?_; refine E_icmp_ge 54 d_Re_readSum_11 rfl (nb_le (by omega) (by omega) fun h11 => ?_) (nb_nle (by omega) (by omega) fun h11 => ?_)) | refine E_icmp_ge 54 d_Re_readSum_11 rfl (fun h11 => ?_) (fun h11 => ?_)
        · exfalso; omega
        first | refine E_aload_n d_Re_readSum_14 rfl ?_ | refine E_aload_nN d_Re_readSum_14 rfl ?_
        refine E_getI d_Re_readSum_15 gf_Re_44 (by exact hG.s (by decide) rfl) (by exact hs.f) ?_
        first | (with_reducible refine E_isP ?_; refine E_if_ne 54 d_Re_readSum_18 rfl (pb_1 fun h18 => ?_) (pb_0 fun h18 => ?_)) | (with_reducible refine E_isN1 ?_; refine E_if_ne 54 d_Re_readSum_18 rfl (nz_ne fun h18 => ?_) (nz_eq (by omega) fun h18 => ?_)) | refine E_if_ne 54 d_Re_readSum_18 rfl (fun h18 => ?_) (fun h18 => ?_)
        · exfalso; omega
        first | refine E_aload_n d_Re_readSum_21 rfl ?_ | refine E_aload_nN d_Re_readSum_21 rfl ?_
        refine E_V0 (sp_Re_isAdding hG hR hs.s hsr) d_Re_readSum_22 ml_Re_138 cb_Re_isAdding cv_Re_isAdding (by exact hG.s (by decide) rfl) ⟨by decide, rfl⟩ ⟨by omega, by decide⟩ rfl (Nat.le_of_ble_eq_true rfl) (Nat.le_of_ble_eq_true rfl) (kI fun r1 M1 hc => ?_)
        obtain ⟨rfl, rfl⟩ := hc
        first | (with_reducible refine E_isP ?_; refine E_if_eq 54 d_Re_readSum_25 rfl (pb_0 fun h25 => ?_) (pb_1 fun h25 => ?_)) | (with_reducible refine E_isN1 ?_; refine E_if_eq 54 d_Re_readSum_25 rfl (nz_eq (by omega) fun h25 => ?_) (nz_ne fun h25 => ?_)) | refine E_if_eq 54 d_Re_readSum_25 rfl (fun h25 => ?_) (fun h25 => ?_)
        rotate_left
        · exfalso; exact hJ h25
        refine E_retV d_Re_readSum_54 rfl ?_
        exact hP
    · have e : chn (SS l) jAdd oBi g b (n + 1) r = r := by rw [chn, if_neg (fun q => h0 q.1)]
      rw [e]
      have hf := hP.2.2 h0
      have hR := hf.1
      have hf0 := hf.2.2.2.2.1
      have hf6 := hf.2.2.2.2.2
      refine E_iload_n d_Re_readSum_7 rfl ?_
      refine E_sipush (v := nI 300) d_Re_readSum_8 (by decide) ?_
      first | (with_reducible refine E_isN2 ?_; refine E_icmp_ge 54 d_Re_readSum_11 rfl (nb_le (by omega) (by omega) fun h11 => ?_) (nb_nle (by omega) (by omega) fun h11 => ?_)) | refine E_icmp_ge 54 d_Re_readSum_11 rfl (fun h11 => ?_) (fun h11 => ?_)
      · exfalso; omega
      first | refine E_aload_n d_Re_readSum_14 rfl ?_ | refine E_aload_nN d_Re_readSum_14 rfl ?_
      refine E_getI d_Re_readSum_15 gf_Re_44 (by exact hG.s (by decide) rfl) (by exact hf.2.2.1) ?_
      first | (with_reducible refine E_isP ?_; refine E_if_ne 54 d_Re_readSum_18 rfl (pb_1 fun h18 => ?_) (pb_0 fun h18 => ?_)) | (with_reducible refine E_isN1 ?_; refine E_if_ne 54 d_Re_readSum_18 rfl (nz_ne fun h18 => ?_) (nz_eq (by omega) fun h18 => ?_)) | refine E_if_ne 54 d_Re_readSum_18 rfl (fun h18 => ?_) (fun h18 => ?_)
      rotate_left
      · exfalso; omega
      refine E_retV d_Re_readSum_54 rfl ?_
      exact hP
theorem ep_Re_readSum (hG : GC G) (h3 : l.length ≤ 300) {d o : Nat} {g : Nat → Nat → Res} (hg : EP Y_Re_readProduct [some (.ref 225), some (.int (nI o)), none, none] G l sw d g) (hgd : GdF (SS l) g) : EP Y_Re_readSum [some (.ref 225), some (.int (nI o)), none, none] G l sw (d + 1 + 2) (fun k b => chn (SS l) jAdd oBi g b 300 (g k b)) := by
  intro k b M h hb
  have hgc := hg k b M h hb
  have LL := fun M1 (hP : PR l sw (g k b) b M M1) => lp_Re_readSum hG h3 hg hgd hb 300 0 (Nat.zero_add _) (g k b) M1 (hgd k b) hP
  first | refine E_aload_n d_Re_readSum_0 rfl ?_ | refine E_aload_nN d_Re_readSum_0 rfl ?_
  refine E_iload_n d_Re_readSum_1 rfl ?_
  refine E_V1 (hgc) d_Re_readSum_2 ml_Re_135 cb_Re_readProduct cv_Re_readProduct (by exact hG.s (by decide) rfl) ⟨by decide, rfl⟩ ⟨by omega, by decide⟩ rfl (Nat.le_of_ble_eq_true rfl) (Nat.le_of_ble_eq_true rfl) (kV fun M1 hc => ?_)
  skip
  refine E_iconst (v := nI 0) d_Re_readSum_5 rfl ?_
  refine E_istore_2 d_Re_readSum_6 rfl ?_
  exact LL _ hc _
theorem ef_Re_readSum (hG : GC G) {d o : Nat} (hg : EF Y_Re_readProduct [some (.ref 225), some (.int (nI o)), none, none] G l d) : EF Y_Re_readSum [some (.ref 225), some (.int (nI o)), none, none] G l (d + 1 + 2) := by
  intro f p M hf
  have hgc := hg f p M hf
  have hR := hf.1
  have hf0 := hf.2.2.2.2.1
  have hf6 := hf.2.2.2.2.2
  first | refine E_aload_n d_Re_readSum_0 rfl ?_ | refine E_aload_nN d_Re_readSum_0 rfl ?_
  refine E_iload_n d_Re_readSum_1 rfl ?_
  refine E_V1 (hgc) d_Re_readSum_2 ml_Re_135 cb_Re_readProduct cv_Re_readProduct (by exact hG.s (by decide) rfl) ⟨by decide, rfl⟩ ⟨by omega, by decide⟩ rfl (Nat.le_of_ble_eq_true rfl) (Nat.le_of_ble_eq_true rfl) (kV fun M1 hc => ?_)
  subst hc
  refine E_iconst (v := nI 0) d_Re_readSum_5 rfl ?_
  refine E_istore_2 d_Re_readSum_6 rfl ?_
  refine E_iload_n d_Re_readSum_7 rfl ?_
  refine E_sipush (v := nI 300) d_Re_readSum_8 (by decide) ?_
  first | (with_reducible refine E_isN2 ?_; refine E_icmp_ge 54 d_Re_readSum_11 rfl (nb_le (by omega) (by omega) fun h11 => ?_) (nb_nle (by omega) (by omega) fun h11 => ?_)) | refine E_icmp_ge 54 d_Re_readSum_11 rfl (fun h11 => ?_) (fun h11 => ?_)
  · exfalso; omega
  first | refine E_aload_n d_Re_readSum_14 rfl ?_ | refine E_aload_nN d_Re_readSum_14 rfl ?_
  refine E_getI d_Re_readSum_15 gf_Re_44 (by exact hG.s (by decide) rfl) (by exact hf.2.2.1) ?_
  first | (with_reducible refine E_isP ?_; refine E_if_ne 54 d_Re_readSum_18 rfl (pb_1 fun h18 => ?_) (pb_0 fun h18 => ?_)) | (with_reducible refine E_isN1 ?_; refine E_if_ne 54 d_Re_readSum_18 rfl (nz_ne fun h18 => ?_) (nz_eq (by omega) fun h18 => ?_)) | refine E_if_ne 54 d_Re_readSum_18 rfl (fun h18 => ?_) (fun h18 => ?_)
  rotate_left
  · exfalso; omega
  refine E_retV d_Re_readSum_54 rfl ?_
  rfl
theorem lp_Re_readBoth (hG : GC G) (h3 : l.length ≤ 300) {d o : Nat} {g : Nat → Nat → Res} (hg : EP Y_Re_readAsk [some (.ref 225), some (.int (nI o))] G l sw d g) (hgd : GdF (SS l) g) {k b : Nat} (hb : b ≤ k) {M0 : Mem} : ∀ n i, i + n = 300 → ∀ r M, Gd (SS l) k r → PR l sw r b M0 M → E (d + 1 + 2) 0 0 Y_Re_readBoth 7 [some (.ref 225), some (.int (nI o)), some (.int (nI i))] [] G M (QV G fun M' => PR l sw (chn (SS l) jAnd oAnd g b n r) b M0 M') := by
  intro n
  induction n with
  | zero =>
    intro i hi r M hr hP
    have e : i = 300 := by omega
    subst e
    refine E_iload_n d_Re_readBoth_7 rfl ?_
    refine E_sipush (v := nI 300) d_Re_readBoth_8 (by decide) ?_
    first | (with_reducible refine E_isN2 ?_; refine E_icmp_ge 52 d_Re_readBoth_11 rfl (nb_le (by omega) (by omega) fun h11 => ?_) (nb_nle (by omega) (by omega) fun h11 => ?_)) | refine E_icmp_ge 52 d_Re_readBoth_11 rfl (fun h11 => ?_) (fun h11 => ?_)
    rotate_left
    · exfalso; omega
    refine E_retV d_Re_readBoth_52 rfl ?_
    exact hP
  | succ n ih =>
    intro i hi r M hr hP
    by_cases h0 : r.f = 0
    · have hs := (hP.2.1 h0).1
      have hR := hs.R
      have hsr := SS_rg l r.k
      by_cases hJ : jAnd (SS l r.k) = true
      · have hJ2 := jAnd_iff.mp hJ
        have h40 : SS l r.k ≠ 40 := by omega
        obtain ⟨c1, c2, c3⟩ := hr.2.2.2 h0
        have e : chn (SS l) jAnd oAnd g b (n + 1) r = chn (SS l) jAnd oAnd g b n (addR r (g (r.k + 1) (b + r.cc.length)) (oAnd (SS l r.k)) (SS l r.k)) := by rw [chn, if_pos ⟨h0, hJ⟩]
        rw [e]
        have hgq := hgd (r.k + 1) (b + r.cc.length)
        have hga := Gd.add (o := oAnd (SS l r.k)) (s := SS l r.k) hr h0 h40 hgq
        have hgc := fun M' (h : RS l sw (r.k + 1) (b + r.cc.length) M') => hg (r.k + 1) (b + r.cc.length) M' h (by omega)
        generalize g (r.k + 1) (b + r.cc.length) = q at *
        rw [hJ2] at hga ⊢
        have K : ∀ M2 M3, Fo 225 JR AR M M2 → kpB (b + r.cc.length) M M2 → PR l sw q (b + r.cc.length) M2 M3 → E (d + 1 + 2) 0 0 Y_Re_readBoth 39 [some (.ref 225), some (.int (nI o)), some (.int (nI i))] [] G M3 (QV G fun M' => PR l sw (chn (SS l) jAnd oAnd g b n (addR r q (oAnd (17)) (17))) b M0 M') := by
          intro M2 M3 hA hk hq
          obtain ⟨p1, p2, p3, p4⟩ := hP.ad (o := oAnd (17)) (s := 17) h0 hA hk hq
          clear hs hR
          by_cases q0 : q.f = 0
          · obtain ⟨d1, d2, d3⟩ := hgq.2.2.2 q0
            have hs2 := p1 q0
            have hvl := hs2.v.le
            first | refine E_aload_n d_Re_readBoth_39 rfl ?_ | refine E_aload_nN d_Re_readBoth_39 rfl ?_
            refine E_bipush (v := nI 17) d_Re_readBoth_40 (by decide) ?_
            refine E_iconst (v := nI 0) d_Re_readBoth_42 rfl ?_
            refine E_V2 (sp_Re_write hG hs2 (by omega)) d_Re_readBoth_43 ml_Re_142 cb_Re_write cv_Re_write (by exact hG.s (by decide) rfl) ⟨by decide, rfl⟩ ⟨by omega, by decide⟩ rfl (Nat.le_of_ble_eq_true rfl) (Nat.le_of_ble_eq_true rfl) (kV fun M1 hc => ?_)
            have p5 := p3 _ q0 hc
            first | (with_reducible refine E_isL2 ?_; refine E_iincN2 (m := 1) d_Re_readBoth_46 rfl rfl ?_) | refine E_iinc_2 d_Re_readBoth_46 rfl rfl ?_
            refine E_goto 7 d_Re_readBoth_49 rfl ?_
            exact ih (i + 1) (by omega) _ _ hga p5
          · first | refine E_aload_n d_Re_readBoth_39 rfl ?_ | refine E_aload_nN d_Re_readBoth_39 rfl ?_
            refine E_bipush (v := nI 17) d_Re_readBoth_40 (by decide) ?_
            refine E_iconst (v := nI 0) d_Re_readBoth_42 rfl ?_
            refine E_V2 (sp_Re_writeF hG (p2 q0)) d_Re_readBoth_43 ml_Re_142 cb_Re_write cv_Re_write (by exact hG.s (by decide) rfl) ⟨by decide, rfl⟩ ⟨by omega, by decide⟩ rfl (Nat.le_of_ble_eq_true rfl) (Nat.le_of_ble_eq_true rfl) (kV fun M1 hc => ?_)
            have p5 := p4 _ q0 hc
            first | (with_reducible refine E_isL2 ?_; refine E_iincN2 (m := 1) d_Re_readBoth_46 rfl rfl ?_) | refine E_iinc_2 d_Re_readBoth_46 rfl rfl ?_
            refine E_goto 7 d_Re_readBoth_49 rfl ?_
            exact ih (i + 1) (by omega) _ _ hga p5
        refine E_iload_n d_Re_readBoth_7 rfl ?_
        refine E_sipush (v := nI 300) d_Re_readBoth_8 (by decide) ?_
        first | (with_reducible refine E_isN2 ?_; refine E_icmp_ge 52 d_Re_readBoth_11 rfl (nb_le (by omega) (by omega) fun h11 => ?_) (nb_nle (by omega) (by omega) fun h11 => ?_)) | refine E_icmp_ge 52 d_Re_readBoth_11 rfl (fun h11 => ?_) (fun h11 => ?_)
        · exfalso; omega
        first | refine E_aload_n d_Re_readBoth_14 rfl ?_ | refine E_aload_nN d_Re_readBoth_14 rfl ?_
        refine E_getI d_Re_readBoth_15 gf_Re_44 (by exact hG.s (by decide) rfl) (by exact hs.f) ?_
        first | (with_reducible refine E_isP ?_; refine E_if_ne 52 d_Re_readBoth_18 rfl (pb_1 fun h18 => ?_) (pb_0 fun h18 => ?_)) | (with_reducible refine E_isN1 ?_; refine E_if_ne 52 d_Re_readBoth_18 rfl (nz_ne fun h18 => ?_) (nz_eq (by omega) fun h18 => ?_)) | refine E_if_ne 52 d_Re_readBoth_18 rfl (fun h18 => ?_) (fun h18 => ?_)
        · exfalso; omega
        first | refine E_aload_n d_Re_readBoth_21 rfl ?_ | refine E_aload_nN d_Re_readBoth_21 rfl ?_
        refine E_getI d_Re_readBoth_22 gf_Re_61 (by exact hG.s (by decide) rfl) (by exact hs.s) ?_
        refine E_bipush (v := nI 17) d_Re_readBoth_25 (by decide) ?_
        first | (with_reducible refine E_isN2 ?_; refine E_icmp_ne 52 d_Re_readBoth_27 rfl (nb_ne fun h27 => ?_) (nb_eq (by omega) (by omega) fun h27 => ?_)) | refine E_icmp_ne 52 d_Re_readBoth_27 rfl (fun h27 => ?_) (fun h27 => ?_)
        · exfalso; omega
        first | refine E_aload_n d_Re_readBoth_30 rfl ?_ | refine E_aload_nN d_Re_readBoth_30 rfl ?_
        refine E_V0 (sp_Re_advance hG hs h3 (by omega)) d_Re_readBoth_31 ml_Re_58 cb_Re_advance cv_Re_advance (by exact hG.s (by decide) rfl) ⟨by decide, rfl⟩ ⟨by omega, by decide⟩ rfl (Nat.le_of_ble_eq_true rfl) (Nat.le_of_ble_eq_true rfl) (kV fun M1 hc => ?_)
        have p6 := hc
        first | refine E_aload_n d_Re_readBoth_34 rfl ?_ | refine E_aload_nN d_Re_readBoth_34 rfl ?_
        refine E_iload_n d_Re_readBoth_35 rfl ?_
        refine E_V1 (hgc _ p6.1) d_Re_readBoth_36 ml_Re_170 cb_Re_readAsk cv_Re_readAsk (by exact hG.s (by decide) rfl) ⟨by decide, rfl⟩ ⟨by omega, by decide⟩ rfl (Nat.le_of_ble_eq_true rfl) (Nat.le_of_ble_eq_true rfl) (kV fun M1 hc => ?_)
        have p7 := hc
        exact K _ _ p6.2.j1 (kpB.an p6.2) p7
      · have e : chn (SS l) jAnd oAnd g b (n + 1) r = r := by rw [chn, if_neg (fun q => hJ q.2)]
        rw [e]
        have hJ3 : SS l r.k ≠ 17 := fun q => hJ (jAnd_iff.mpr q)
        refine E_iload_n d_Re_readBoth_7 rfl ?_
        refine E_sipush (v := nI 300) d_Re_readBoth_8 (by decide) ?_
        first | (with_reducible refine E_isN2 ?_; refine E_icmp_ge 52 d_Re_readBoth_11 rfl (nb_le (by omega) (by omega) fun h11 => ?_) (nb_nle (by omega) (by omega) fun h11 => ?_)) | refine E_icmp_ge 52 d_Re_readBoth_11 rfl (fun h11 => ?_) (fun h11 => ?_)
        · exfalso; omega
        first | refine E_aload_n d_Re_readBoth_14 rfl ?_ | refine E_aload_nN d_Re_readBoth_14 rfl ?_
        refine E_getI d_Re_readBoth_15 gf_Re_44 (by exact hG.s (by decide) rfl) (by exact hs.f) ?_
        first | (with_reducible refine E_isP ?_; refine E_if_ne 52 d_Re_readBoth_18 rfl (pb_1 fun h18 => ?_) (pb_0 fun h18 => ?_)) | (with_reducible refine E_isN1 ?_; refine E_if_ne 52 d_Re_readBoth_18 rfl (nz_ne fun h18 => ?_) (nz_eq (by omega) fun h18 => ?_)) | refine E_if_ne 52 d_Re_readBoth_18 rfl (fun h18 => ?_) (fun h18 => ?_)
        · exfalso; omega
        first | refine E_aload_n d_Re_readBoth_21 rfl ?_ | refine E_aload_nN d_Re_readBoth_21 rfl ?_
        refine E_getI d_Re_readBoth_22 gf_Re_61 (by exact hG.s (by decide) rfl) (by exact hs.s) ?_
        refine E_bipush (v := nI 17) d_Re_readBoth_25 (by decide) ?_
        first | (with_reducible refine E_isN2 ?_; refine E_icmp_ne 52 d_Re_readBoth_27 rfl (nb_ne fun h27 => ?_) (nb_eq (by omega) (by omega) fun h27 => ?_)) | refine E_icmp_ne 52 d_Re_readBoth_27 rfl (fun h27 => ?_) (fun h27 => ?_)
        rotate_left
        · exfalso; omega
        refine E_retV d_Re_readBoth_52 rfl ?_
        exact hP
    · have e : chn (SS l) jAnd oAnd g b (n + 1) r = r := by rw [chn, if_neg (fun q => h0 q.1)]
      rw [e]
      have hf := hP.2.2 h0
      have hR := hf.1
      have hf0 := hf.2.2.2.2.1
      have hf6 := hf.2.2.2.2.2
      refine E_iload_n d_Re_readBoth_7 rfl ?_
      refine E_sipush (v := nI 300) d_Re_readBoth_8 (by decide) ?_
      first | (with_reducible refine E_isN2 ?_; refine E_icmp_ge 52 d_Re_readBoth_11 rfl (nb_le (by omega) (by omega) fun h11 => ?_) (nb_nle (by omega) (by omega) fun h11 => ?_)) | refine E_icmp_ge 52 d_Re_readBoth_11 rfl (fun h11 => ?_) (fun h11 => ?_)
      · exfalso; omega
      first | refine E_aload_n d_Re_readBoth_14 rfl ?_ | refine E_aload_nN d_Re_readBoth_14 rfl ?_
      refine E_getI d_Re_readBoth_15 gf_Re_44 (by exact hG.s (by decide) rfl) (by exact hf.2.2.1) ?_
      first | (with_reducible refine E_isP ?_; refine E_if_ne 52 d_Re_readBoth_18 rfl (pb_1 fun h18 => ?_) (pb_0 fun h18 => ?_)) | (with_reducible refine E_isN1 ?_; refine E_if_ne 52 d_Re_readBoth_18 rfl (nz_ne fun h18 => ?_) (nz_eq (by omega) fun h18 => ?_)) | refine E_if_ne 52 d_Re_readBoth_18 rfl (fun h18 => ?_) (fun h18 => ?_)
      rotate_left
      · exfalso; omega
      refine E_retV d_Re_readBoth_52 rfl ?_
      exact hP
theorem ep_Re_readBoth (hG : GC G) (h3 : l.length ≤ 300) {d o : Nat} {g : Nat → Nat → Res} (hg : EP Y_Re_readAsk [some (.ref 225), some (.int (nI o))] G l sw d g) (hgd : GdF (SS l) g) : EP Y_Re_readBoth [some (.ref 225), some (.int (nI o)), none] G l sw (d + 1 + 2) (fun k b => chn (SS l) jAnd oAnd g b 300 (g k b)) := by
  intro k b M h hb
  have hgc := hg k b M h hb
  have LL := fun M1 (hP : PR l sw (g k b) b M M1) => lp_Re_readBoth hG h3 hg hgd hb 300 0 (Nat.zero_add _) (g k b) M1 (hgd k b) hP
  first | refine E_aload_n d_Re_readBoth_0 rfl ?_ | refine E_aload_nN d_Re_readBoth_0 rfl ?_
  refine E_iload_n d_Re_readBoth_1 rfl ?_
  refine E_V1 (hgc) d_Re_readBoth_2 ml_Re_170 cb_Re_readAsk cv_Re_readAsk (by exact hG.s (by decide) rfl) ⟨by decide, rfl⟩ ⟨by omega, by decide⟩ rfl (Nat.le_of_ble_eq_true rfl) (Nat.le_of_ble_eq_true rfl) (kV fun M1 hc => ?_)
  skip
  refine E_iconst (v := nI 0) d_Re_readBoth_5 rfl ?_
  refine E_istore_2 d_Re_readBoth_6 rfl ?_
  exact LL _ hc
theorem ef_Re_readBoth (hG : GC G) {d o : Nat} (hg : EF Y_Re_readAsk [some (.ref 225), some (.int (nI o))] G l d) : EF Y_Re_readBoth [some (.ref 225), some (.int (nI o)), none] G l (d + 1 + 2) := by
  intro f p M hf
  have hgc := hg f p M hf
  have hR := hf.1
  have hf0 := hf.2.2.2.2.1
  have hf6 := hf.2.2.2.2.2
  first | refine E_aload_n d_Re_readBoth_0 rfl ?_ | refine E_aload_nN d_Re_readBoth_0 rfl ?_
  refine E_iload_n d_Re_readBoth_1 rfl ?_
  refine E_V1 (hgc) d_Re_readBoth_2 ml_Re_170 cb_Re_readAsk cv_Re_readAsk (by exact hG.s (by decide) rfl) ⟨by decide, rfl⟩ ⟨by omega, by decide⟩ rfl (Nat.le_of_ble_eq_true rfl) (Nat.le_of_ble_eq_true rfl) (kV fun M1 hc => ?_)
  subst hc
  refine E_iconst (v := nI 0) d_Re_readBoth_5 rfl ?_
  refine E_istore_2 d_Re_readBoth_6 rfl ?_
  refine E_iload_n d_Re_readBoth_7 rfl ?_
  refine E_sipush (v := nI 300) d_Re_readBoth_8 (by decide) ?_
  first | (with_reducible refine E_isN2 ?_; refine E_icmp_ge 52 d_Re_readBoth_11 rfl (nb_le (by omega) (by omega) fun h11 => ?_) (nb_nle (by omega) (by omega) fun h11 => ?_)) | refine E_icmp_ge 52 d_Re_readBoth_11 rfl (fun h11 => ?_) (fun h11 => ?_)
  · exfalso; omega
  first | refine E_aload_n d_Re_readBoth_14 rfl ?_ | refine E_aload_nN d_Re_readBoth_14 rfl ?_
  refine E_getI d_Re_readBoth_15 gf_Re_44 (by exact hG.s (by decide) rfl) (by exact hf.2.2.1) ?_
  first | (with_reducible refine E_isP ?_; refine E_if_ne 52 d_Re_readBoth_18 rfl (pb_1 fun h18 => ?_) (pb_0 fun h18 => ?_)) | (with_reducible refine E_isN1 ?_; refine E_if_ne 52 d_Re_readBoth_18 rfl (nz_ne fun h18 => ?_) (nz_eq (by omega) fun h18 => ?_)) | refine E_if_ne 52 d_Re_readBoth_18 rfl (fun h18 => ?_) (fun h18 => ?_)
  rotate_left
  · exfalso; omega
  refine E_retV d_Re_readBoth_52 rfl ?_
  rfl
theorem lp_Re_readEither (hG : GC G) (h3 : l.length ≤ 300) {d o : Nat} {g : Nat → Nat → Res} (hg : EP Y_Re_readBoth [some (.ref 225), some (.int (nI o)), none] G l sw d g) (hgd : GdF (SS l) g) {k b : Nat} (hb : b ≤ k) {M0 : Mem} : ∀ n i, i + n = 300 → ∀ r M, Gd (SS l) k r → PR l sw r b M0 M → E (d + 1 + 2) 0 0 Y_Re_readEither 7 [some (.ref 225), some (.int (nI o)), some (.int (nI i))] [] G M (QV G fun M' => PR l sw (chn (SS l) jOr oOr g b n r) b M0 M') := by
  intro n
  induction n with
  | zero =>
    intro i hi r M hr hP
    have e : i = 300 := by omega
    subst e
    refine E_iload_n d_Re_readEither_7 rfl ?_
    refine E_sipush (v := nI 300) d_Re_readEither_8 (by decide) ?_
    first | (with_reducible refine E_isN2 ?_; refine E_icmp_ge 52 d_Re_readEither_11 rfl (nb_le (by omega) (by omega) fun h11 => ?_) (nb_nle (by omega) (by omega) fun h11 => ?_)) | refine E_icmp_ge 52 d_Re_readEither_11 rfl (fun h11 => ?_) (fun h11 => ?_)
    rotate_left
    · exfalso; omega
    refine E_retV d_Re_readEither_52 rfl ?_
    exact hP
  | succ n ih =>
    intro i hi r M hr hP
    by_cases h0 : r.f = 0
    · have hs := (hP.2.1 h0).1
      have hR := hs.R
      have hsr := SS_rg l r.k
      by_cases hJ : jOr (SS l r.k) = true
      · have hJ2 := jOr_iff.mp hJ
        have h40 : SS l r.k ≠ 40 := by omega
        obtain ⟨c1, c2, c3⟩ := hr.2.2.2 h0
        have e : chn (SS l) jOr oOr g b (n + 1) r = chn (SS l) jOr oOr g b n (addR r (g (r.k + 1) (b + r.cc.length)) (oOr (SS l r.k)) (SS l r.k)) := by rw [chn, if_pos ⟨h0, hJ⟩]
        rw [e]
        have hgq := hgd (r.k + 1) (b + r.cc.length)
        have hga := Gd.add (o := oOr (SS l r.k)) (s := SS l r.k) hr h0 h40 hgq
        have hgc := fun M' (h : RS l sw (r.k + 1) (b + r.cc.length) M') => hg (r.k + 1) (b + r.cc.length) M' h (by omega)
        generalize g (r.k + 1) (b + r.cc.length) = q at *
        rw [hJ2] at hga ⊢
        have K : ∀ M2 M3, Fo 225 JR AR M M2 → kpB (b + r.cc.length) M M2 → PR l sw q (b + r.cc.length) M2 M3 → E (d + 1 + 2) 0 0 Y_Re_readEither 39 [some (.ref 225), some (.int (nI o)), some (.int (nI i))] [] G M3 (QV G fun M' => PR l sw (chn (SS l) jOr oOr g b n (addR r q (oOr (16)) (16))) b M0 M') := by
          intro M2 M3 hA hk hq
          obtain ⟨p1, p2, p3, p4⟩ := hP.ad (o := oOr (16)) (s := 16) h0 hA hk hq
          clear hs hR
          by_cases q0 : q.f = 0
          · obtain ⟨d1, d2, d3⟩ := hgq.2.2.2 q0
            have hs2 := p1 q0
            have hvl := hs2.v.le
            first | refine E_aload_n d_Re_readEither_39 rfl ?_ | refine E_aload_nN d_Re_readEither_39 rfl ?_
            refine E_bipush (v := nI 16) d_Re_readEither_40 (by decide) ?_
            refine E_iconst (v := nI 0) d_Re_readEither_42 rfl ?_
            refine E_V2 (sp_Re_write hG hs2 (by omega)) d_Re_readEither_43 ml_Re_142 cb_Re_write cv_Re_write (by exact hG.s (by decide) rfl) ⟨by decide, rfl⟩ ⟨by omega, by decide⟩ rfl (Nat.le_of_ble_eq_true rfl) (Nat.le_of_ble_eq_true rfl) (kV fun M1 hc => ?_)
            have p5 := p3 _ q0 hc
            first | (with_reducible refine E_isL2 ?_; refine E_iincN2 (m := 1) d_Re_readEither_46 rfl rfl ?_) | refine E_iinc_2 d_Re_readEither_46 rfl rfl ?_
            refine E_goto 7 d_Re_readEither_49 rfl ?_
            exact ih (i + 1) (by omega) _ _ hga p5
          · first | refine E_aload_n d_Re_readEither_39 rfl ?_ | refine E_aload_nN d_Re_readEither_39 rfl ?_
            refine E_bipush (v := nI 16) d_Re_readEither_40 (by decide) ?_
            refine E_iconst (v := nI 0) d_Re_readEither_42 rfl ?_
            refine E_V2 (sp_Re_writeF hG (p2 q0)) d_Re_readEither_43 ml_Re_142 cb_Re_write cv_Re_write (by exact hG.s (by decide) rfl) ⟨by decide, rfl⟩ ⟨by omega, by decide⟩ rfl (Nat.le_of_ble_eq_true rfl) (Nat.le_of_ble_eq_true rfl) (kV fun M1 hc => ?_)
            have p5 := p4 _ q0 hc
            first | (with_reducible refine E_isL2 ?_; refine E_iincN2 (m := 1) d_Re_readEither_46 rfl rfl ?_) | refine E_iinc_2 d_Re_readEither_46 rfl rfl ?_
            refine E_goto 7 d_Re_readEither_49 rfl ?_
            exact ih (i + 1) (by omega) _ _ hga p5
        refine E_iload_n d_Re_readEither_7 rfl ?_
        refine E_sipush (v := nI 300) d_Re_readEither_8 (by decide) ?_
        first | (with_reducible refine E_isN2 ?_; refine E_icmp_ge 52 d_Re_readEither_11 rfl (nb_le (by omega) (by omega) fun h11 => ?_) (nb_nle (by omega) (by omega) fun h11 => ?_)) | refine E_icmp_ge 52 d_Re_readEither_11 rfl (fun h11 => ?_) (fun h11 => ?_)
        · exfalso; omega
        first | refine E_aload_n d_Re_readEither_14 rfl ?_ | refine E_aload_nN d_Re_readEither_14 rfl ?_
        refine E_getI d_Re_readEither_15 gf_Re_44 (by exact hG.s (by decide) rfl) (by exact hs.f) ?_
        first | (with_reducible refine E_isP ?_; refine E_if_ne 52 d_Re_readEither_18 rfl (pb_1 fun h18 => ?_) (pb_0 fun h18 => ?_)) | (with_reducible refine E_isN1 ?_; refine E_if_ne 52 d_Re_readEither_18 rfl (nz_ne fun h18 => ?_) (nz_eq (by omega) fun h18 => ?_)) | refine E_if_ne 52 d_Re_readEither_18 rfl (fun h18 => ?_) (fun h18 => ?_)
        · exfalso; omega
        first | refine E_aload_n d_Re_readEither_21 rfl ?_ | refine E_aload_nN d_Re_readEither_21 rfl ?_
        refine E_getI d_Re_readEither_22 gf_Re_61 (by exact hG.s (by decide) rfl) (by exact hs.s) ?_
        refine E_bipush (v := nI 16) d_Re_readEither_25 (by decide) ?_
        first | (with_reducible refine E_isN2 ?_; refine E_icmp_ne 52 d_Re_readEither_27 rfl (nb_ne fun h27 => ?_) (nb_eq (by omega) (by omega) fun h27 => ?_)) | refine E_icmp_ne 52 d_Re_readEither_27 rfl (fun h27 => ?_) (fun h27 => ?_)
        · exfalso; omega
        first | refine E_aload_n d_Re_readEither_30 rfl ?_ | refine E_aload_nN d_Re_readEither_30 rfl ?_
        refine E_V0 (sp_Re_advance hG hs h3 (by omega)) d_Re_readEither_31 ml_Re_58 cb_Re_advance cv_Re_advance (by exact hG.s (by decide) rfl) ⟨by decide, rfl⟩ ⟨by omega, by decide⟩ rfl (Nat.le_of_ble_eq_true rfl) (Nat.le_of_ble_eq_true rfl) (kV fun M1 hc => ?_)
        have p6 := hc
        first | refine E_aload_n d_Re_readEither_34 rfl ?_ | refine E_aload_nN d_Re_readEither_34 rfl ?_
        refine E_iload_n d_Re_readEither_35 rfl ?_
        refine E_V1 (hgc _ p6.1) d_Re_readEither_36 ml_Re_167 cb_Re_readBoth cv_Re_readBoth (by exact hG.s (by decide) rfl) ⟨by decide, rfl⟩ ⟨by omega, by decide⟩ rfl (Nat.le_of_ble_eq_true rfl) (Nat.le_of_ble_eq_true rfl) (kV fun M1 hc => ?_)
        have p7 := hc
        exact K _ _ p6.2.j1 (kpB.an p6.2) p7
      · have e : chn (SS l) jOr oOr g b (n + 1) r = r := by rw [chn, if_neg (fun q => hJ q.2)]
        rw [e]
        have hJ3 : SS l r.k ≠ 16 := fun q => hJ (jOr_iff.mpr q)
        refine E_iload_n d_Re_readEither_7 rfl ?_
        refine E_sipush (v := nI 300) d_Re_readEither_8 (by decide) ?_
        first | (with_reducible refine E_isN2 ?_; refine E_icmp_ge 52 d_Re_readEither_11 rfl (nb_le (by omega) (by omega) fun h11 => ?_) (nb_nle (by omega) (by omega) fun h11 => ?_)) | refine E_icmp_ge 52 d_Re_readEither_11 rfl (fun h11 => ?_) (fun h11 => ?_)
        · exfalso; omega
        first | refine E_aload_n d_Re_readEither_14 rfl ?_ | refine E_aload_nN d_Re_readEither_14 rfl ?_
        refine E_getI d_Re_readEither_15 gf_Re_44 (by exact hG.s (by decide) rfl) (by exact hs.f) ?_
        first | (with_reducible refine E_isP ?_; refine E_if_ne 52 d_Re_readEither_18 rfl (pb_1 fun h18 => ?_) (pb_0 fun h18 => ?_)) | (with_reducible refine E_isN1 ?_; refine E_if_ne 52 d_Re_readEither_18 rfl (nz_ne fun h18 => ?_) (nz_eq (by omega) fun h18 => ?_)) | refine E_if_ne 52 d_Re_readEither_18 rfl (fun h18 => ?_) (fun h18 => ?_)
        · exfalso; omega
        first | refine E_aload_n d_Re_readEither_21 rfl ?_ | refine E_aload_nN d_Re_readEither_21 rfl ?_
        refine E_getI d_Re_readEither_22 gf_Re_61 (by exact hG.s (by decide) rfl) (by exact hs.s) ?_
        refine E_bipush (v := nI 16) d_Re_readEither_25 (by decide) ?_
        first | (with_reducible refine E_isN2 ?_; refine E_icmp_ne 52 d_Re_readEither_27 rfl (nb_ne fun h27 => ?_) (nb_eq (by omega) (by omega) fun h27 => ?_)) | refine E_icmp_ne 52 d_Re_readEither_27 rfl (fun h27 => ?_) (fun h27 => ?_)
        rotate_left
        · exfalso; omega
        refine E_retV d_Re_readEither_52 rfl ?_
        exact hP
    · have e : chn (SS l) jOr oOr g b (n + 1) r = r := by rw [chn, if_neg (fun q => h0 q.1)]
      rw [e]
      have hf := hP.2.2 h0
      have hR := hf.1
      have hf0 := hf.2.2.2.2.1
      have hf6 := hf.2.2.2.2.2
      refine E_iload_n d_Re_readEither_7 rfl ?_
      refine E_sipush (v := nI 300) d_Re_readEither_8 (by decide) ?_
      first | (with_reducible refine E_isN2 ?_; refine E_icmp_ge 52 d_Re_readEither_11 rfl (nb_le (by omega) (by omega) fun h11 => ?_) (nb_nle (by omega) (by omega) fun h11 => ?_)) | refine E_icmp_ge 52 d_Re_readEither_11 rfl (fun h11 => ?_) (fun h11 => ?_)
      · exfalso; omega
      first | refine E_aload_n d_Re_readEither_14 rfl ?_ | refine E_aload_nN d_Re_readEither_14 rfl ?_
      refine E_getI d_Re_readEither_15 gf_Re_44 (by exact hG.s (by decide) rfl) (by exact hf.2.2.1) ?_
      first | (with_reducible refine E_isP ?_; refine E_if_ne 52 d_Re_readEither_18 rfl (pb_1 fun h18 => ?_) (pb_0 fun h18 => ?_)) | (with_reducible refine E_isN1 ?_; refine E_if_ne 52 d_Re_readEither_18 rfl (nz_ne fun h18 => ?_) (nz_eq (by omega) fun h18 => ?_)) | refine E_if_ne 52 d_Re_readEither_18 rfl (fun h18 => ?_) (fun h18 => ?_)
      rotate_left
      · exfalso; omega
      refine E_retV d_Re_readEither_52 rfl ?_
      exact hP
theorem ep_Re_readEither (hG : GC G) (h3 : l.length ≤ 300) {d o : Nat} {g : Nat → Nat → Res} (hg : EP Y_Re_readBoth [some (.ref 225), some (.int (nI o)), none] G l sw d g) (hgd : GdF (SS l) g) : EP Y_Re_readEither [some (.ref 225), some (.int (nI o)), none] G l sw (d + 1 + 2) (fun k b => chn (SS l) jOr oOr g b 300 (g k b)) := by
  intro k b M h hb
  have hgc := hg k b M h hb
  have LL := fun M1 (hP : PR l sw (g k b) b M M1) => lp_Re_readEither hG h3 hg hgd hb 300 0 (Nat.zero_add _) (g k b) M1 (hgd k b) hP
  first | refine E_aload_n d_Re_readEither_0 rfl ?_ | refine E_aload_nN d_Re_readEither_0 rfl ?_
  refine E_iload_n d_Re_readEither_1 rfl ?_
  refine E_V1 (hgc) d_Re_readEither_2 ml_Re_167 cb_Re_readBoth cv_Re_readBoth (by exact hG.s (by decide) rfl) ⟨by decide, rfl⟩ ⟨by omega, by decide⟩ rfl (Nat.le_of_ble_eq_true rfl) (Nat.le_of_ble_eq_true rfl) (kV fun M1 hc => ?_)
  skip
  refine E_iconst (v := nI 0) d_Re_readEither_5 rfl ?_
  refine E_istore_2 d_Re_readEither_6 rfl ?_
  exact LL _ hc
theorem ef_Re_readEither (hG : GC G) {d o : Nat} (hg : EF Y_Re_readBoth [some (.ref 225), some (.int (nI o)), none] G l d) : EF Y_Re_readEither [some (.ref 225), some (.int (nI o)), none] G l (d + 1 + 2) := by
  intro f p M hf
  have hgc := hg f p M hf
  have hR := hf.1
  have hf0 := hf.2.2.2.2.1
  have hf6 := hf.2.2.2.2.2
  first | refine E_aload_n d_Re_readEither_0 rfl ?_ | refine E_aload_nN d_Re_readEither_0 rfl ?_
  refine E_iload_n d_Re_readEither_1 rfl ?_
  refine E_V1 (hgc) d_Re_readEither_2 ml_Re_167 cb_Re_readBoth cv_Re_readBoth (by exact hG.s (by decide) rfl) ⟨by decide, rfl⟩ ⟨by omega, by decide⟩ rfl (Nat.le_of_ble_eq_true rfl) (Nat.le_of_ble_eq_true rfl) (kV fun M1 hc => ?_)
  subst hc
  refine E_iconst (v := nI 0) d_Re_readEither_5 rfl ?_
  refine E_istore_2 d_Re_readEither_6 rfl ?_
  refine E_iload_n d_Re_readEither_7 rfl ?_
  refine E_sipush (v := nI 300) d_Re_readEither_8 (by decide) ?_
  first | (with_reducible refine E_isN2 ?_; refine E_icmp_ge 52 d_Re_readEither_11 rfl (nb_le (by omega) (by omega) fun h11 => ?_) (nb_nle (by omega) (by omega) fun h11 => ?_)) | refine E_icmp_ge 52 d_Re_readEither_11 rfl (fun h11 => ?_) (fun h11 => ?_)
  · exfalso; omega
  first | refine E_aload_n d_Re_readEither_14 rfl ?_ | refine E_aload_nN d_Re_readEither_14 rfl ?_
  refine E_getI d_Re_readEither_15 gf_Re_44 (by exact hG.s (by decide) rfl) (by exact hf.2.2.1) ?_
  first | (with_reducible refine E_isP ?_; refine E_if_ne 52 d_Re_readEither_18 rfl (pb_1 fun h18 => ?_) (pb_0 fun h18 => ?_)) | (with_reducible refine E_isN1 ?_; refine E_if_ne 52 d_Re_readEither_18 rfl (nz_ne fun h18 => ?_) (nz_eq (by omega) fun h18 => ?_)) | refine E_if_ne 52 d_Re_readEither_18 rfl (fun h18 => ?_) (fun h18 => ?_)
  rotate_left
  · exfalso; omega
  refine E_retV d_Re_readEither_52 rfl ?_
  rfl
end RDd
