theorem sp_TM_isIn {G : Geo} {M : Mem} (v l t : Int32) : E 0 0 0 Y_TM_isIn 0 [some (.int v), some (.int l), some (.int t)] [] G M (QI G fun r M' => r = pI (l ≤ v ∧ v ≤ t) ∧ M' = M) := by
  refine E_iload_n d_TM_isIn_0 rfl ?_
  refine E_iload_n d_TM_isIn_1 rfl ?_
  first | (with_reducible refine E_isN2 ?_; refine E_icmp_lt 14 d_TM_isIn_2 rfl (nb_lt (by omega) (by omega) fun h2 => ?_) (nb_nlt (by omega) (by omega) fun h2 => ?_)) | refine E_icmp_lt 14 d_TM_isIn_2 rfl (fun h2 => ?_) (fun h2 => ?_)
  · refine E_iconst (v := nI 0) d_TM_isIn_14 rfl ?_
    refine E_retZ d_TM_isIn_15 rfl (by first | exact pI_01 _ | decide) ?_
    first | exact ⟨(pI_t ⟨Int32.not_lt.mp h2, Int32.not_lt.mp h7⟩).symm, rfl⟩ | exact ⟨(pI_f fun q => absurd q.1 (Int32.not_le.mpr h2)).symm, rfl⟩ | exact ⟨(pI_f fun q => absurd q.2 (Int32.not_le.mpr h7)).symm, rfl⟩
  · refine E_iload_n d_TM_isIn_5 rfl ?_
    refine E_iload_n d_TM_isIn_6 rfl ?_
    first | (with_reducible refine E_isN2 ?_; refine E_icmp_gt 14 d_TM_isIn_7 rfl (nb_lt (by omega) (by omega) fun h7 => ?_) (nb_nlt (by omega) (by omega) fun h7 => ?_)) | refine E_icmp_gt 14 d_TM_isIn_7 rfl (fun h7 => ?_) (fun h7 => ?_)
    · refine E_iconst (v := nI 0) d_TM_isIn_14 rfl ?_
      refine E_retZ d_TM_isIn_15 rfl (by first | exact pI_01 _ | decide) ?_
      first | exact ⟨(pI_t ⟨Int32.not_lt.mp h2, Int32.not_lt.mp h7⟩).symm, rfl⟩ | exact ⟨(pI_f fun q => absurd q.1 (Int32.not_le.mpr h2)).symm, rfl⟩ | exact ⟨(pI_f fun q => absurd q.2 (Int32.not_le.mpr h7)).symm, rfl⟩
    · refine E_iconst (v := nI 1) d_TM_isIn_10 rfl ?_
      refine E_goto 15 d_TM_isIn_11 rfl ?_
      refine E_retZ d_TM_isIn_15 rfl (by first | exact pI_01 _ | decide) ?_
      first | exact ⟨(pI_t ⟨Int32.not_lt.mp h2, Int32.not_lt.mp h7⟩).symm, rfl⟩ | exact ⟨(pI_f fun q => absurd q.1 (Int32.not_le.mpr h2)).symm, rfl⟩ | exact ⟨(pI_f fun q => absurd q.2 (Int32.not_le.mpr h7)).symm, rfl⟩
theorem tb_div (s k : Nat) : s.testBit k = true ↔ s / 2 ^ k &&& 1 = 1 := by
  rw [Nat.testBit_eq_decide_div_mod_eq, decide_eq_true_eq, Nat.and_one_is_mod]
theorem sp_TM_has {G : Geo} {M : Mem} (s k : Nat) (hs : s < 2147483648) (hk : k < 32) : E 0 0 0 Y_TM_has 0 [some (.int (nI s)), some (.int (nI k))] [] G M (QI G fun r M' => r = pI (s.testBit k = true) ∧ M' = M) := by
  have hlt : s / 2 ^ k &&& 1 < 2147483648 := Nat.lt_of_le_of_lt Nat.and_le_right (by decide)
  refine E_iload_n d_TM_has_0 rfl ?_
  refine E_iload_n d_TM_has_1 rfl ?_
  first | (with_reducible refine E_isN2 ?_; refine E_ishrN d_TM_has_2 (by omega) (by omega) ?_) | refine E_ishr d_TM_has_2 ?_
  refine E_iconst (v := nI 1) d_TM_has_3 rfl ?_
  first | (with_reducible refine E_isN2 ?_; refine E_iandN d_TM_has_4 ?_) | refine E_iand d_TM_has_4 ?_
  refine E_iconst (v := nI 1) d_TM_has_5 rfl ?_
  first | (with_reducible refine E_isN2 ?_; refine E_icmp_ne 13 d_TM_has_6 rfl (nb_ne fun h6 => ?_) (nb_eq (by omega) (by omega) fun h6 => ?_)) | refine E_icmp_ne 13 d_TM_has_6 rfl (fun h6 => ?_) (fun h6 => ?_)
  · refine E_iconst (v := nI 0) d_TM_has_13 rfl ?_
    refine E_retZ d_TM_has_14 rfl (by first | exact pI_01 _ | decide) ?_
    first | exact ⟨(pI_f fun q => h6 ((tb_div s k).mp q)).symm, rfl⟩ | exact ⟨(pI_t ((tb_div s k).mpr h6)).symm, rfl⟩
  · refine E_iconst (v := nI 1) d_TM_has_9 rfl ?_
    refine E_goto 14 d_TM_has_10 rfl ?_
    refine E_retZ d_TM_has_14 rfl (by first | exact pI_01 _ | decide) ?_
    first | exact ⟨(pI_f fun q => h6 ((tb_div s k).mp q)).symm, rfl⟩ | exact ⟨(pI_t ((tb_div s k).mpr h6)).symm, rfl⟩
