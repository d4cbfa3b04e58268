theorem sp_TM_isIn {G : Geo} {M : Mem} (v l t : Int32) : E 0 0 0 Y_TM_isIn 0 [some (.int v), some (.int l), some (.int t)] [] G M (QI G fun r M' => r = pI (l ≤ v ∧ v ≤ t) ∧ M' = M) := by
  refine E_iload_n d_TM_isIn_0 rfl ?_
  refine E_iload_n d_TM_isIn_1 rfl ?_
  first | (with_reducible refine E_isN2 ?_; refine E_icmp_lt 14 d_TM_isIn_2 rfl (nb_lt (by omega) (by omega) fun h2 => ?_) (nb_nlt (by omega) (by omega) fun h2 => ?_)) | refine E_icmp_lt 14 d_TM_isIn_2 rfl (fun h2 => ?_) (fun h2 => ?_)
  · refine E_iconst (v := nI 0) d_TM_isIn_14 rfl ?_
    refine E_retZ d_TM_isIn_15 rfl (by first | exact pI_01 _ | decide) ?_
    first | exact ⟨(pI_t ⟨Int32.not_lt.mp h2, Int32.not_lt.mp h7⟩).symm, rfl⟩ | exact ⟨(pI_f fun q => absurd q.1 (Int32.not_le.mpr h2)).symm, rfl⟩ | exact ⟨(pI_f fun q => absurd q.2 (Int32.not_le.mpr h7)).symm, rfl⟩
  · refine E_iload_n d_TM_isIn_5 rfl ?_
    refine E_iload_n d_TM_isIn_6 rfl ?_
    first | (with_reducible refine E_isN2 ?_; refine E_icmp_gt 14 d_TM_isIn_7 rfl (nb_lt (by omega) (by omega) fun h7 => ?_) (nb_nlt (by omega) (by omega) fun h7 => ?_)) | refine E_icmp_gt 14 d_TM_isIn_7 rfl (fun h7 => ?_) (fun h7 => ?_)
    · refine E_iconst (v := nI 0) d_TM_isIn_14 rfl ?_
      refine E_retZ d_TM_isIn_15 rfl (by first | exact pI_01 _ | decide) ?_
      first | exact ⟨(pI_t ⟨Int32.not_lt.mp h2, Int32.not_lt.mp h7⟩).symm, rfl⟩ | exact ⟨(pI_f fun q => absurd q.1 (Int32.not_le.mpr h2)).symm, rfl⟩ | exact ⟨(pI_f fun q => absurd q.2 (Int32.not_le.mpr h7)).symm, rfl⟩
    · refine E_iconst (v := nI 1) d_TM_isIn_10 rfl ?_
      refine E_goto 15 d_TM_isIn_11 rfl ?_
      refine E_retZ d_TM_isIn_15 rfl (by first | exact pI_01 _ | decide) ?_
      first | exact ⟨(pI_t ⟨Int32.not_lt.mp h2, Int32.not_lt.mp h7⟩).symm, rfl⟩ | exact ⟨(pI_f fun q => absurd q.1 (Int32.not_le.mpr h2)).symm, rfl⟩ | exact ⟨(pI_f fun q => absurd q.2 (Int32.not_le.mpr h7)).symm, rfl⟩
theorem tb_div (s k : Nat) : s.testBit k = true ↔ s / 2 ^ k &&& 1 = 1 := by
  rw [Nat.testBit_eq_decide_div_mod_eq, decide_eq_true_eq, Nat.and_one_is_mod]
theorem sp_TM_has {G : Geo} {M : Mem} (s k : Nat) (hs : s < 2147483648) (hk : k < 32) : E 0 0 0 Y_TM_has 0 [some (.int (nI s)), some (.int (nI k))] [] G M (QI G fun r M' => r = pI (s.testBit k = true) ∧ M' = M) := by
  have hlt : s / 2 ^ k &&& 1 < 2147483648 := Nat.lt_of_le_of_lt Nat.and_le_right (by decide)
  refine E_iload_n d_TM_has_0 rfl ?_
  refine E_iload_n d_TM_has_1 rfl ?_
  first | (with_reducible refine E_isN2 ?_; refine E_ishrN d_TM_has_2 (by omega) (by omega) ?_) | refine E_ishr d_TM_has_2 ?_
  refine E_iconst (v := nI 1) d_TM_has_3 rfl ?_
  first | (with_reducible refine E_isN2 ?_; refine E_iandN d_TM_has_4 ?_) | refine E_iand d_TM_has_4 ?_
  refine E_iconst (v := nI 1) d_TM_has_5 rfl ?_
  first | (with_reducible refine E_isN2 ?_; refine E_icmp_ne 13 d_TM_has_6 rfl (nb_ne fun h6 => ?_) (nb_eq (by omega) (by omega) fun h6 => ?_)) | refine E_icmp_ne 13 d_TM_has_6 rfl (fun h6 => ?_) (fun h6 => ?_)
  · refine E_iconst (v := nI 0) d_TM_has_13 rfl ?_
    refine E_retZ d_TM_has_14 rfl (by first | exact pI_01 _ | decide) ?_
    first | exact ⟨(pI_f fun q => h6 ((tb_div s k).mp q)).symm, rfl⟩ | exact ⟨(pI_t ((tb_div s k).mpr h6)).symm, rfl⟩
  · refine E_iconst (v := nI 1) d_TM_has_9 rfl ?_
    refine E_goto 14 d_TM_has_10 rfl ?_
    refine E_retZ d_TM_has_14 rfl (by first | exact pI_01 _ | decide) ?_
    first | exact ⟨(pI_f fun q => h6 ((tb_div s k).mp q)).symm, rfl⟩ | exact ⟨(pI_t ((tb_div s k).mpr h6)).symm, rfl⟩
theorem lp_TM_bits {G : Geo} {M : Mem} (s : Nat) : ∀ (n l : Nat), l < 512 → pc9 l = n → ∀ k : Nat, k + n = pc9 s → E 0 0 0 Y_TM_bits 4 [some (.int (nI s)), some (.int (nI k)), some (.int (nI l))] [] G M (QI G fun r M' => r = nI (pc9 s) ∧ M' = M) := by
  intro n
  induction n with
  | zero =>
    intro l hl hn k hk
    have h0 : l = 0 := by
      rcases Nat.eq_zero_or_pos l with h | h
      · exact h
      · have := (pc9_tab l hl).2 (by omega)
        omega
    subst h0
    refine E_iload_n d_TM_bits_4 rfl ?_
    first | (with_reducible refine E_isP ?_; refine E_if_eq 20 d_TM_bits_5 rfl (pb_0 fun h5 => ?_) (pb_1 fun h5 => ?_)) | (with_reducible refine E_isN1 ?_; refine E_if_eq 20 d_TM_bits_5 rfl (nz_eq (by omega) fun h5 => ?_) (nz_ne fun h5 => ?_)) | refine E_if_eq 20 d_TM_bits_5 rfl (fun h5 => ?_) (fun h5 => ?_)
    rotate_left
    · exfalso; omega
    refine E_iload_n d_TM_bits_20 rfl ?_
    refine E_retI d_TM_bits_21 rfl ?_
    exact ⟨by rw [← hk]; rfl, rfl⟩
  | succ n ih =>
    intro l hl hn k hk
    have h0 : l ≠ 0 := by
      intro h
      subst h
      exact absurd hn (by rw [pc9_0]; omega)
    have hb := (pc9_tab l hl).2 h0
    refine E_iload_n d_TM_bits_4 rfl ?_
    first | (with_reducible refine E_isP ?_; refine E_if_eq 20 d_TM_bits_5 rfl (pb_0 fun h5 => ?_) (pb_1 fun h5 => ?_)) | (with_reducible refine E_isN1 ?_; refine E_if_eq 20 d_TM_bits_5 rfl (nz_eq (by omega) fun h5 => ?_) (nz_ne fun h5 => ?_)) | refine E_if_eq 20 d_TM_bits_5 rfl (fun h5 => ?_) (fun h5 => ?_)
    · exfalso; exact h0 h5
    first | (with_reducible refine E_isL1 ?_; refine E_iincN1 (m := 1) d_TM_bits_8 rfl rfl ?_) | refine E_iinc_1 d_TM_bits_8 rfl rfl ?_
    refine E_iload_n d_TM_bits_11 rfl ?_
    refine E_iload_n d_TM_bits_12 rfl ?_
    refine E_iconst (v := nI 1) d_TM_bits_13 rfl ?_
    first | (with_reducible refine E_isN2 ?_; refine E_isubN d_TM_bits_14 (by omega) ?_) | refine E_isub d_TM_bits_14 ?_
    first | (with_reducible refine E_isN2 ?_; refine E_iandN d_TM_bits_15 ?_) | refine E_iand d_TM_bits_15 ?_
    refine E_istore_2 d_TM_bits_16 rfl ?_
    refine E_goto 4 d_TM_bits_17 rfl ?_
    exact ih _ (by omega) (by omega) _ (by omega)
theorem sp_TM_bits {G : Geo} {M : Mem} (s : Nat) (hs : s < 512) : E 0 0 0 Y_TM_bits 0 [some (.int (nI s)), none, none] [] G M (QI G fun r M' => r = nI (pc9 s) ∧ M' = M) := by
  refine E_iconst (v := nI 0) d_TM_bits_0 rfl ?_
  refine E_istore_1 d_TM_bits_1 rfl ?_
  refine E_iload_n d_TM_bits_2 rfl ?_
  refine E_istore_2 d_TM_bits_3 rfl ?_
  exact lp_TM_bits s _ s hs rfl 0 (by omega)
