section TPe
variable {c : Cr} {G : Geo} {M : Mem}
theorem sp_TP_isPart (x y : Int32) : E 0 0 0 Y_TP_isPart 0 [some (.int x), some (.int y)] [] G M (QI G fun r M' => r = pI (inN y 100 ∧ inN x (tN y)) ∧ M' = M) := by
  have et : tN y = y.toInt.toNat := rfl
  have e1 : (nI 1).toInt = 1 := by decide
  have e99 : (nI 99).toInt = 99 := by decide
  have k1 : y < nI 1 → nI 0 = pI (inN y 100 ∧ inN x (tN y)) := fun h => (pI_f (fun q => by
    rw [lt_toInt, e1] at h; have q2 := q.2; unfold inN at q2; omega)).symm
  have k2 : nI 99 < y → nI 0 = pI (inN y 100 ∧ inN x (tN y)) := fun h => (pI_f (fun q => by
    rw [lt_toInt, e99] at h; have q2 := q.1; unfold inN at q2; omega)).symm
  have k3 : x < 0 → nI 0 = pI (inN y 100 ∧ inN x (tN y)) := fun h => (pI_f (fun q => by
    rw [lt_toInt, z32] at h; have q2 := q.2; unfold inN at q2; omega)).symm
  have k4 : y ≤ x → nI 0 = pI (inN y 100 ∧ inN x (tN y)) := fun h => (pI_f (fun q => by
    rw [le_toInt] at h; have q1 := q.1; have q2 := q.2; unfold inN at q1; unfold inN at q2; omega)).symm
  have k5 : ¬ y < nI 1 → ¬ nI 99 < y → ¬ x < 0 → ¬ y ≤ x → nI 1 = pI (inN y 100 ∧ inN x (tN y)) := fun h1 h2 h3 h4 => (pI_t (by
    rw [lt_toInt, e1] at h1; rw [lt_toInt, e99] at h2; rw [lt_toInt, z32] at h3; rw [le_toInt] at h4
    unfold inN; omega)).symm
  refine E_iload_n d_TP_isPart_0 rfl ?_
  refine E_iconst (v := nI 1) d_TP_isPart_1 rfl ?_
  first | (with_reducible refine E_isN2 ?_; refine E_icmp_lt 24 d_TP_isPart_2 rfl (nb_lt (by omega) (by omega) fun h2 => ?_) (nb_nlt (by omega) (by omega) fun h2 => ?_)) | refine E_icmp_lt 24 d_TP_isPart_2 rfl (fun h2 => ?_) (fun h2 => ?_)
  · refine E_iconst (v := nI 0) d_TP_isPart_24 rfl ?_
    refine E_retZ d_TP_isPart_25 rfl (by decide) ?_
    first | exact And.intro (k1 h2) rfl | exact And.intro (k2 h8) rfl | exact And.intro (k3 h12) rfl | exact And.intro (k4 h17) rfl | exact And.intro (k5 h2 h8 h12 h17) rfl
  · refine E_iload_n d_TP_isPart_5 rfl ?_
    refine E_bipush (v := nI 99) d_TP_isPart_6 (by decide) ?_
    first | (with_reducible refine E_isN2 ?_; refine E_icmp_gt 24 d_TP_isPart_8 rfl (nb_lt (by omega) (by omega) fun h8 => ?_) (nb_nlt (by omega) (by omega) fun h8 => ?_)) | refine E_icmp_gt 24 d_TP_isPart_8 rfl (fun h8 => ?_) (fun h8 => ?_)
    · refine E_iconst (v := nI 0) d_TP_isPart_24 rfl ?_
      refine E_retZ d_TP_isPart_25 rfl (by decide) ?_
      first | exact And.intro (k1 h2) rfl | exact And.intro (k2 h8) rfl | exact And.intro (k3 h12) rfl | exact And.intro (k4 h17) rfl | exact And.intro (k5 h2 h8 h12 h17) rfl
    · refine E_iload_n d_TP_isPart_11 rfl ?_
      first | (with_reducible refine E_isN1 ?_; refine E_if_lt 24 d_TP_isPart_12 rfl (nz_lt (by omega) fun h12 => ?_) (nz_nlt (by omega) fun h12 => ?_)) | refine E_if_lt 24 d_TP_isPart_12 rfl (fun h12 => ?_) (fun h12 => ?_)
      · refine E_iconst (v := nI 0) d_TP_isPart_24 rfl ?_
        refine E_retZ d_TP_isPart_25 rfl (by decide) ?_
        first | exact And.intro (k1 h2) rfl | exact And.intro (k2 h8) rfl | exact And.intro (k3 h12) rfl | exact And.intro (k4 h17) rfl | exact And.intro (k5 h2 h8 h12 h17) rfl
      · refine E_iload_n d_TP_isPart_15 rfl ?_
        refine E_iload_n d_TP_isPart_16 rfl ?_
        first | (with_reducible refine E_isN2 ?_; refine E_icmp_ge 24 d_TP_isPart_17 rfl (nb_le (by omega) (by omega) fun h17 => ?_) (nb_nle (by omega) (by omega) fun h17 => ?_)) | refine E_icmp_ge 24 d_TP_isPart_17 rfl (fun h17 => ?_) (fun h17 => ?_)
        · refine E_iconst (v := nI 0) d_TP_isPart_24 rfl ?_
          refine E_retZ d_TP_isPart_25 rfl (by decide) ?_
          first | exact And.intro (k1 h2) rfl | exact And.intro (k2 h8) rfl | exact And.intro (k3 h12) rfl | exact And.intro (k4 h17) rfl | exact And.intro (k5 h2 h8 h12 h17) rfl
        · refine E_iconst (v := nI 1) d_TP_isPart_20 rfl ?_
          refine E_goto 25 d_TP_isPart_21 rfl ?_
          refine E_retZ d_TP_isPart_25 rfl (by decide) ?_
          first | exact And.intro (k1 h2) rfl | exact And.intro (k2 h8) rfl | exact And.intro (k3 h12) rfl | exact And.intro (k4 h17) rfl | exact And.intro (k5 h2 h8 h12 h17) rfl
theorem sp_TP_decimal (hG : GC G) (x y z : Int32) : E 1 0 0 Y_TP_decimal 0 [some (.ref 0), some (.int x), some (.int y), some (.int z), none, none] [] G M (QI G fun r M' => r = ans_decimal x y z ∧ M' = M) := by
  by_cases hp : inN y 100 ∧ inN x (tN y)
  · obtain ⟨a, w, rfl, rfl, haw, hw, ht1, ht2⟩ := part_ex hp
    revert z
    refine args1 1000 (fun n hn hz ht => ?_) (fun z hz => ?_)
    · have hl := lbN_lt (show 0 < w by omega) haw
      have L : ∀ k i, i + k = n → E 1 0 0 Y_TP_decimal 27 [some (.ref 0), some (.int (nI a)), some (.int (nI w)), some (.int (nI n)), some (.int (nI (lbN w i a))), some (.int (nI i))] [] G M (QI G fun r M' => r = ans_decimal (nI a) (nI w) (nI n) ∧ M' = M) := by
        intro k
        induction k with
        | zero =>
          intro i hi
          have hi2 : i = n := by omega
          subst hi2
          have := hl i
          refine E_iload d_TP_decimal_27 rfl ?_
          refine E_iload_n d_TP_decimal_29 rfl ?_
          first | (with_reducible refine E_isN2 ?_; refine E_icmp_ge 48 d_TP_decimal_30 rfl (nb_le (by omega) (by omega) fun h30 => ?_) (nb_nle (by omega) (by omega) fun h30 => ?_)) | refine E_icmp_ge 48 d_TP_decimal_30 rfl (fun h30 => ?_) (fun h30 => ?_)
          rotate_left
          · exfalso; omega
          refine E_iload d_TP_decimal_48 rfl ?_
          refine E_bipush (v := nI 10) d_TP_decimal_50 (by decide) ?_
          first | (with_reducible refine E_isN2 ?_; refine E_imulN d_TP_decimal_52 ?_) | refine E_imul d_TP_decimal_52 ?_
          refine E_iload_n d_TP_decimal_53 rfl ?_
          first | (with_reducible refine E_isN2 ?_; refine E_idivN d_TP_decimal_54 (by omega) (by omega) (by omega) ?_) | refine E_idiv d_TP_decimal_54 (by decide) ?_
          refine E_retI d_TP_decimal_55 rfl ?_
          exact ⟨by rw [ans_decimal, if_pos ⟨hp, hz⟩, ht1, ht2, ht], rfl⟩
        | succ k ih =>
          intro i hi
          have := hl i
          refine E_iload d_TP_decimal_27 rfl ?_
          refine E_iload_n d_TP_decimal_29 rfl ?_
          first | (with_reducible refine E_isN2 ?_; refine E_icmp_ge 48 d_TP_decimal_30 rfl (nb_le (by omega) (by omega) fun h30 => ?_) (nb_nle (by omega) (by omega) fun h30 => ?_)) | refine E_icmp_ge 48 d_TP_decimal_30 rfl (fun h30 => ?_) (fun h30 => ?_)
          · exfalso; omega
          refine E_iload d_TP_decimal_33 rfl ?_
          refine E_bipush (v := nI 10) d_TP_decimal_35 (by decide) ?_
          first | (with_reducible refine E_isN2 ?_; refine E_imulN d_TP_decimal_37 ?_) | refine E_imul d_TP_decimal_37 ?_
          refine E_iload_n d_TP_decimal_38 rfl ?_
          first | (with_reducible refine E_isN2 ?_; refine E_iremN d_TP_decimal_39 (by omega) (by omega) (by omega) ?_) | refine E_irem d_TP_decimal_39 (by decide) ?_
          refine E_istore_4 d_TP_decimal_40 rfl ?_
          first | (with_reducible refine E_isL5 ?_; refine E_iincN5 (m := 1) d_TP_decimal_42 rfl rfl ?_) | refine E_iinc_5 d_TP_decimal_42 rfl rfl ?_
          refine E_goto 27 d_TP_decimal_45 rfl ?_
          exact ih (i + 1) (by omega)
      refine E_iload_n d_TP_decimal_0 rfl ?_
      refine E_iload_n d_TP_decimal_1 rfl ?_
      refine E_S2 (sp_TP_isPart _ _) d_TP_decimal_2 ml_TP_342 cb_TP_isPart cs_TP_isPart ⟨by decide, by decide⟩ rfl (Nat.le_of_ble_eq_true rfl) (Nat.le_of_ble_eq_true rfl) (kI fun r1 M1 hc => ?_)
      obtain ⟨rfl, rfl⟩ := hc
      first | (with_reducible refine E_isP ?_; refine E_if_eq 19 d_TP_decimal_5 rfl (pb_0 fun h5 => ?_) (pb_1 fun h5 => ?_)) | (with_reducible refine E_isN1 ?_; refine E_if_eq 19 d_TP_decimal_5 rfl (nz_eq (by omega) fun h5 => ?_) (nz_ne fun h5 => ?_)) | refine E_if_eq 19 d_TP_decimal_5 rfl (fun h5 => ?_) (fun h5 => ?_)
      · exfalso; exact h5 hp
      refine E_iload_n d_TP_decimal_8 rfl ?_
      first | (with_reducible refine E_isN1 ?_; refine E_if_lt 19 d_TP_decimal_9 rfl (nz_lt (by omega) fun h9 => ?_) (nz_nlt (by omega) fun h9 => ?_)) | refine E_if_lt 19 d_TP_decimal_9 rfl (fun h9 => ?_) (fun h9 => ?_)
      · exfalso; exact absurd h9 (Nat.not_lt_zero n)
      refine E_iload_n d_TP_decimal_12 rfl ?_
      refine E_sipush (v := nI 999) d_TP_decimal_13 (by decide) ?_
      first | (with_reducible refine E_isN2 ?_; refine E_icmp_le 21 d_TP_decimal_16 rfl (nb_le (by omega) (by omega) fun h16 => ?_) (nb_nle (by omega) (by omega) fun h16 => ?_)) | refine E_icmp_le 21 d_TP_decimal_16 rfl (fun h16 => ?_) (fun h16 => ?_)
      rotate_left
      · exfalso; omega
      refine E_iload_n d_TP_decimal_21 rfl ?_
      refine E_istore_4 d_TP_decimal_22 rfl ?_
      refine E_iconst (v := nI 0) d_TP_decimal_24 rfl ?_
      refine E_istore_5 d_TP_decimal_25 rfl ?_
      exact L n 0 (Nat.zero_add _)
    · have ho := out_le (n := 999) (by decide) hz
      have e : ans_decimal (nI a) (nI w) z = -1 := by rw [ans_decimal, if_neg (fun q => hz q.2)]
      refine E_iload_n d_TP_decimal_0 rfl ?_
      refine E_iload_n d_TP_decimal_1 rfl ?_
      refine E_S2 (sp_TP_isPart _ _) d_TP_decimal_2 ml_TP_342 cb_TP_isPart cs_TP_isPart ⟨by decide, by decide⟩ rfl (Nat.le_of_ble_eq_true rfl) (Nat.le_of_ble_eq_true rfl) (kI fun r1 M1 hc => ?_)
      obtain ⟨rfl, rfl⟩ := hc
      first | (with_reducible refine E_isP ?_; refine E_if_eq 19 d_TP_decimal_5 rfl (pb_0 fun h5 => ?_) (pb_1 fun h5 => ?_)) | (with_reducible refine E_isN1 ?_; refine E_if_eq 19 d_TP_decimal_5 rfl (nz_eq (by omega) fun h5 => ?_) (nz_ne fun h5 => ?_)) | refine E_if_eq 19 d_TP_decimal_5 rfl (fun h5 => ?_) (fun h5 => ?_)
      · exfalso; exact h5 hp
      refine E_iload_n d_TP_decimal_8 rfl ?_
      first | (with_reducible refine E_isN1 ?_; refine E_if_lt 19 d_TP_decimal_9 rfl (nz_lt (by omega) fun h9 => ?_) (nz_nlt (by omega) fun h9 => ?_)) | refine E_if_lt 19 d_TP_decimal_9 rfl (fun h9 => ?_) (fun h9 => ?_)
      · refine E_iconst (v := (-1)) d_TP_decimal_19 rfl ?_
        refine E_retI d_TP_decimal_20 rfl ?_
        exact ⟨e.symm, rfl⟩
      · refine E_iload_n d_TP_decimal_12 rfl ?_
        refine E_sipush (v := nI 999) d_TP_decimal_13 (by decide) ?_
        first | (with_reducible refine E_isN2 ?_; refine E_icmp_le 21 d_TP_decimal_16 rfl (nb_le (by omega) (by omega) fun h16 => ?_) (nb_nle (by omega) (by omega) fun h16 => ?_)) | refine E_icmp_le 21 d_TP_decimal_16 rfl (fun h16 => ?_) (fun h16 => ?_)
        · exfalso; exact ho h9 h16
        refine E_iconst (v := (-1)) d_TP_decimal_19 rfl ?_
        refine E_retI d_TP_decimal_20 rfl ?_
        exact ⟨e.symm, rfl⟩
  · have e : ans_decimal x y z = -1 := by rw [ans_decimal, if_neg (fun q => hp q.1)]
    refine E_iload_n d_TP_decimal_0 rfl ?_
    refine E_iload_n d_TP_decimal_1 rfl ?_
    refine E_S2 (sp_TP_isPart _ _) d_TP_decimal_2 ml_TP_342 cb_TP_isPart cs_TP_isPart ⟨by decide, by decide⟩ rfl (Nat.le_of_ble_eq_true rfl) (Nat.le_of_ble_eq_true rfl) (kI fun r1 M1 hc => ?_)
    obtain ⟨rfl, rfl⟩ := hc
    first | (with_reducible refine E_isP ?_; refine E_if_eq 19 d_TP_decimal_5 rfl (pb_0 fun h5 => ?_) (pb_1 fun h5 => ?_)) | (with_reducible refine E_isN1 ?_; refine E_if_eq 19 d_TP_decimal_5 rfl (nz_eq (by omega) fun h5 => ?_) (nz_ne fun h5 => ?_)) | refine E_if_eq 19 d_TP_decimal_5 rfl (fun h5 => ?_) (fun h5 => ?_)
    rotate_left
    · exfalso; exact hp h5
    refine E_iconst (v := (-1)) d_TP_decimal_19 rfl ?_
    refine E_retI d_TP_decimal_20 rfl ?_
    exact ⟨e.symm, rfl⟩
theorem sp_JA_fillI {a n : Nat} {v : Int32} (hs : Sh G a (1, n)) (hn : n < 2147483648) : E 0 0 0 Y_JA_fill_AII 0 [some (.ref a), some (.int v), none, none] [] G M (QV G fun M' => Sc (fun k => k = a) M M' ∧ ∀ j, j < n → mI M' a j = v) := by
  have L : ∀ k i M1, i + k = n → Sc (fun k => k = a) M M1 → (∀ j, j < i → mI M1 a j = v) → E 0 0 0 Y_JA_fill_AII 5 [some (.ref a), some (.int v), some (.int (nI i)), some (.int (nI n))] [] G M1 (QV G fun M' => Sc (fun k => k = a) M M' ∧ ∀ j, j < n → mI M' a j = v) := by
    intro k
    induction k with
    | zero =>
      intro i M1 hi hX hv
      have hi2 : i = n := by omega
      subst hi2
      refine E_iload_n d_JA_fill_AII_5 rfl ?_
      refine E_iload_n d_JA_fill_AII_6 rfl ?_
      first | (with_reducible refine E_isN2 ?_; refine E_icmp_ge 20 d_JA_fill_AII_7 rfl (nb_le (by omega) (by omega) fun h7 => ?_) (nb_nle (by omega) (by omega) fun h7 => ?_)) | refine E_icmp_ge 20 d_JA_fill_AII_7 rfl (fun h7 => ?_) (fun h7 => ?_)
      rotate_left
      · exfalso; omega
      refine E_retV d_JA_fill_AII_20 rfl ?_
      exact ⟨hX, hv⟩
    | succ k ih =>
      intro i M1 hi hX hv
      refine E_iload_n d_JA_fill_AII_5 rfl ?_
      refine E_iload_n d_JA_fill_AII_6 rfl ?_
      first | (with_reducible refine E_isN2 ?_; refine E_icmp_ge 20 d_JA_fill_AII_7 rfl (nb_le (by omega) (by omega) fun h7 => ?_) (nb_nle (by omega) (by omega) fun h7 => ?_)) | refine E_icmp_ge 20 d_JA_fill_AII_7 rfl (fun h7 => ?_) (fun h7 => ?_)
      · exfalso; omega
      first | refine E_aload_n d_JA_fill_AII_10 rfl ?_ | refine E_aload_nN d_JA_fill_AII_10 rfl ?_
      refine E_iload_n d_JA_fill_AII_11 rfl ?_
      refine E_iload_n d_JA_fill_AII_12 rfl ?_
      refine E_iast d_JA_fill_AII_13 (by exact hs) (by exact ⟨by with_reducible rfl, by omega, by omega⟩) ?_
      first | (with_reducible refine E_isL2 ?_; refine E_iincN2 (m := 1) d_JA_fill_AII_14 rfl rfl ?_) | refine E_iinc_2 d_JA_fill_AII_14 rfl rfl ?_
      refine E_goto 5 d_JA_fill_AII_17 rfl ?_
      refine ih (i + 1) _ (by omega) (hX.wI rfl) (fun j hj => ?_)
      rw [mI_wa]
      by_cases q : j = i
      · rw [if_pos q]
      · rw [if_neg q]; exact hv j (by omega)
  refine E_iconst (v := nI 0) d_JA_fill_AII_0 rfl ?_
  refine E_istore_2 d_JA_fill_AII_1 rfl ?_
  first | refine E_aload_n d_JA_fill_AII_2 rfl ?_ | refine E_aload_nN d_JA_fill_AII_2 rfl ?_
  refine E_alen d_JA_fill_AII_3 (by exact hs) (by decide) rfl ?_
  refine E_istore_3 d_JA_fill_AII_4 rfl ?_
  exact L n 0 M (Nat.zero_add _) Sc.rf (fun j hj => absurd hj (Nat.not_lt_zero j))
theorem sp_JA_fillJ {a n : Nat} {v : Int64} (hs : Sh G a (2, n)) (hn : n < 2147483648) : E 0 0 0 Y_JA_fill_AJJ 0 [some (.ref a), some (.long v), none, none, none] [] G M (QV G fun M' => Sc (fun k => k = a) M M' ∧ ∀ j, j < n → mL M' a j = v) := by
  have L : ∀ k i M1, i + k = n → Sc (fun k => k = a) M M1 → (∀ j, j < i → mL M1 a j = v) → E 0 0 0 Y_JA_fill_AJJ 6 [some (.ref a), some (.long v), none, some (.int (nI i)), some (.int (nI n))] [] G M1 (QV G fun M' => Sc (fun k => k = a) M M' ∧ ∀ j, j < n → mL M' a j = v) := by
    intro k
    induction k with
    | zero =>
      intro i M1 hi hX hv
      have hi2 : i = n := by omega
      subst hi2
      refine E_iload_n d_JA_fill_AJJ_6 rfl ?_
      refine E_iload d_JA_fill_AJJ_7 rfl ?_
      first | (with_reducible refine E_isN2 ?_; refine E_icmp_ge 22 d_JA_fill_AJJ_9 rfl (nb_le (by omega) (by omega) fun h9 => ?_) (nb_nle (by omega) (by omega) fun h9 => ?_)) | refine E_icmp_ge 22 d_JA_fill_AJJ_9 rfl (fun h9 => ?_) (fun h9 => ?_)
      rotate_left
      · exfalso; omega
      refine E_retV d_JA_fill_AJJ_22 rfl ?_
      exact ⟨hX, hv⟩
    | succ k ih =>
      intro i M1 hi hX hv
      refine E_iload_n d_JA_fill_AJJ_6 rfl ?_
      refine E_iload d_JA_fill_AJJ_7 rfl ?_
      first | (with_reducible refine E_isN2 ?_; refine E_icmp_ge 22 d_JA_fill_AJJ_9 rfl (nb_le (by omega) (by omega) fun h9 => ?_) (nb_nle (by omega) (by omega) fun h9 => ?_)) | refine E_icmp_ge 22 d_JA_fill_AJJ_9 rfl (fun h9 => ?_) (fun h9 => ?_)
      · exfalso; omega
      first | refine E_aload_n d_JA_fill_AJJ_12 rfl ?_ | refine E_aload_nN d_JA_fill_AJJ_12 rfl ?_
      refine E_iload_n d_JA_fill_AJJ_13 rfl ?_
      refine E_lload_n d_JA_fill_AJJ_14 rfl ?_
      refine E_last d_JA_fill_AJJ_15 (by exact hs) (by exact ⟨by with_reducible rfl, by omega, by omega⟩) ?_
      first | (with_reducible refine E_isL3 ?_; refine E_iincN3 (m := 1) d_JA_fill_AJJ_16 rfl rfl ?_) | refine E_iinc_3 d_JA_fill_AJJ_16 rfl rfl ?_
      refine E_goto 6 d_JA_fill_AJJ_19 rfl ?_
      refine ih (i + 1) _ (by omega) (hX.wL rfl) (fun j hj => ?_)
      rw [mL_wL]
      by_cases q : j = i
      · rw [if_pos ⟨rfl, q⟩]
      · rw [if_neg (fun r => q r.2)]; exact hv j (by omega)
  refine E_iconst (v := nI 0) d_JA_fill_AJJ_0 rfl ?_
  refine E_istore_3 d_JA_fill_AJJ_1 rfl ?_
  first | refine E_aload_n d_JA_fill_AJJ_2 rfl ?_ | refine E_aload_nN d_JA_fill_AJJ_2 rfl ?_
  refine E_alen d_JA_fill_AJJ_3 (by exact hs) (by decide) rfl ?_
  refine E_istore_4 d_JA_fill_AJJ_4 rfl ?_
  exact L n 0 M (Nat.zero_add _) Sc.rf (fun j hj => absurd hj (Nat.not_lt_zero j))
theorem findP_eq (P : Nat → Bool) {m : Nat} (hm : P m = true) : ∀ k n, n ≤ m → m < n + k → (∀ j, n ≤ j → j < m → ¬ P j = true) → findP P k n = m := by
  intro k
  induction k with
  | zero => intro n h1 h2; omega
  | succ k ih =>
    intro n h1 h2 h3
    rw [findP]
    by_cases e : n = m
    · rw [e, if_pos hm]
    · rw [if_neg (h3 n (Nat.le_refl _) (by omega))]
      exact ih (n + 1) (by omega) (by omega) (fun j hj => h3 j (by omega))
def dst (w a i : Nat) : Prop := ∀ k1 k2, k1 < k2 → k2 < i → lbN w k1 a ≠ lbN w k2 a
theorem dst.inj {w a i : Nat} (h : dst w a i) {k1 k2 : Nat} (h1 : k1 < i) (h2 : k2 < i) (e : lbN w k1 a = lbN w k2 a) : k1 = k2 := by
  rcases Nat.lt_trichotomy k1 k2 with q | q | q
  · exact absurd e (h _ _ q h2)
  · exact q
  · exact absurd e.symm (h _ _ q h1)
theorem per {w a s l : Nat} (e : lbN w (s + l) a = lbN w s a) : ∀ k r, lbN w (s + r + k * l) a = lbN w (s + r) a := by
  intro k
  induction k with
  | zero => intro r; rw [Nat.zero_mul, Nat.add_zero]
  | succ k ih =>
    intro r
    have h := ih (r + l)
    rw [show s + r + (k + 1) * l = s + (r + l) + k * l by rw [Nat.succ_mul]; omega, h, show s + (r + l) = r + (s + l) by omega, lbN_add, e, ← lbN_add, Nat.add_comm r s]
theorem per_mod {w a s l n : Nat} (e : lbN w (s + l) a = lbN w s a) : lbN w (s + n) a = lbN w (s + n % l) a := by
  have h := per e (n / l) (n % l)
  rw [← h]
  congr 1
  have := Nat.mod_add_div n l
  rw [Nat.mul_comm] at this
  omega
theorem rep_len {w a s i : Nat} (hs : s < i) (hi : i ≤ 99) (hd : dst w a i) (e : lbN w i a = lbN w s a) : lenN w a = i - s := by
  have e2 : lbN w (s + (i - s)) a = lbN w s a := by rw [show s + (i - s) = i by omega]; exact e
  have e99 : ∀ l, lbN w l (lbN w 99 a) = lbN w (s + (99 - s + l)) a := fun l => by rw [← lbN_add]; congr 1; omega
  have e98 : lbN w 99 a = lbN w (s + (99 - s)) a := by congr 1; omega
  have hml := Nat.mod_lt (99 - s) (show 0 < i - s by omega)
  unfold lenN
  refine findP_eq _ (decide_eq_true ?_) 99 1 (by omega) (by omega) (fun j h1 h2 q => ?_)
  · rw [e99, per_mod e2, Nat.add_mod_right, ← per_mod e2, ← e98]
  · have q := of_decide_eq_true q
    rw [e99, e98, per_mod e2, per_mod (n := 99 - s) e2] at q
    have q2 := hd.inj (by have := Nat.mod_lt (99 - s + j) (show 0 < i - s by omega); omega) (by omega) q
    have q3 : (99 - s + j) % (i - s) = (99 - s) % (i - s) := by omega
    rw [← Nat.mod_add_mod] at q3
    by_cases q4 : (99 - s) % (i - s) + j < i - s
    · rw [Nat.mod_eq_of_lt q4] at q3; omega
    · rw [Nat.mod_eq_sub_mod (by omega), Nat.mod_eq_of_lt (by omega)] at q3; omega
theorem rep_start {w a s i : Nat} (hs : s < i) (hi : i ≤ 99) (hd : dst w a i) (e : lbN w i a = lbN w s a) : startN w a = s := by
  unfold startN
  rw [rep_len hs hi hd e]
  refine findP_eq _ (decide_eq_true ?_) 100 0 (Nat.zero_le _) (by omega) (fun j h1 h2 q => ?_)
  · rw [show s + (i - s) = i by omega]; exact e.symm
  · have q2 := hd.inj (by omega) (by omega) (of_decide_eq_true q)
    omega
theorem sp_TP_decimals (hG : GC G) (hR : RC M) (x y z : Int32) : E 1 0 0 Y_TP_decimals 0 [some (.ref 0), some (.int x), some (.int y), some (.int z), none, none, none] [] G M (QI G fun r M' => r = ans_decimals x y z ∧ Sc CQ M M') := by
  by_cases hp : inN y 100 ∧ inN x (tN y)
  · obtain ⟨a, w, rfl, rfl, haw, hw, ht1, ht2⟩ := part_ex hp
    have hl := lbN_lt (show 0 < w by omega) haw
    have ev : ans_decimals (nI a) (nI w) z = if z = 0 then nI (startN w a) else nI (lenN w a) := by rw [ans_decimals, if_pos hp, ht1, ht2]
    have sq : ∀ k, k = 233 → CQ k := fun k q => by unfold CQ; omega
    have h233 : Sh G 233 (1, 99) := hG.s (by decide) rfl
    have L : ∀ k i M1 u, i + k = w + 1 → RC M1 → Sc CQ M M1 → dst w a i → (∀ r, r < w → (∀ k, k < i → lbN w k a ≠ r) → mI M1 233 r = -1) → (∀ k, k < i → mI M1 233 (lbN w k a) = nI k) → E 1 0 0 Y_TP_decimals 24 [some (.ref 0), some (.int (nI a)), some (.int (nI w)), some (.int z), some (.int (nI (lbN w i a))), some (.int (nI i)), u] [] G M1 (QI G fun r M' => r = ans_decimals (nI a) (nI w) z ∧ Sc CQ M M') := by
      intro k
      induction k with
      | zero =>
        intro i M1 u hi hR hX hd h1 h2
        exfalso
        obtain ⟨i1, j1, q1, q2, q3⟩ := pigeon w (fun k => lbN w k a) (fun k _ => hl k)
        exact hd i1 j1 q1 (by omega) q3
      | succ k ih =>
        intro i M1 u hi hR hX hd h1 h2
        have hli := hl i
        by_cases hex : ∃ s, s < i ∧ lbN w s a = lbN w i a
        · obtain ⟨s, hs, es⟩ := hex
          have hv := h2 s hs
          rw [es] at hv
          have r1 := rep_len hs (by omega) hd es.symm
          have r2 := rep_start hs (by omega) hd es.symm
          have a1 : z = 0 → nI s = ans_decimals (nI a) (nI w) z := fun q => by rw [ev, if_pos q, r2]
          have a2 : ¬ z = 0 → nI (i - s) = ans_decimals (nI a) (nI w) z := fun q => by rw [ev, if_neg q, r1]
          refine E_iload d_TP_decimals_24 rfl ?_
          refine E_iload_n d_TP_decimals_26 rfl ?_
          first | (with_reducible refine E_isN2 ?_; refine E_icmp_gt 88 d_TP_decimals_27 rfl (nb_lt (by omega) (by omega) fun h27 => ?_) (nb_nlt (by omega) (by omega) fun h27 => ?_)) | refine E_icmp_gt 88 d_TP_decimals_27 rfl (fun h27 => ?_) (fun h27 => ?_)
          · exfalso; omega
          first | refine E_aload_n d_TP_decimals_30 rfl ?_ | refine E_aload_nN d_TP_decimals_30 rfl ?_
          refine E_getR d_TP_decimals_31 gf_TP_75 (by first | exact hG.s (by decide) rfl) (by first | exact hR.o rfl | exact hR.c cr1 rfl | exact hR.m0 ad2) ?_
          refine E_iload d_TP_decimals_34 rfl ?_
          refine E_S2 (sp_TP_at h233 (by decide) (by omega) hv) d_TP_decimals_36 ml_TP_169 cb_TP_at cs_TP_at ⟨by decide, by decide⟩ rfl (Nat.le_of_ble_eq_true rfl) (Nat.le_of_ble_eq_true rfl) (kI fun r1 M1 hc => ?_)
          obtain ⟨rfl, rfl⟩ := hc
          refine E_istore_6 d_TP_decimals_39 rfl ?_
          refine E_iload d_TP_decimals_41 rfl ?_
          refine E_iconst (v := (-1)) d_TP_decimals_43 rfl ?_
          first | (with_reducible refine E_isN2 ?_; refine E_icmp_eq 62 d_TP_decimals_44 rfl (nb_eq (by omega) (by omega) fun h44 => ?_) (nb_ne fun h44 => ?_)) | refine E_icmp_eq 62 d_TP_decimals_44 rfl (fun h44 => ?_) (fun h44 => ?_)
          · exfalso; exact nI_nm1 (by omega) h44
          refine E_iload_n d_TP_decimals_47 rfl ?_
          first | (with_reducible refine E_isP ?_; refine E_if_eq 59 d_TP_decimals_48 rfl (pb_0 fun h48 => ?_) (pb_1 fun h48 => ?_)) | (with_reducible refine E_isN1 ?_; refine E_if_eq 59 d_TP_decimals_48 rfl (nz_eq (by omega) fun h48 => ?_) (nz_ne fun h48 => ?_)) | refine E_if_eq 59 d_TP_decimals_48 rfl (fun h48 => ?_) (fun h48 => ?_)
          · refine E_iload d_TP_decimals_59 rfl ?_
            refine E_retI d_TP_decimals_61 rfl ?_
            first | exact And.intro (a1 h48) hX | exact And.intro (a2 h48) hX
          · refine E_iload d_TP_decimals_51 rfl ?_
            refine E_iload d_TP_decimals_53 rfl ?_
            first | (with_reducible refine E_isN2 ?_; refine E_isubN d_TP_decimals_55 (by omega) ?_) | refine E_isub d_TP_decimals_55 ?_
            refine E_goto 61 d_TP_decimals_56 rfl ?_
            refine E_retI d_TP_decimals_61 rfl ?_
            first | exact And.intro (a1 h48) hX | exact And.intro (a2 h48) hX
        · have hne : ∀ k, k < i → lbN w k a ≠ lbN w i a := fun k hk q => hex ⟨k, hk, q⟩
          have hv := h1 _ hli hne
          refine E_iload d_TP_decimals_24 rfl ?_
          refine E_iload_n d_TP_decimals_26 rfl ?_
          first | (with_reducible refine E_isN2 ?_; refine E_icmp_gt 88 d_TP_decimals_27 rfl (nb_lt (by omega) (by omega) fun h27 => ?_) (nb_nlt (by omega) (by omega) fun h27 => ?_)) | refine E_icmp_gt 88 d_TP_decimals_27 rfl (fun h27 => ?_) (fun h27 => ?_)
          · exfalso; omega
          first | refine E_aload_n d_TP_decimals_30 rfl ?_ | refine E_aload_nN d_TP_decimals_30 rfl ?_
          refine E_getR d_TP_decimals_31 gf_TP_75 (by first | exact hG.s (by decide) rfl) (by first | exact hR.o rfl | exact hR.c cr1 rfl | exact hR.m0 ad2) ?_
          refine E_iload d_TP_decimals_34 rfl ?_
          refine E_S2 (sp_TP_at h233 (by decide) (by omega) hv) d_TP_decimals_36 ml_TP_169 cb_TP_at cs_TP_at ⟨by decide, by decide⟩ rfl (Nat.le_of_ble_eq_true rfl) (Nat.le_of_ble_eq_true rfl) (kI fun r1 M1 hc => ?_)
          obtain ⟨rfl, rfl⟩ := hc
          refine E_istore_6 d_TP_decimals_39 rfl ?_
          refine E_iload d_TP_decimals_41 rfl ?_
          refine E_iconst (v := (-1)) d_TP_decimals_43 rfl ?_
          first | (with_reducible refine E_isN2 ?_; refine E_icmp_eq 62 d_TP_decimals_44 rfl (nb_eq (by omega) (by omega) fun h44 => ?_) (nb_ne fun h44 => ?_)) | refine E_icmp_eq 62 d_TP_decimals_44 rfl (fun h44 => ?_) (fun h44 => ?_)
          rotate_left
          · exfalso; exact h44 rfl
          first | refine E_aload_n d_TP_decimals_62 rfl ?_ | refine E_aload_nN d_TP_decimals_62 rfl ?_
          refine E_getR d_TP_decimals_63 gf_TP_75 (by first | exact hG.s (by decide) rfl) (by first | exact hR.o rfl | exact hR.c cr1 rfl | exact hR.m0 ad2) ?_
          refine E_iload d_TP_decimals_66 rfl ?_
          refine E_iload d_TP_decimals_68 rfl ?_
          refine E_S3 (sp_TP_put h233 (by decide) (by omega)) d_TP_decimals_70 ml_TP_351 cb_TP_put cs_TP_put ⟨by decide, by decide⟩ rfl (Nat.le_of_ble_eq_true rfl) (Nat.le_of_ble_eq_true rfl) (kV fun M1 hc => ?_)
          subst hc
          refine E_iload d_TP_decimals_73 rfl ?_
          refine E_bipush (v := nI 10) d_TP_decimals_75 (by decide) ?_
          first | (with_reducible refine E_isN2 ?_; refine E_imulN d_TP_decimals_77 ?_) | refine E_imul d_TP_decimals_77 ?_
          refine E_iload_n d_TP_decimals_78 rfl ?_
          first | (with_reducible refine E_isN2 ?_; refine E_iremN d_TP_decimals_79 (by omega) (by omega) (by omega) ?_) | refine E_irem d_TP_decimals_79 (by decide) ?_
          refine E_istore_4 d_TP_decimals_80 rfl ?_
          first | (with_reducible refine E_isL5 ?_; refine E_iincN5 (m := 1) d_TP_decimals_82 rfl rfl ?_) | refine E_iinc_5 d_TP_decimals_82 rfl rfl ?_
          refine E_goto 24 d_TP_decimals_85 rfl ?_
          refine ih (i + 1) _ _ (by omega) (hR.sc (Sc.rf.wI (P := CQ) (sq _ rfl))) (hX.wI (sq _ rfl)) (fun k1 k2 q1 q2 => ?_) (fun r hr q => ?_) (fun k hk => ?_)
          · by_cases q3 : k2 = i
            · rw [q3]; exact hne k1 (by omega)
            · exact hd k1 k2 q1 (by omega)
          · rw [mI_wa, if_neg (fun q2 => q i (by omega) q2.symm)]; exact h1 r hr (fun k hk => q k (by omega))
          · rw [mI_wa]
            by_cases q3 : k = i
            · rw [q3, if_pos rfl]
            · rw [if_neg (hne k (by omega))]; exact h2 k (by omega)
    refine E_iload_n d_TP_decimals_0 rfl ?_
    refine E_iload_n d_TP_decimals_1 rfl ?_
    refine E_S2 (sp_TP_isPart _ _) d_TP_decimals_2 ml_TP_342 cb_TP_isPart cs_TP_isPart ⟨by decide, by decide⟩ rfl (Nat.le_of_ble_eq_true rfl) (Nat.le_of_ble_eq_true rfl) (kI fun r1 M1 hc => ?_)
    obtain ⟨rfl, rfl⟩ := hc
    first | (with_reducible refine E_isP ?_; refine E_if_ne 10 d_TP_decimals_5 rfl (pb_1 fun h5 => ?_) (pb_0 fun h5 => ?_)) | (with_reducible refine E_isN1 ?_; refine E_if_ne 10 d_TP_decimals_5 rfl (nz_ne fun h5 => ?_) (nz_eq (by omega) fun h5 => ?_)) | refine E_if_ne 10 d_TP_decimals_5 rfl (fun h5 => ?_) (fun h5 => ?_)
    rotate_left
    · exfalso; exact h5 hp
    first | refine E_aload_n d_TP_decimals_10 rfl ?_ | refine E_aload_nN d_TP_decimals_10 rfl ?_
    refine E_getR d_TP_decimals_11 gf_TP_75 (by first | exact hG.s (by decide) rfl) (by first | exact hR.o rfl | exact hR.c cr1 rfl | exact hR.m0 ad2) ?_
    refine E_iconst (v := (-1)) d_TP_decimals_14 rfl ?_
    refine E_S2 (sp_JA_fillI h233 (by decide)) d_TP_decimals_15 ml_TP_345 cb_JA_fill_AII cs_JA_fill_AII ⟨by decide, by decide⟩ rfl (Nat.le_of_ble_eq_true rfl) (Nat.le_of_ble_eq_true rfl) (kV fun M1 hc => ?_)
    obtain ⟨hS1, hf⟩ := hc
    refine E_iload_n d_TP_decimals_18 rfl ?_
    refine E_istore_4 d_TP_decimals_19 rfl ?_
    refine E_iconst (v := nI 0) d_TP_decimals_21 rfl ?_
    refine E_istore_5 d_TP_decimals_22 rfl ?_
    exact L (w + 1) 0 _ none (Nat.zero_add _) (hR.sc hS1) (hS1.wk sq) (fun k1 k2 _ q => absurd q (Nat.not_lt_zero _)) (fun r hr _ => hf r (by omega)) (fun k q => absurd q (Nat.not_lt_zero _))
  · have e : ans_decimals x y z = -1 := by rw [ans_decimals, if_neg hp]
    refine E_iload_n d_TP_decimals_0 rfl ?_
    refine E_iload_n d_TP_decimals_1 rfl ?_
    refine E_S2 (sp_TP_isPart _ _) d_TP_decimals_2 ml_TP_342 cb_TP_isPart cs_TP_isPart ⟨by decide, by decide⟩ rfl (Nat.le_of_ble_eq_true rfl) (Nat.le_of_ble_eq_true rfl) (kI fun r1 M1 hc => ?_)
    obtain ⟨rfl, rfl⟩ := hc
    first | (with_reducible refine E_isP ?_; refine E_if_ne 10 d_TP_decimals_5 rfl (pb_1 fun h5 => ?_) (pb_0 fun h5 => ?_)) | (with_reducible refine E_isN1 ?_; refine E_if_ne 10 d_TP_decimals_5 rfl (nz_ne fun h5 => ?_) (nz_eq (by omega) fun h5 => ?_)) | refine E_if_ne 10 d_TP_decimals_5 rfl (fun h5 => ?_) (fun h5 => ?_)
    · exfalso; exact hp h5
    refine E_iconst (v := (-1)) d_TP_decimals_8 rfl ?_
    refine E_retI d_TP_decimals_9 rfl ?_
    exact ⟨e.symm, Sc.rf⟩
end TPe
