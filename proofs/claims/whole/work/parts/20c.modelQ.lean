theorem lN_i32 (n : Nat) : (lN n).toInt32 = nI n := by rw [lN_iL, nI_iI]; exact Int64.toInt32_ofInt
theorem iL_i32 (z : Int) : (iL z).toInt32 = iI z := Int64.toInt32_ofInt
theorem oneBy_5 (m : Mo) (v : Int) : oneBy m 5 v = -v := if_pos rfl
theorem oneBy_out {m : Mo} {o : Nat} {v : Int} (h : o ≠ 5) (q : v < 0 ∨ (m.people : Int) ≤ v) : oneBy m o v = 0 := by rw [oneBy, if_neg h, if_pos q]
theorem oneBy_2 {m : Mo} {n : Nat} (h : n < m.people) : oneBy m 2 (n : Int) = (m.lean n : Int) := by rw [oneBy, if_neg (by decide), if_neg (by omega), if_pos rfl]; rfl
theorem oneBy_4 {m : Mo} {n o : Nat} (h : n < m.people) (h5 : o ≠ 5) (h2 : o ≠ 2) : oneBy m o (n : Int) = ((if m.answers.testBit n = true then 1 else 0 : Nat) : Int) := by
  rw [oneBy, if_neg h5, if_neg (by omega), if_neg h2]
  show (if m.answers.testBit n = true then (1 : Int) else 0) = _
  split <;> rfl
theorem sp_TM_ofOne {c : Cr} {M : Mem} {o : Nat} {v : Int} (hM : HM c M) (ho : o < 100) (hv : zB v) : E 0 0 0 Y_TM_ofOne 0 [some (.ref 0), some (.int (nI o)), some (.long (iL v)), none] [] GM M (QL GM fun r M' => r = iL (oneBy c.now o v) ∧ M' = M) := by
  have hR := hM.R
  have hA := hM.A
  have hp8 := hM.w.p8
  have hz0 : zB 0 := ⟨by decide, by decide⟩
  have hzp : zB (c.now.people : Int) := ⟨by omega, by omega⟩
  by_cases h5 : o = 5
  · refine E_iload_n d_TM_ofOne_0 rfl ?_
    refine E_iconst (v := nI 5) d_TM_ofOne_1 rfl ?_
    first | (with_reducible refine E_isN2 ?_; refine E_icmp_ne 8 d_TM_ofOne_2 rfl (nb_ne fun h2 => ?_) (nb_eq (by omega) (by omega) fun h2 => ?_)) | refine E_icmp_ne 8 d_TM_ofOne_2 rfl (fun h2 => ?_) (fun h2 => ?_)
    · exfalso; exact h2 h5
    refine E_lload_n d_TM_ofOne_5 rfl ?_
    refine E_lneg d_TM_ofOne_6 ?_
    refine E_retL d_TM_ofOne_7 rfl ?_
    exact ⟨by rw [h5, oneBy_5, iL_neg], rfl⟩
  · by_cases hn : v < 0
    · have hl : lg_cmp (iL v) (lN 0) < 0 := by rw [lN_iL]; exact (lc_lt hv hz0).mpr hn
      refine E_iload_n d_TM_ofOne_0 rfl ?_
      refine E_iconst (v := nI 5) d_TM_ofOne_1 rfl ?_
      first | (with_reducible refine E_isN2 ?_; refine E_icmp_ne 8 d_TM_ofOne_2 rfl (nb_ne fun h2 => ?_) (nb_eq (by omega) (by omega) fun h2 => ?_)) | refine E_icmp_ne 8 d_TM_ofOne_2 rfl (fun h2 => ?_) (fun h2 => ?_)
      rotate_left
      · exfalso; exact h5 h2
      refine E_lload_n d_TM_ofOne_8 rfl ?_
      refine E_lconst (v := lN 0) d_TM_ofOne_9 rfl ?_
      refine E_lcmp d_TM_ofOne_10 ?_
      first | (with_reducible refine E_isN1 ?_; refine E_if_lt 26 d_TM_ofOne_11 rfl (nz_lt (by omega) fun h11 => ?_) (nz_nlt (by omega) fun h11 => ?_)) | refine E_if_lt 26 d_TM_ofOne_11 rfl (fun h11 => ?_) (fun h11 => ?_)
      rotate_left
      · exfalso; exact h11 hl
      refine E_lconst (v := lN 0) d_TM_ofOne_26 rfl ?_
      refine E_retL d_TM_ofOne_27 rfl ?_
      exact ⟨by rw [oneBy_out h5 (Or.inl hn)]; exact lN_iL 0, rfl⟩
    · obtain ⟨n, rfl⟩ : ∃ n : Nat, v = (n : Int) := ⟨v.toNat, by omega⟩
      have hl : ¬ lg_cmp (iL (n : Int)) (lN 0) < 0 := by rw [lN_iL]; exact fun q => hn ((lc_lt hv hz0).mp q)
      have hp : lg_cmp (iL (n : Int)) (lN c.now.people) < 0 ↔ n < c.now.people := by rw [lN_iL, lc_lt hv hzp]; omega
      have hans := hM.w.ans8
      by_cases hlt : n < c.now.people
      · have hl9 := hM.w.lean9 n
        have e1 : (iL (n : Int)).toInt32 = nI n := by rw [← lN_iL]; exact lN_i32 n
        refine E_iload_n d_TM_ofOne_0 rfl ?_
        refine E_iconst (v := nI 5) d_TM_ofOne_1 rfl ?_
        first | (with_reducible refine E_isN2 ?_; refine E_icmp_ne 8 d_TM_ofOne_2 rfl (nb_ne fun h2 => ?_) (nb_eq (by omega) (by omega) fun h2 => ?_)) | refine E_icmp_ne 8 d_TM_ofOne_2 rfl (fun h2 => ?_) (fun h2 => ?_)
        rotate_left
        · exfalso; exact h5 h2
        refine E_lload_n d_TM_ofOne_8 rfl ?_
        refine E_lconst (v := lN 0) d_TM_ofOne_9 rfl ?_
        refine E_lcmp d_TM_ofOne_10 ?_
        first | (with_reducible refine E_isN1 ?_; refine E_if_lt 26 d_TM_ofOne_11 rfl (nz_lt (by omega) fun h11 => ?_) (nz_nlt (by omega) fun h11 => ?_)) | refine E_if_lt 26 d_TM_ofOne_11 rfl (fun h11 => ?_) (fun h11 => ?_)
        · exfalso; exact hl h11
        refine E_lload_n d_TM_ofOne_14 rfl ?_
        first | refine E_aload_n d_TM_ofOne_15 rfl ?_ | refine E_aload_nN d_TM_ofOne_15 rfl ?_
        refine E_getR (q := 1) d_TM_ofOne_16 gf_TM_7 (by exact ⟨by decide, rfl⟩) (by exact hR _ rfl) ?_
        refine E_iconst (v := nI 0) d_TM_ofOne_19 rfl ?_
        refine E_iald d_TM_ofOne_20 (by exact ⟨by decide, rfl⟩) (by exact ⟨by with_reducible rfl, by omega, by decide⟩) (by first | exact hA.people | exact hA.figure | exact hA.answers | exact hA.round | exact hA.lean (by omega) | exact hA.sort (by omega) | exact hA.hears (by omega) | rfl) ?_
        first | (with_reducible refine E_isN1 ?_; refine E_i2lN d_TM_ofOne_21 (by omega) ?_) | refine E_i2l d_TM_ofOne_21 ?_
        refine E_lcmp d_TM_ofOne_22 ?_
        first | (with_reducible refine E_isN1 ?_; refine E_if_lt 28 d_TM_ofOne_23 rfl (nz_lt (by omega) fun h23 => ?_) (nz_nlt (by omega) fun h23 => ?_)) | refine E_if_lt 28 d_TM_ofOne_23 rfl (fun h23 => ?_) (fun h23 => ?_)
        rotate_left
        · exfalso; exact h23 (hp.mpr hlt)
        refine E_iload_n d_TM_ofOne_28 rfl ?_
        refine E_iconst (v := nI 2) d_TM_ofOne_29 rfl ?_
        first | (with_reducible refine E_isN2 ?_; refine E_icmp_ne 47 d_TM_ofOne_30 rfl (nb_ne fun h30 => ?_) (nb_eq (by omega) (by omega) fun h30 => ?_)) | refine E_icmp_ne 47 d_TM_ofOne_30 rfl (fun h30 => ?_) (fun h30 => ?_)
        · first | refine E_aload_n d_TM_ofOne_47 rfl ?_ | refine E_aload_nN d_TM_ofOne_47 rfl ?_
          refine E_getR (q := 1) d_TM_ofOne_48 gf_TM_7 (by exact ⟨by decide, rfl⟩) (by exact hR _ rfl) ?_
          refine E_bipush (v := nI 9) d_TM_ofOne_51 (by decide) ?_
          refine E_iald d_TM_ofOne_53 (by exact ⟨by decide, rfl⟩) (by exact ⟨by with_reducible rfl, by omega, by decide⟩) (by first | exact hA.people | exact hA.figure | exact hA.answers | exact hA.round | exact hA.lean (by omega) | exact hA.sort (by omega) | exact hA.hears (by omega) | rfl) ?_
          refine E_lload_n d_TM_ofOne_54 rfl ?_
          refine E_l2i d_TM_ofOne_55 ?_
          rw [e1]
          first | (with_reducible refine E_isN2 ?_; refine E_ishrN d_TM_ofOne_56 (by omega) (by omega) ?_) | refine E_ishr d_TM_ofOne_56 ?_
          refine E_iconst (v := nI 1) d_TM_ofOne_57 rfl ?_
          first | (with_reducible refine E_isN2 ?_; refine E_iandN d_TM_ofOne_58 ?_) | refine E_iand d_TM_ofOne_58 ?_
          have hb : c.now.answers / 2 ^ n &&& 1 ≤ 1 := Nat.and_le_right
          first | (with_reducible refine E_isN1 ?_; refine E_i2lN d_TM_ofOne_59 (by omega) ?_) | refine E_i2l d_TM_ofOne_59 ?_
          refine E_retL d_TM_ofOne_60 rfl ?_
          first | exact ⟨by rw [h30, oneBy_2 hlt]; exact lN_iL _, rfl⟩ | exact ⟨by rw [oneBy_4 hlt h5 h30, tb_and]; exact lN_iL _, rfl⟩
        · first | refine E_aload_n d_TM_ofOne_33 rfl ?_ | refine E_aload_nN d_TM_ofOne_33 rfl ?_
          refine E_getR (q := 1) d_TM_ofOne_34 gf_TM_7 (by exact ⟨by decide, rfl⟩) (by exact hR _ rfl) ?_
          refine E_bipush (v := nI 10) d_TM_ofOne_37 (by decide) ?_
          refine E_lload_n d_TM_ofOne_39 rfl ?_
          refine E_l2i d_TM_ofOne_40 ?_
          rw [e1]
          first | (with_reducible refine E_isN2 ?_; refine E_iaddN d_TM_ofOne_41 ?_) | refine E_iadd d_TM_ofOne_41 ?_
          refine E_iald d_TM_ofOne_42 (by exact ⟨by decide, rfl⟩) (by exact ⟨by with_reducible rfl, by omega, by decide⟩) (by first | exact hA.people | exact hA.figure | exact hA.answers | exact hA.round | exact hA.lean (by omega) | exact hA.sort (by omega) | exact hA.hears (by omega) | rfl) ?_
          first | (with_reducible refine E_isN1 ?_; refine E_i2lN d_TM_ofOne_43 (by omega) ?_) | refine E_i2l d_TM_ofOne_43 ?_
          refine E_goto 60 d_TM_ofOne_44 rfl ?_
          refine E_retL d_TM_ofOne_60 rfl ?_
          first | exact ⟨by rw [h30, oneBy_2 hlt]; exact lN_iL _, rfl⟩ | exact ⟨by rw [oneBy_4 hlt h5 h30, tb_and]; exact lN_iL _, rfl⟩
      · refine E_iload_n d_TM_ofOne_0 rfl ?_
        refine E_iconst (v := nI 5) d_TM_ofOne_1 rfl ?_
        first | (with_reducible refine E_isN2 ?_; refine E_icmp_ne 8 d_TM_ofOne_2 rfl (nb_ne fun h2 => ?_) (nb_eq (by omega) (by omega) fun h2 => ?_)) | refine E_icmp_ne 8 d_TM_ofOne_2 rfl (fun h2 => ?_) (fun h2 => ?_)
        rotate_left
        · exfalso; exact h5 h2
        refine E_lload_n d_TM_ofOne_8 rfl ?_
        refine E_lconst (v := lN 0) d_TM_ofOne_9 rfl ?_
        refine E_lcmp d_TM_ofOne_10 ?_
        first | (with_reducible refine E_isN1 ?_; refine E_if_lt 26 d_TM_ofOne_11 rfl (nz_lt (by omega) fun h11 => ?_) (nz_nlt (by omega) fun h11 => ?_)) | refine E_if_lt 26 d_TM_ofOne_11 rfl (fun h11 => ?_) (fun h11 => ?_)
        · exfalso; exact hl h11
        refine E_lload_n d_TM_ofOne_14 rfl ?_
        first | refine E_aload_n d_TM_ofOne_15 rfl ?_ | refine E_aload_nN d_TM_ofOne_15 rfl ?_
        refine E_getR (q := 1) d_TM_ofOne_16 gf_TM_7 (by exact ⟨by decide, rfl⟩) (by exact hR _ rfl) ?_
        refine E_iconst (v := nI 0) d_TM_ofOne_19 rfl ?_
        refine E_iald d_TM_ofOne_20 (by exact ⟨by decide, rfl⟩) (by exact ⟨by with_reducible rfl, by omega, by decide⟩) (by first | exact hA.people | exact hA.figure | exact hA.answers | exact hA.round | exact hA.lean (by omega) | exact hA.sort (by omega) | exact hA.hears (by omega) | rfl) ?_
        first | (with_reducible refine E_isN1 ?_; refine E_i2lN d_TM_ofOne_21 (by omega) ?_) | refine E_i2l d_TM_ofOne_21 ?_
        refine E_lcmp d_TM_ofOne_22 ?_
        first | (with_reducible refine E_isN1 ?_; refine E_if_lt 28 d_TM_ofOne_23 rfl (nz_lt (by omega) fun h23 => ?_) (nz_nlt (by omega) fun h23 => ?_)) | refine E_if_lt 28 d_TM_ofOne_23 rfl (fun h23 => ?_) (fun h23 => ?_)
        · exfalso; exact hlt (hp.mp h23)
        refine E_lconst (v := lN 0) d_TM_ofOne_26 rfl ?_
        refine E_retL d_TM_ofOne_27 rfl ?_
        exact ⟨by rw [oneBy_out h5 (Or.inr (by omega))]; exact lN_iL 0, rfl⟩
theorem sp_TM_isYesBySort {c : Cr} {M : Mem} {p f : Nat} (hM : HM c M) (hp : p < c.now.people) (hf : f ≤ 8) : E 1 0 0 Y_TM_isYesBySort 0 [some (.ref 0), some (.int (nI p)), some (.int (nI f)), none] [] GM M (QI GM fun r M' => r = pI (bySort c c.now p f = true) ∧ M' = M) := by
  have hR := hM.R
  have hA := hM.A
  have hp8 := hM.w.p8
  have hl9 := hM.w.lean9 p
  have hs3 := hM.w.sort3 p
  have k1 : ∀ {P : Prop} [Decidable P], bySort c c.now p f = decide P → P → nI 1 = pI (bySort c c.now p f = true) := fun e h => (pI_t (by rw [e]; exact decide_eq_true h)).symm
  have k0 : ∀ {P : Prop} [Decidable P], bySort c c.now p f = decide P → ¬ P → nI 0 = pI (bySort c c.now p f = true) := fun e h => (pI_f (by rw [e]; intro q; exact h (of_decide_eq_true q))).symm
  have hs4 : c.sort p = 0 ∨ c.sort p = 1 ∨ c.sort p = 2 ∨ c.sort p = 3 := by omega
  have hso := hA.sort hp
  rcases hs4 with h | h | h | h
  · have e : bySort c c.now p f = decide (4 < c.now.lean p) := by rw [bySort, h]; rfl
    rw [h] at hso
    first | refine E_aload_n d_TM_isYesBySort_0 rfl ?_ | refine E_aload_nN d_TM_isYesBySort_0 rfl ?_
    refine E_getR (q := 1) d_TM_isYesBySort_1 gf_TM_7 (by exact ⟨by decide, rfl⟩) (by exact hR _ rfl) ?_
    refine E_bipush (v := nI 10) d_TM_isYesBySort_4 (by decide) ?_
    refine E_iload_n d_TM_isYesBySort_6 rfl ?_
    first | (with_reducible refine E_isN2 ?_; refine E_iaddN d_TM_isYesBySort_7 ?_) | refine E_iadd d_TM_isYesBySort_7 ?_
    refine E_iald d_TM_isYesBySort_8 (by exact ⟨by decide, rfl⟩) (by exact ⟨by with_reducible rfl, by omega, by decide⟩) (by first | exact hA.people | exact hA.figure | exact hA.answers | exact hA.round | exact hA.lean (by omega) | exact hA.sort (by omega) | exact hA.hears (by omega) | rfl) ?_
    refine E_istore_3 d_TM_isYesBySort_9 rfl ?_
    first | refine E_aload_n d_TM_isYesBySort_10 rfl ?_ | refine E_aload_nN d_TM_isYesBySort_10 rfl ?_
    refine E_getR (q := 1) d_TM_isYesBySort_11 gf_TM_7 (by exact ⟨by decide, rfl⟩) (by exact hR _ rfl) ?_
    refine E_bipush (v := nI 18) d_TM_isYesBySort_14 (by decide) ?_
    refine E_iload_n d_TM_isYesBySort_16 rfl ?_
    first | (with_reducible refine E_isN2 ?_; refine E_iaddN d_TM_isYesBySort_17 ?_) | refine E_iadd d_TM_isYesBySort_17 ?_
    refine E_iald d_TM_isYesBySort_18 (by exact ⟨by decide, rfl⟩) (by exact ⟨by with_reducible rfl, by omega, by decide⟩) (by exact hso) ?_
    refine E_tableIn 44 d_TM_isYesBySort_19 (by decide) (by decide) (by first | rfl | decide) rfl ?_
    refine E_iload_n d_TM_isYesBySort_44 rfl ?_
    refine E_iconst (v := nI 4) d_TM_isYesBySort_45 rfl ?_
    first | (with_reducible refine E_isN2 ?_; refine E_icmp_le 53 d_TM_isYesBySort_46 rfl (nb_le (by omega) (by omega) fun h46 => ?_) (nb_nle (by omega) (by omega) fun h46 => ?_)) | refine E_icmp_le 53 d_TM_isYesBySort_46 rfl (fun h46 => ?_) (fun h46 => ?_)
    · refine E_iconst (v := nI 0) d_TM_isYesBySort_53 rfl ?_
      refine E_retZ d_TM_isYesBySort_54 rfl (by first | exact pI_01 _ | decide) ?_
      first | exact ⟨k1 e h46, rfl⟩ | exact ⟨k0 e (Nat.not_lt.mpr h46), rfl⟩
    · refine E_iconst (v := nI 1) d_TM_isYesBySort_49 rfl ?_
      refine E_goto 54 d_TM_isYesBySort_50 rfl ?_
      refine E_retZ d_TM_isYesBySort_54 rfl (by first | exact pI_01 _ | decide) ?_
      first | exact ⟨k1 e h46, rfl⟩ | exact ⟨k0 e (Nat.not_lt.mpr h46), rfl⟩
  · have e : bySort c c.now p f = decide (c.now.people ≤ 2 * f) := by rw [bySort, h]; rfl
    rw [h] at hso
    first | refine E_aload_n d_TM_isYesBySort_0 rfl ?_ | refine E_aload_nN d_TM_isYesBySort_0 rfl ?_
    refine E_getR (q := 1) d_TM_isYesBySort_1 gf_TM_7 (by exact ⟨by decide, rfl⟩) (by exact hR _ rfl) ?_
    refine E_bipush (v := nI 10) d_TM_isYesBySort_4 (by decide) ?_
    refine E_iload_n d_TM_isYesBySort_6 rfl ?_
    first | (with_reducible refine E_isN2 ?_; refine E_iaddN d_TM_isYesBySort_7 ?_) | refine E_iadd d_TM_isYesBySort_7 ?_
    refine E_iald d_TM_isYesBySort_8 (by exact ⟨by decide, rfl⟩) (by exact ⟨by with_reducible rfl, by omega, by decide⟩) (by first | exact hA.people | exact hA.figure | exact hA.answers | exact hA.round | exact hA.lean (by omega) | exact hA.sort (by omega) | exact hA.hears (by omega) | rfl) ?_
    refine E_istore_3 d_TM_isYesBySort_9 rfl ?_
    first | refine E_aload_n d_TM_isYesBySort_10 rfl ?_ | refine E_aload_nN d_TM_isYesBySort_10 rfl ?_
    refine E_getR (q := 1) d_TM_isYesBySort_11 gf_TM_7 (by exact ⟨by decide, rfl⟩) (by exact hR _ rfl) ?_
    refine E_bipush (v := nI 18) d_TM_isYesBySort_14 (by decide) ?_
    refine E_iload_n d_TM_isYesBySort_16 rfl ?_
    first | (with_reducible refine E_isN2 ?_; refine E_iaddN d_TM_isYesBySort_17 ?_) | refine E_iadd d_TM_isYesBySort_17 ?_
    refine E_iald d_TM_isYesBySort_18 (by exact ⟨by decide, rfl⟩) (by exact ⟨by with_reducible rfl, by omega, by decide⟩) (by exact hso) ?_
    refine E_tableIn 55 d_TM_isYesBySort_19 (by decide) (by decide) (by first | rfl | decide) rfl ?_
    refine E_iconst (v := nI 2) d_TM_isYesBySort_55 rfl ?_
    refine E_iload_n d_TM_isYesBySort_56 rfl ?_
    first | (with_reducible refine E_isN2 ?_; refine E_imulN d_TM_isYesBySort_57 ?_) | refine E_imul d_TM_isYesBySort_57 ?_
    first | refine E_aload_n d_TM_isYesBySort_58 rfl ?_ | refine E_aload_nN d_TM_isYesBySort_58 rfl ?_
    refine E_getR (q := 1) d_TM_isYesBySort_59 gf_TM_7 (by exact ⟨by decide, rfl⟩) (by exact hR _ rfl) ?_
    refine E_iconst (v := nI 0) d_TM_isYesBySort_62 rfl ?_
    refine E_iald d_TM_isYesBySort_63 (by exact ⟨by decide, rfl⟩) (by exact ⟨by with_reducible rfl, by omega, by decide⟩) (by first | exact hA.people | exact hA.figure | exact hA.answers | exact hA.round | exact hA.lean (by omega) | exact hA.sort (by omega) | exact hA.hears (by omega) | rfl) ?_
    first | (with_reducible refine E_isN2 ?_; refine E_icmp_lt 71 d_TM_isYesBySort_64 rfl (nb_lt (by omega) (by omega) fun h64 => ?_) (nb_nlt (by omega) (by omega) fun h64 => ?_)) | refine E_icmp_lt 71 d_TM_isYesBySort_64 rfl (fun h64 => ?_) (fun h64 => ?_)
    · refine E_iconst (v := nI 0) d_TM_isYesBySort_71 rfl ?_
      refine E_retZ d_TM_isYesBySort_72 rfl (by first | exact pI_01 _ | decide) ?_
      first | exact ⟨k1 e h64, rfl⟩ | exact ⟨k0 e (Nat.not_le.mpr h64), rfl⟩
    · refine E_iconst (v := nI 1) d_TM_isYesBySort_67 rfl ?_
      refine E_goto 72 d_TM_isYesBySort_68 rfl ?_
      refine E_retZ d_TM_isYesBySort_72 rfl (by first | exact pI_01 _ | decide) ?_
      first | exact ⟨k1 e h64, rfl⟩ | exact ⟨k0 e (Nat.not_le.mpr h64), rfl⟩
  · have e : bySort c c.now p f = decide (2 * f < c.now.people) := by rw [bySort, h]; rfl
    rw [h] at hso
    first | refine E_aload_n d_TM_isYesBySort_0 rfl ?_ | refine E_aload_nN d_TM_isYesBySort_0 rfl ?_
    refine E_getR (q := 1) d_TM_isYesBySort_1 gf_TM_7 (by exact ⟨by decide, rfl⟩) (by exact hR _ rfl) ?_
    refine E_bipush (v := nI 10) d_TM_isYesBySort_4 (by decide) ?_
    refine E_iload_n d_TM_isYesBySort_6 rfl ?_
    first | (with_reducible refine E_isN2 ?_; refine E_iaddN d_TM_isYesBySort_7 ?_) | refine E_iadd d_TM_isYesBySort_7 ?_
    refine E_iald d_TM_isYesBySort_8 (by exact ⟨by decide, rfl⟩) (by exact ⟨by with_reducible rfl, by omega, by decide⟩) (by first | exact hA.people | exact hA.figure | exact hA.answers | exact hA.round | exact hA.lean (by omega) | exact hA.sort (by omega) | exact hA.hears (by omega) | rfl) ?_
    refine E_istore_3 d_TM_isYesBySort_9 rfl ?_
    first | refine E_aload_n d_TM_isYesBySort_10 rfl ?_ | refine E_aload_nN d_TM_isYesBySort_10 rfl ?_
    refine E_getR (q := 1) d_TM_isYesBySort_11 gf_TM_7 (by exact ⟨by decide, rfl⟩) (by exact hR _ rfl) ?_
    refine E_bipush (v := nI 18) d_TM_isYesBySort_14 (by decide) ?_
    refine E_iload_n d_TM_isYesBySort_16 rfl ?_
    first | (with_reducible refine E_isN2 ?_; refine E_iaddN d_TM_isYesBySort_17 ?_) | refine E_iadd d_TM_isYesBySort_17 ?_
    refine E_iald d_TM_isYesBySort_18 (by exact ⟨by decide, rfl⟩) (by exact ⟨by with_reducible rfl, by omega, by decide⟩) (by exact hso) ?_
    refine E_tableIn 73 d_TM_isYesBySort_19 (by decide) (by decide) (by first | rfl | decide) rfl ?_
    refine E_iconst (v := nI 2) d_TM_isYesBySort_73 rfl ?_
    refine E_iload_n d_TM_isYesBySort_74 rfl ?_
    first | (with_reducible refine E_isN2 ?_; refine E_imulN d_TM_isYesBySort_75 ?_) | refine E_imul d_TM_isYesBySort_75 ?_
    first | refine E_aload_n d_TM_isYesBySort_76 rfl ?_ | refine E_aload_nN d_TM_isYesBySort_76 rfl ?_
    refine E_getR (q := 1) d_TM_isYesBySort_77 gf_TM_7 (by exact ⟨by decide, rfl⟩) (by exact hR _ rfl) ?_
    refine E_iconst (v := nI 0) d_TM_isYesBySort_80 rfl ?_
    refine E_iald d_TM_isYesBySort_81 (by exact ⟨by decide, rfl⟩) (by exact ⟨by with_reducible rfl, by omega, by decide⟩) (by first | exact hA.people | exact hA.figure | exact hA.answers | exact hA.round | exact hA.lean (by omega) | exact hA.sort (by omega) | exact hA.hears (by omega) | rfl) ?_
    first | (with_reducible refine E_isN2 ?_; refine E_icmp_ge 89 d_TM_isYesBySort_82 rfl (nb_le (by omega) (by omega) fun h82 => ?_) (nb_nle (by omega) (by omega) fun h82 => ?_)) | refine E_icmp_ge 89 d_TM_isYesBySort_82 rfl (fun h82 => ?_) (fun h82 => ?_)
    · refine E_iconst (v := nI 0) d_TM_isYesBySort_89 rfl ?_
      refine E_retZ d_TM_isYesBySort_90 rfl (by first | exact pI_01 _ | decide) ?_
      first | exact ⟨k1 e h82, rfl⟩ | exact ⟨k0 e (Nat.not_lt.mpr h82), rfl⟩
    · refine E_iconst (v := nI 1) d_TM_isYesBySort_85 rfl ?_
      refine E_goto 90 d_TM_isYesBySort_86 rfl ?_
      refine E_retZ d_TM_isYesBySort_90 rfl (by first | exact pI_01 _ | decide) ?_
      first | exact ⟨k1 e h82, rfl⟩ | exact ⟨k0 e (Nat.not_lt.mpr h82), rfl⟩
  · have e : bySort c c.now p f = decide (f ≤ c.now.lean p + 2 ∧ c.now.lean p ≤ f + 2) := by rw [bySort, h]; rfl
    rw [h] at hso
    have hx : ∀ x : Int32, x = nI f - nI (c.now.lean p) → ((-2 ≤ x ∧ x ≤ nI 2) ↔ bySort c c.now p f = true) := fun x hx => by
      rw [hx, e, le_toInt, le_toInt, pk_sub_toInt (by omega) (by omega), nI_toInt (by decide), decide_eq_true_eq]
      have : (-2 : Int32).toInt = -2 := by decide
      rw [this]
      omega
    first | refine E_aload_n d_TM_isYesBySort_0 rfl ?_ | refine E_aload_nN d_TM_isYesBySort_0 rfl ?_
    refine E_getR (q := 1) d_TM_isYesBySort_1 gf_TM_7 (by exact ⟨by decide, rfl⟩) (by exact hR _ rfl) ?_
    refine E_bipush (v := nI 10) d_TM_isYesBySort_4 (by decide) ?_
    refine E_iload_n d_TM_isYesBySort_6 rfl ?_
    first | (with_reducible refine E_isN2 ?_; refine E_iaddN d_TM_isYesBySort_7 ?_) | refine E_iadd d_TM_isYesBySort_7 ?_
    refine E_iald d_TM_isYesBySort_8 (by exact ⟨by decide, rfl⟩) (by exact ⟨by with_reducible rfl, by omega, by decide⟩) (by first | exact hA.people | exact hA.figure | exact hA.answers | exact hA.round | exact hA.lean (by omega) | exact hA.sort (by omega) | exact hA.hears (by omega) | rfl) ?_
    refine E_istore_3 d_TM_isYesBySort_9 rfl ?_
    first | refine E_aload_n d_TM_isYesBySort_10 rfl ?_ | refine E_aload_nN d_TM_isYesBySort_10 rfl ?_
    refine E_getR (q := 1) d_TM_isYesBySort_11 gf_TM_7 (by exact ⟨by decide, rfl⟩) (by exact hR _ rfl) ?_
    refine E_bipush (v := nI 18) d_TM_isYesBySort_14 (by decide) ?_
    refine E_iload_n d_TM_isYesBySort_16 rfl ?_
    first | (with_reducible refine E_isN2 ?_; refine E_iaddN d_TM_isYesBySort_17 ?_) | refine E_iadd d_TM_isYesBySort_17 ?_
    refine E_iald d_TM_isYesBySort_18 (by exact ⟨by decide, rfl⟩) (by exact ⟨by with_reducible rfl, by omega, by decide⟩) (by exact hso) ?_
    refine E_tableOut 91 d_TM_isYesBySort_19 (by decide) rfl ?_
    refine E_iload_n d_TM_isYesBySort_91 rfl ?_
    refine E_iload_n d_TM_isYesBySort_92 rfl ?_
    first | (with_reducible refine E_isN2 ?_; refine E_isubN d_TM_isYesBySort_93 (by omega) ?_) | refine E_isub d_TM_isYesBySort_93 ?_
    refine E_bipush (v := (-2)) d_TM_isYesBySort_94 (by decide) ?_
    refine E_iconst (v := nI 2) d_TM_isYesBySort_96 rfl ?_
    refine E_S3 (sp_TM_isIn _ _ _) d_TM_isYesBySort_97 ml_TM_69 cb_TM_isIn cs_TM_isIn ⟨by decide, by decide⟩ rfl (Nat.le_of_ble_eq_true rfl) (Nat.le_of_ble_eq_true rfl) (kI fun r1 M1 hc => ?_)
    obtain ⟨rfl, rfl⟩ := hc
    refine E_retZ d_TM_isYesBySort_100 rfl (by first | exact pI_01 _ | decide) ?_
    exact ⟨pI_congr (hx _ (by first | rfl | exact (pk_sub (by omega)).symm)), rfl⟩
theorem sp_TM_held2 {G : Geo} {M : Mem} {z : Int} (hz : zB z) : E 0 0 0 Y_TM_held 0 [some (.long (iL z)), none, some (.int (-2)), some (.int (nI 2))] [] G M (QI G fun r M' => r = iI (clampZ z (-2) 2) ∧ M' = M) := by
  have e1 : (-2 : Int32).toInt64 = iL (-2) := by decide
  have bm : zB (-2) := ⟨by decide, by decide⟩
  have bp : zB 2 := ⟨by decide, by decide⟩
  have f1 : 0 ≤ lg_cmp (iL z) ((-2 : Int32).toInt64) ↔ -2 ≤ z := by rw [e1]; exact lc_ge hz bm
  have f2 : lg_cmp (iL z) (lN 2) ≤ 0 ↔ z ≤ 2 := by rw [lN_iL]; exact lc_le hz bp
  refine E_lload_n d_TM_held_0 rfl ?_
  refine E_iload_n d_TM_held_1 rfl ?_
  first | (with_reducible refine E_isN1 ?_; refine E_i2lN d_TM_held_2 (by omega) ?_) | refine E_i2l d_TM_held_2 ?_
  refine E_lcmp d_TM_held_3 ?_
  first | (with_reducible refine E_isN1 ?_; refine E_if_ge 11 d_TM_held_4 rfl (nz_ge (by omega) fun h4 => ?_) (nz_nge (by omega) fun h4 => ?_)) | refine E_if_ge 11 d_TM_held_4 rfl (fun h4 => ?_) (fun h4 => ?_)
  · refine E_lload_n d_TM_held_11 rfl ?_
    refine E_iload_n d_TM_held_12 rfl ?_
    first | (with_reducible refine E_isN1 ?_; refine E_i2lN d_TM_held_13 (by omega) ?_) | refine E_i2l d_TM_held_13 ?_
    refine E_lcmp d_TM_held_14 ?_
    first | (with_reducible refine E_isN1 ?_; refine E_if_le 22 d_TM_held_15 rfl (nz_le (by omega) fun h15 => ?_) (nz_nle (by omega) fun h15 => ?_)) | refine E_if_le 22 d_TM_held_15 rfl (fun h15 => ?_) (fun h15 => ?_)
    · refine E_lload_n d_TM_held_22 rfl ?_
      refine E_l2i d_TM_held_23 ?_
      refine E_retI d_TM_held_24 rfl ?_
      first | exact ⟨by rw [clampZ, if_neg (Int.not_lt.mpr (f1.mp h4)), if_neg (Int.not_lt.mpr (f2.mp h15))]; exact iL_i32 z, rfl⟩ | exact ⟨by rw [clampZ, if_neg (Int.not_lt.mpr (f1.mp h4)), if_pos (Int.not_le.mp (fun q => h15 (f2.mpr q)))]; rfl, rfl⟩ | exact ⟨by rw [clampZ, if_pos (Int.not_le.mp (fun q => h4 (f1.mpr q)))]; rfl, rfl⟩
    · refine E_iload_n d_TM_held_18 rfl ?_
      refine E_goto 24 d_TM_held_19 rfl ?_
      refine E_retI d_TM_held_24 rfl ?_
      first | exact ⟨by rw [clampZ, if_neg (Int.not_lt.mpr (f1.mp h4)), if_neg (Int.not_lt.mpr (f2.mp h15))]; exact iL_i32 z, rfl⟩ | exact ⟨by rw [clampZ, if_neg (Int.not_lt.mpr (f1.mp h4)), if_pos (Int.not_le.mp (fun q => h15 (f2.mpr q)))]; rfl, rfl⟩ | exact ⟨by rw [clampZ, if_pos (Int.not_le.mp (fun q => h4 (f1.mpr q)))]; rfl, rfl⟩
  · refine E_iload_n d_TM_held_7 rfl ?_
    refine E_goto 24 d_TM_held_8 rfl ?_
    refine E_retI d_TM_held_24 rfl ?_
    first | exact ⟨by rw [clampZ, if_neg (Int.not_lt.mpr (f1.mp h4)), if_neg (Int.not_lt.mpr (f2.mp h15))]; exact iL_i32 z, rfl⟩ | exact ⟨by rw [clampZ, if_neg (Int.not_lt.mpr (f1.mp h4)), if_pos (Int.not_le.mp (fun q => h15 (f2.mpr q)))]; rfl, rfl⟩ | exact ⟨by rw [clampZ, if_pos (Int.not_le.mp (fun q => h4 (f1.mpr q)))]; rfl, rfl⟩
theorem sp_TM_held9 {G : Geo} {M : Mem} {z : Int} (hz : zB z) : E 0 0 0 Y_TM_held 0 [some (.long (iL z)), none, some (.int (nI 0)), some (.int (nI 9))] [] G M (QI G fun r M' => r = nI (clampZ z 0 9).toNat ∧ clampZ z 0 9 ≤ 9 ∧ M' = M) := by
  have bm : zB 0 := ⟨by decide, by decide⟩
  have bp : zB 9 := ⟨by decide, by decide⟩
  have f1 : 0 ≤ lg_cmp (iL z) (lN 0) ↔ 0 ≤ z := by rw [lN_iL]; exact lc_ge hz bm
  have f2 : lg_cmp (iL z) (lN 9) ≤ 0 ↔ z ≤ 9 := by rw [lN_iL]; exact lc_le hz bp
  refine E_lload_n d_TM_held_0 rfl ?_
  refine E_iload_n d_TM_held_1 rfl ?_
  first | (with_reducible refine E_isN1 ?_; refine E_i2lN d_TM_held_2 (by omega) ?_) | refine E_i2l d_TM_held_2 ?_
  refine E_lcmp d_TM_held_3 ?_
  first | (with_reducible refine E_isN1 ?_; refine E_if_ge 11 d_TM_held_4 rfl (nz_ge (by omega) fun h4 => ?_) (nz_nge (by omega) fun h4 => ?_)) | refine E_if_ge 11 d_TM_held_4 rfl (fun h4 => ?_) (fun h4 => ?_)
  · refine E_lload_n d_TM_held_11 rfl ?_
    refine E_iload_n d_TM_held_12 rfl ?_
    first | (with_reducible refine E_isN1 ?_; refine E_i2lN d_TM_held_13 (by omega) ?_) | refine E_i2l d_TM_held_13 ?_
    refine E_lcmp d_TM_held_14 ?_
    first | (with_reducible refine E_isN1 ?_; refine E_if_le 22 d_TM_held_15 rfl (nz_le (by omega) fun h15 => ?_) (nz_nle (by omega) fun h15 => ?_)) | refine E_if_le 22 d_TM_held_15 rfl (fun h15 => ?_) (fun h15 => ?_)
    · refine E_lload_n d_TM_held_22 rfl ?_
      refine E_l2i d_TM_held_23 ?_
      refine E_retI d_TM_held_24 rfl ?_
      first | exact ⟨by rw [clampZ, if_neg (Int.not_lt.mpr (f1.mp h4)), if_neg (Int.not_lt.mpr (f2.mp h15)), iL_i32, nI_iI, Int.toNat_of_nonneg (f1.mp h4)], by rw [clampZ, if_neg (Int.not_lt.mpr (f1.mp h4)), if_neg (Int.not_lt.mpr (f2.mp h15))]; exact f2.mp h15, rfl⟩ | exact ⟨by rw [clampZ, if_neg (Int.not_lt.mpr (f1.mp h4)), if_pos (Int.not_le.mp (fun q => h15 (f2.mpr q)))]; rfl, by rw [clampZ, if_neg (Int.not_lt.mpr (f1.mp h4)), if_pos (Int.not_le.mp (fun q => h15 (f2.mpr q)))]; decide, rfl⟩ | exact ⟨by rw [clampZ, if_pos (Int.not_le.mp (fun q => h4 (f1.mpr q)))]; rfl, by rw [clampZ, if_pos (Int.not_le.mp (fun q => h4 (f1.mpr q)))]; decide, rfl⟩
    · refine E_iload_n d_TM_held_18 rfl ?_
      refine E_goto 24 d_TM_held_19 rfl ?_
      refine E_retI d_TM_held_24 rfl ?_
      first | exact ⟨by rw [clampZ, if_neg (Int.not_lt.mpr (f1.mp h4)), if_neg (Int.not_lt.mpr (f2.mp h15)), iL_i32, nI_iI, Int.toNat_of_nonneg (f1.mp h4)], by rw [clampZ, if_neg (Int.not_lt.mpr (f1.mp h4)), if_neg (Int.not_lt.mpr (f2.mp h15))]; exact f2.mp h15, rfl⟩ | exact ⟨by rw [clampZ, if_neg (Int.not_lt.mpr (f1.mp h4)), if_pos (Int.not_le.mp (fun q => h15 (f2.mpr q)))]; rfl, by rw [clampZ, if_neg (Int.not_lt.mpr (f1.mp h4)), if_pos (Int.not_le.mp (fun q => h15 (f2.mpr q)))]; decide, rfl⟩ | exact ⟨by rw [clampZ, if_pos (Int.not_le.mp (fun q => h4 (f1.mpr q)))]; rfl, by rw [clampZ, if_pos (Int.not_le.mp (fun q => h4 (f1.mpr q)))]; decide, rfl⟩
  · refine E_iload_n d_TM_held_7 rfl ?_
    refine E_goto 24 d_TM_held_8 rfl ?_
    refine E_retI d_TM_held_24 rfl ?_
    first | exact ⟨by rw [clampZ, if_neg (Int.not_lt.mpr (f1.mp h4)), if_neg (Int.not_lt.mpr (f2.mp h15)), iL_i32, nI_iI, Int.toNat_of_nonneg (f1.mp h4)], by rw [clampZ, if_neg (Int.not_lt.mpr (f1.mp h4)), if_neg (Int.not_lt.mpr (f2.mp h15))]; exact f2.mp h15, rfl⟩ | exact ⟨by rw [clampZ, if_neg (Int.not_lt.mpr (f1.mp h4)), if_pos (Int.not_le.mp (fun q => h15 (f2.mpr q)))]; rfl, by rw [clampZ, if_neg (Int.not_lt.mpr (f1.mp h4)), if_pos (Int.not_le.mp (fun q => h15 (f2.mpr q)))]; decide, rfl⟩ | exact ⟨by rw [clampZ, if_pos (Int.not_le.mp (fun q => h4 (f1.mpr q)))]; rfl, by rw [clampZ, if_pos (Int.not_le.mp (fun q => h4 (f1.mpr q)))]; decide, rfl⟩
def clA (x : Tx) (kind : Nat) : Nat → Nat → Nat
  | 0, _ => 0
  | j + 1, k => if (x.clauses.getD k (0, 0, 0)).1 = kind then k + 1 else clA x kind j (k + 1)
theorem clA_no {x : Tx} {kind : Nat} : ∀ j k, clA x kind j k = 0 → ∀ m, k ≤ m → m < k + j → (x.clauses.getD m (0, 0, 0)).1 ≠ kind := by
  intro j
  induction j with
  | zero => intro k _ m h1 h2; omega
  | succ j ih =>
    intro k h m h1 h2
    rw [clA] at h
    by_cases e : (x.clauses.getD k (0, 0, 0)).1 = kind
    · rw [if_pos e] at h; omega
    · rw [if_neg e] at h
      by_cases q : m = k
      · rw [q]; exact e
      · exact ih (k + 1) h m (by omega) (by omega)
theorem clA_at {x : Tx} {kind : Nat} : ∀ j k, clA x kind j k ≠ 0 → k ≤ clA x kind j k - 1 ∧ clA x kind j k - 1 < k + j ∧ (x.clauses.getD (clA x kind j k - 1) (0, 0, 0)).1 = kind := by
  intro j
  induction j with
  | zero => intro k h; exact absurd rfl h
  | succ j ih =>
    intro k h
    rw [clA] at h ⊢
    by_cases e : (x.clauses.getD k (0, 0, 0)).1 = kind
    · rw [if_pos e, Nat.add_sub_cancel]; exact ⟨Nat.le_refl _, by omega, e⟩
    · rw [if_neg e] at h ⊢
      have := ih (k + 1) h
      exact ⟨by omega, by omega, this.2.2⟩
def txAt (c : Cr) (t : Nat) : Tx := c.texts.getD t ([], none, none)
theorem lp_TM_clauseOf {c : Cr} {M : Mem} {t kind : Nat} (hM : HM c M) (ht : t < c.texts.length) (hk8 : kind < 100) {R : Nat} : ∀ j k, k + j = (txAt c t).clauses.length → clA (txAt c t) kind j k = R → E 0 0 0 Y_TM_clauseOf 2 [some (.ref 0), some (.int (nI t)), some (.int (nI kind)), some (.int (nI k))] [] GM M (QI GM fun r M' => r = pM R ∧ M' = M) := by
  have hR := hM.R
  have h4 := hM.w.texts
  have hT := hM.T t ht
  have hw : WTx (txAt c t) := hM.w.text _ (getD_mem ht)
  have h24 := hw.1
  intro j
  induction j with
  | zero =>
    intro k hk hv
    rw [clA] at hv
    subst hv
    refine E_iload_n d_TM_clauseOf_2 rfl ?_
    first | (with_reducible refine E_isN1 ?_; refine E_if_lt 48 d_TM_clauseOf_3 rfl (nz_lt (by omega) fun h3 => ?_) (nz_nlt (by omega) fun h3 => ?_)) | refine E_if_lt 48 d_TM_clauseOf_3 rfl (fun h3 => ?_) (fun h3 => ?_)
    · exfalso; omega
    refine E_iload_n d_TM_clauseOf_6 rfl ?_
    first | refine E_aload_n d_TM_clauseOf_7 rfl ?_ | refine E_aload_nN d_TM_clauseOf_7 rfl ?_
    refine E_getR (q := 3) d_TM_clauseOf_8 gf_TM_16 (by exact ⟨by decide, rfl⟩) (by exact hR _ rfl) ?_
    refine E_sipush (v := nI 681) d_TM_clauseOf_11 (by decide) ?_
    refine E_iload_n d_TM_clauseOf_14 rfl ?_
    first | (with_reducible refine E_isN2 ?_; refine E_imulN d_TM_clauseOf_15 ?_) | refine E_imul d_TM_clauseOf_15 ?_
    refine E_iald d_TM_clauseOf_16 (by exact ⟨by decide, rfl⟩) (by exact ⟨by with_reducible rfl, by omega, by decide⟩) (by exact hT.1) ?_
    have hlen : (c.texts.getD t ([], none, none)).clauses.length = k := (Nat.add_zero k).symm.trans hk |>.symm
    rw [hlen]
    first | (with_reducible refine E_isN2 ?_; refine E_icmp_ge 48 d_TM_clauseOf_17 rfl (nb_le (by omega) (by omega) fun h17 => ?_) (nb_nle (by omega) (by omega) fun h17 => ?_)) | refine E_icmp_ge 48 d_TM_clauseOf_17 rfl (fun h17 => ?_) (fun h17 => ?_)
    rotate_left
    · exfalso; omega
    refine E_iconst (v := (-1)) d_TM_clauseOf_48 rfl ?_
    refine E_retI d_TM_clauseOf_49 rfl ?_
    exact ⟨rfl, rfl⟩
  | succ j ih =>
    intro k hk hv
    rw [clA] at hv
    have hk1 : k < (c.texts.getD t ([], none, none)).clauses.length := by show k < (txAt c t).clauses.length; omega
    have hkd := hw.2.1 k hk1
    have hlen24 : (c.texts.getD t ([], none, none)).clauses.length ≤ 24 := h24
    have hg1 : mI M 3 (681 * t + 1 + 3 * k) = nI ((txAt c t).clauses.getD k (0, 0, 0)).1 := (hT.2 k hk1).1
    have hup : clA (txAt c t) kind j (k + 1) = R → E 0 0 0 Y_TM_clauseOf 42 [some (.ref 0), some (.int (nI t)), some (.int (nI kind)), some (.int (nI k))] [] GM M (QI GM fun r M' => r = pM R ∧ M' = M) := by
      intro hv2
      first | (with_reducible refine E_isL3 ?_; refine E_iincN3 (m := 1) d_TM_clauseOf_42 rfl rfl ?_) | refine E_iinc_3 d_TM_clauseOf_42 rfl rfl ?_
      refine E_goto 2 d_TM_clauseOf_45 rfl ?_
      exact ih (k + 1) (by omega) hv2
    refine E_iload_n d_TM_clauseOf_2 rfl ?_
    first | (with_reducible refine E_isN1 ?_; refine E_if_lt 48 d_TM_clauseOf_3 rfl (nz_lt (by omega) fun h3 => ?_) (nz_nlt (by omega) fun h3 => ?_)) | refine E_if_lt 48 d_TM_clauseOf_3 rfl (fun h3 => ?_) (fun h3 => ?_)
    · exfalso; omega
    refine E_iload_n d_TM_clauseOf_6 rfl ?_
    first | refine E_aload_n d_TM_clauseOf_7 rfl ?_ | refine E_aload_nN d_TM_clauseOf_7 rfl ?_
    refine E_getR (q := 3) d_TM_clauseOf_8 gf_TM_16 (by exact ⟨by decide, rfl⟩) (by exact hR _ rfl) ?_
    refine E_sipush (v := nI 681) d_TM_clauseOf_11 (by decide) ?_
    refine E_iload_n d_TM_clauseOf_14 rfl ?_
    first | (with_reducible refine E_isN2 ?_; refine E_imulN d_TM_clauseOf_15 ?_) | refine E_imul d_TM_clauseOf_15 ?_
    refine E_iald d_TM_clauseOf_16 (by exact ⟨by decide, rfl⟩) (by exact ⟨by with_reducible rfl, by omega, by decide⟩) (by exact hT.1) ?_
    first | (with_reducible refine E_isN2 ?_; refine E_icmp_ge 48 d_TM_clauseOf_17 rfl (nb_le (by omega) (by omega) fun h17 => ?_) (nb_nle (by omega) (by omega) fun h17 => ?_)) | refine E_icmp_ge 48 d_TM_clauseOf_17 rfl (fun h17 => ?_) (fun h17 => ?_)
    · exfalso; omega
    first | refine E_aload_n d_TM_clauseOf_20 rfl ?_ | refine E_aload_nN d_TM_clauseOf_20 rfl ?_
    refine E_getR (q := 3) d_TM_clauseOf_21 gf_TM_16 (by exact ⟨by decide, rfl⟩) (by exact hR _ rfl) ?_
    refine E_sipush (v := nI 681) d_TM_clauseOf_24 (by decide) ?_
    refine E_iload_n d_TM_clauseOf_27 rfl ?_
    first | (with_reducible refine E_isN2 ?_; refine E_imulN d_TM_clauseOf_28 ?_) | refine E_imul d_TM_clauseOf_28 ?_
    refine E_iconst (v := nI 1) d_TM_clauseOf_29 rfl ?_
    first | (with_reducible refine E_isN2 ?_; refine E_iaddN d_TM_clauseOf_30 ?_) | refine E_iadd d_TM_clauseOf_30 ?_
    refine E_iconst (v := nI 3) d_TM_clauseOf_31 rfl ?_
    refine E_iload_n d_TM_clauseOf_32 rfl ?_
    first | (with_reducible refine E_isN2 ?_; refine E_imulN d_TM_clauseOf_33 ?_) | refine E_imul d_TM_clauseOf_33 ?_
    first | (with_reducible refine E_isN2 ?_; refine E_iaddN d_TM_clauseOf_34 ?_) | refine E_iadd d_TM_clauseOf_34 ?_
    refine E_iald d_TM_clauseOf_35 (by exact ⟨by decide, rfl⟩) (by exact ⟨by with_reducible rfl, by omega, by decide⟩) (by exact hg1) ?_
    refine E_iload_n d_TM_clauseOf_36 rfl ?_
    first | (with_reducible refine E_isN2 ?_; refine E_icmp_ne 42 d_TM_clauseOf_37 rfl (nb_ne fun h37 => ?_) (nb_eq (by omega) (by omega) fun h37 => ?_)) | refine E_icmp_ne 42 d_TM_clauseOf_37 rfl (fun h37 => ?_) (fun h37 => ?_)
    · rw [if_neg h37] at hv; exact hup hv
    · refine E_iload_n d_TM_clauseOf_40 rfl ?_
      refine E_retI d_TM_clauseOf_41 rfl ?_
      rw [if_pos h37] at hv; subst hv; exact ⟨rfl, rfl⟩
