section TPf
variable {c : Cr} {G : Geo} {M : Mem}
theorem sp_TP_lowest {a b : Nat} {z : Int32} (ha : a < 1073741824) (hb : b < 1073741824) (h0 : 0 < b) : E 0 0 0 Y_TP_inLowestTerms 0 [some (.long (lN a)), none, some (.long (lN b)), none, some (.int z), none, none, none, none, none, none, none] [] G M (QL G fun r M' => r = lowest a b z ∧ M' = M) := by
  have hg := Nat.gcd_pos_of_pos_right a h0
  have hgl := Nat.gcd_le_right a h0
  have hb0 : ¬ lN (Nat.gcd a b) = 0 := lN_ne0 hg (by omega)
  have v1 : z = 0 → lN (a / Nat.gcd a b) = lowest a b z := fun q => by rw [lowest, if_pos q]
  have v2 : ¬ z = 0 → lN (b / Nat.gcd a b) = lowest a b z := fun q => by rw [lowest, if_neg q]
  have F : ∀ (r : Nat) (u u2 : Option Value), E 0 0 0 Y_TP_inLowestTerms 45 [some (.long (lN a)), none, some (.long (lN b)), none, some (.int z), some (.long (lN (Nat.gcd a b))), none, some (.long (lN r)), none, u2, u, none] [] G M (QL G fun r M' => r = lowest a b z ∧ M' = M) := by
    intro r u u2
    refine E_lload d_TP_inLowestTerms_45 rfl ?_
    refine E_lconst (v := lN 0) d_TP_inLowestTerms_47 rfl ?_
    refine E_lcmp d_TP_inLowestTerms_48 ?_
    first | (with_reducible refine E_isP ?_; refine E_if_ne 56 d_TP_inLowestTerms_49 rfl (pb_1 fun h49 => ?_) (pb_0 fun h49 => ?_)) | (with_reducible refine E_isN1 ?_; refine E_if_ne 56 d_TP_inLowestTerms_49 rfl (nz_ne fun h49 => ?_) (nz_eq (by omega) fun h49 => ?_)) | refine E_if_ne 56 d_TP_inLowestTerms_49 rfl (fun h49 => ?_) (fun h49 => ?_)
    rotate_left
    · exfalso; have := (lg_eq0 (by omega) (by decide)).mp h49; omega
    refine E_iload d_TP_inLowestTerms_56 rfl ?_
    first | (with_reducible refine E_isP ?_; refine E_if_eq 65 d_TP_inLowestTerms_58 rfl (pb_0 fun h58 => ?_) (pb_1 fun h58 => ?_)) | (with_reducible refine E_isN1 ?_; refine E_if_eq 65 d_TP_inLowestTerms_58 rfl (nz_eq (by omega) fun h58 => ?_) (nz_ne fun h58 => ?_)) | refine E_if_eq 65 d_TP_inLowestTerms_58 rfl (fun h58 => ?_) (fun h58 => ?_)
    · refine E_lload_n d_TP_inLowestTerms_65 rfl ?_
      refine E_lload d_TP_inLowestTerms_66 rfl ?_
      first | (with_reducible refine E_isM2 ?_; refine E_ldivN d_TP_inLowestTerms_68 (by omega) (by omega) (by omega) ?_) | refine E_ldiv d_TP_inLowestTerms_68 (by decide) ?_
      refine E_retL d_TP_inLowestTerms_69 rfl ?_
      first | exact And.intro (v1 h58) rfl | exact And.intro (v2 h58) rfl
    · refine E_lload_n d_TP_inLowestTerms_61 rfl ?_
      refine E_goto 66 d_TP_inLowestTerms_62 rfl ?_
      refine E_lload d_TP_inLowestTerms_66 rfl ?_
      first | (with_reducible refine E_isM2 ?_; refine E_ldivN d_TP_inLowestTerms_68 (by omega) (by omega) (by omega) ?_) | refine E_ldiv d_TP_inLowestTerms_68 (by decide) ?_
      refine E_retL d_TP_inLowestTerms_69 rfl ?_
      first | exact And.intro (v1 h58) rfl | exact And.intro (v2 h58) rfl
  have L : ∀ k i y r (u : Option Value), i + 2 * k ≤ 199 → r < 2 ^ k → r < 1073741824 → y < 1073741824 → Nat.gcd y r = Nat.gcd a b → E 0 0 0 Y_TP_inLowestTerms 9 [some (.long (lN a)), none, some (.long (lN b)), none, some (.int z), some (.long (lN y)), none, some (.long (lN r)), none, some (.int (nI i)), u, none] [] G M (QL G fun r M' => r = lowest a b z ∧ M' = M) := by
    intro k
    have Z : ∀ i y (u : Option Value), i ≤ 199 → Nat.gcd y 0 = Nat.gcd a b → E 0 0 0 Y_TP_inLowestTerms 9 [some (.long (lN a)), none, some (.long (lN b)), none, some (.int z), some (.long (lN y)), none, some (.long (lN 0)), none, some (.int (nI i)), u, none] [] G M (QL G fun r M' => r = lowest a b z ∧ M' = M) := by
      intro i y u hi hgc
      rw [Nat.gcd_zero_right] at hgc
      subst hgc
      refine E_iload d_TP_inLowestTerms_9 rfl ?_
      refine E_sipush (v := nI 200) d_TP_inLowestTerms_11 (by decide) ?_
      first | (with_reducible refine E_isN2 ?_; refine E_icmp_ge 45 d_TP_inLowestTerms_14 rfl (nb_le (by omega) (by omega) fun h14 => ?_) (nb_nle (by omega) (by omega) fun h14 => ?_)) | refine E_icmp_ge 45 d_TP_inLowestTerms_14 rfl (fun h14 => ?_) (fun h14 => ?_)
      · exfalso; omega
      refine E_lload d_TP_inLowestTerms_17 rfl ?_
      refine E_lconst (v := lN 0) d_TP_inLowestTerms_19 rfl ?_
      refine E_lcmp d_TP_inLowestTerms_20 ?_
      first | (with_reducible refine E_isP ?_; refine E_if_eq 45 d_TP_inLowestTerms_21 rfl (pb_0 fun h21 => ?_) (pb_1 fun h21 => ?_)) | (with_reducible refine E_isN1 ?_; refine E_if_eq 45 d_TP_inLowestTerms_21 rfl (nz_eq (by omega) fun h21 => ?_) (nz_ne fun h21 => ?_)) | refine E_if_eq 45 d_TP_inLowestTerms_21 rfl (fun h21 => ?_) (fun h21 => ?_)
      rotate_left
      · exfalso; exact h21 ((lg_eq0 (by decide) (by decide)).mpr rfl)
      exact F 0 u _
    have S : ∀ i y r (u : Option Value), i ≤ 199 → 0 < r → r < 1073741824 → y < 1073741824 → E 0 0 0 Y_TP_inLowestTerms 9 [some (.long (lN a)), none, some (.long (lN b)), none, some (.int z), some (.long (lN r)), none, some (.long (lN (y % r))), none, some (.int (nI (i + 1))), some (.long (lN (y % r))), none] [] G M (QL G fun r M' => r = lowest a b z ∧ M' = M) → E 0 0 0 Y_TP_inLowestTerms 9 [some (.long (lN a)), none, some (.long (lN b)), none, some (.int z), some (.long (lN y)), none, some (.long (lN r)), none, some (.int (nI i)), u, none] [] G M (QL G fun r M' => r = lowest a b z ∧ M' = M) := by
      intro i y r u hi hr hr2 hy K
      have hn : ¬ r = 0 := by omega
      refine E_iload d_TP_inLowestTerms_9 rfl ?_
      refine E_sipush (v := nI 200) d_TP_inLowestTerms_11 (by decide) ?_
      first | (with_reducible refine E_isN2 ?_; refine E_icmp_ge 45 d_TP_inLowestTerms_14 rfl (nb_le (by omega) (by omega) fun h14 => ?_) (nb_nle (by omega) (by omega) fun h14 => ?_)) | refine E_icmp_ge 45 d_TP_inLowestTerms_14 rfl (fun h14 => ?_) (fun h14 => ?_)
      · exfalso; omega
      refine E_lload d_TP_inLowestTerms_17 rfl ?_
      refine E_lconst (v := lN 0) d_TP_inLowestTerms_19 rfl ?_
      refine E_lcmp d_TP_inLowestTerms_20 ?_
      first | (with_reducible refine E_isP ?_; refine E_if_eq 45 d_TP_inLowestTerms_21 rfl (pb_0 fun h21 => ?_) (pb_1 fun h21 => ?_)) | (with_reducible refine E_isN1 ?_; refine E_if_eq 45 d_TP_inLowestTerms_21 rfl (nz_eq (by omega) fun h21 => ?_) (nz_ne fun h21 => ?_)) | refine E_if_eq 45 d_TP_inLowestTerms_21 rfl (fun h21 => ?_) (fun h21 => ?_)
      · exfalso; exact hn ((lg_eq0 (by omega) (by decide)).mp h21)
      refine E_lload d_TP_inLowestTerms_24 rfl ?_
      refine E_lload d_TP_inLowestTerms_26 rfl ?_
      first | (with_reducible refine E_isM2 ?_; refine E_lremN d_TP_inLowestTerms_28 (by omega) (by omega) (by omega) ?_) | refine E_lrem d_TP_inLowestTerms_28 (by decide) ?_
      refine E_lstore_10 d_TP_inLowestTerms_29 rfl ?_
      refine E_lload d_TP_inLowestTerms_31 rfl ?_
      refine E_lstore_5 d_TP_inLowestTerms_33 rfl ?_
      refine E_lload d_TP_inLowestTerms_35 rfl ?_
      refine E_lstore_7 d_TP_inLowestTerms_37 rfl ?_
      first | (with_reducible refine E_isL9 ?_; refine E_iincN9 (m := 1) d_TP_inLowestTerms_39 rfl rfl ?_) | refine E_iinc_9 d_TP_inLowestTerms_39 rfl rfl ?_
      refine E_goto 9 d_TP_inLowestTerms_42 rfl ?_
      exact K
    have gr : ∀ y r, Nat.gcd y r = Nat.gcd a b → Nat.gcd r (y % r) = Nat.gcd a b := fun y r q => by rw [← q, Nat.gcd_comm y r, Nat.gcd_rec r y, Nat.gcd_comm]
    induction k with
    | zero =>
      intro i y r u hi hr hr2 hy hgc
      have h : r = 0 := by simpa using hr
      subst h
      exact Z i y u (by omega) hgc
    | succ k ih =>
      intro i y r u hi hr hr2 hy hgc
      by_cases h : r = 0
      · subst h
        exact Z i y u (by omega) hgc
      · have h1 := Nat.mod_lt y (show 0 < r by omega)
        refine S i y r u (by omega) (by omega) hr2 hy ?_
        have g1 := gr y r hgc
        by_cases h2 : y % r = 0
        · rw [h2] at g1 ⊢
          exact Z (i + 1) r _ (by omega) g1
        · have h3 := Nat.mod_lt r (show 0 < y % r by omega)
          have h4 : r % (y % r) ≤ r - y % r := by
            rw [Nat.mod_eq_sub_mod (by omega)]
            exact Nat.mod_le _ _
          rw [Nat.pow_succ] at hr
          exact S (i + 1) r (y % r) _ (by omega) (by omega) (by omega) hr2 (ih (i + 2) (y % r) (r % (y % r)) _ (by omega) (by omega) (by omega) (by omega) (gr _ _ g1))
  refine E_lload_n d_TP_inLowestTerms_0 rfl ?_
  refine E_lstore_5 d_TP_inLowestTerms_1 rfl ?_
  refine E_lload_n d_TP_inLowestTerms_3 rfl ?_
  refine E_lstore_7 d_TP_inLowestTerms_4 rfl ?_
  refine E_iconst (v := nI 0) d_TP_inLowestTerms_6 rfl ?_
  refine E_istore_9 d_TP_inLowestTerms_7 rfl ?_
  exact L 30 0 b a none (by decide) ha ha hb (Nat.gcd_comm b a)
theorem sp_TP_yesAsNow (hC : CM c G M) : E 5 0 0 Y_TP_yesAsNow 0 [some (.ref 0)] [] G M (QI G fun r M' => r = nI (yesN c c.now.figure) ∧ CM c G M' ∧ Sc CQ M M') := by
  have hG := hC.G
  have hR := hC.R
  have hm := hC.now
  have hf8 := hC.w.fig8
  have K : ∀ r, LawV (ruler c) r G M → E 5 0 0 Y_TP_yesAsNow 18 [some (.ref 0)] [oV r, .ref 2, .ref 212] G M (QI G fun r M' => r = nI (yesN c c.now.figure) ∧ CM c G M' ∧ Sc CQ M M') := by
    intro r hL
    have hs := sp_As_yesBits (AB.now hC) hL hf8
    revert hs
    cases r with
    | none =>
      intro hs
      first | refine E_aload_n d_TP_yesAsNow_18 rfl ?_ | refine E_aload_nN d_TP_yesAsNow_18 rfl ?_
      refine E_getR d_TP_yesAsNow_19 gf_TP_10 (by first | exact hG.s (by decide) rfl) (by first | exact hR.o rfl | exact hR.c cr1 rfl | exact hR.m0 ad2) ?_
      refine E_getR d_TP_yesAsNow_22 gf_TP_128 (by first | exact hG.s (by decide) rfl) (by first | exact hR.o rfl | exact hR.c cr1 rfl | exact hR.m0 ad2) ?_
      refine E_getI d_TP_yesAsNow_25 gf_TP_131 (by first | exact hG.s (by decide) rfl) (by first | exact hm.people | exact hm.figure | rfl) ?_
      refine E_V3 (hs) d_TP_yesAsNow_28 ml_TP_387 cb_As_yesBits cv_As_yesBits (by first | exact hG.s (by decide) rfl) ⟨by decide, rfl⟩ ⟨by decide, by decide⟩ rfl (Nat.le_of_ble_eq_true rfl) (Nat.le_of_ble_eq_true rfl) (kI fun r1 M1 hc => ?_)
      obtain ⟨rfl, hS1⟩ := hc
      refine E_retI d_TP_yesAsNow_31 rfl ?_
      exact ⟨rfl, hC.q (hS1.wk fun _ => SA.q), hS1.wk fun _ => SA.q⟩
    | some la =>
      intro hs
      first | refine E_aload_n d_TP_yesAsNow_18 rfl ?_ | refine E_aload_nN d_TP_yesAsNow_18 rfl ?_
      refine E_getR d_TP_yesAsNow_19 gf_TP_10 (by first | exact hG.s (by decide) rfl) (by first | exact hR.o rfl | exact hR.c cr1 rfl | exact hR.m0 ad2) ?_
      refine E_getR d_TP_yesAsNow_22 gf_TP_128 (by first | exact hG.s (by decide) rfl) (by first | exact hR.o rfl | exact hR.c cr1 rfl | exact hR.m0 ad2) ?_
      refine E_getI d_TP_yesAsNow_25 gf_TP_131 (by first | exact hG.s (by decide) rfl) (by first | exact hm.people | exact hm.figure | rfl) ?_
      refine E_V3 (hs) d_TP_yesAsNow_28 ml_TP_387 cb_As_yesBits cv_As_yesBits (by first | exact hG.s (by decide) rfl) ⟨by decide, rfl⟩ ⟨by decide, by decide⟩ rfl (Nat.le_of_ble_eq_true rfl) (Nat.le_of_ble_eq_true rfl) (kI fun r1 M1 hc => ?_)
      obtain ⟨rfl, hS1⟩ := hc
      refine E_retI d_TP_yesAsNow_31 rfl ?_
      exact ⟨rfl, hC.q (hS1.wk fun _ => SA.q), hS1.wk fun _ => SA.q⟩
  first | refine E_aload_n d_TP_yesAsNow_0 rfl ?_ | refine E_aload_nN d_TP_yesAsNow_0 rfl ?_
  refine E_getR d_TP_yesAsNow_1 gf_TP_31 (by first | exact hG.s (by decide) rfl) (by first | exact hR.o rfl | exact hR.c cr1 rfl | exact hR.m0 ad2) ?_
  first | refine E_aload_n d_TP_yesAsNow_4 rfl ?_ | refine E_aload_nN d_TP_yesAsNow_4 rfl ?_
  refine E_getR d_TP_yesAsNow_5 gf_TP_10 (by first | exact hG.s (by decide) rfl) (by first | exact hR.o rfl | exact hR.c cr1 rfl | exact hR.m0 ad2) ?_
  refine E_getR d_TP_yesAsNow_8 gf_TP_128 (by first | exact hG.s (by decide) rfl) (by first | exact hR.o rfl | exact hR.c cr1 rfl | exact hR.m0 ad2) ?_
  first | refine E_aload_n d_TP_yesAsNow_11 rfl ?_ | refine E_aload_nN d_TP_yesAsNow_11 rfl ?_
  refine E_getR d_TP_yesAsNow_12 gf_TP_10 (by first | exact hG.s (by decide) rfl) (by first | exact hR.o rfl | exact hR.c cr1 rfl | exact hR.m0 ad2) ?_
  refine E_V0 (sp_Cr_rulingText hC) d_TP_yesAsNow_15 ml_TP_186 cb_Cr_rulingText cv_Cr_rulingText (by first | exact hG.s (by decide) rfl) ⟨by decide, rfl⟩ ⟨by decide, by decide⟩ rfl (Nat.le_of_ble_eq_true rfl) (Nat.le_of_ble_eq_true rfl) (kR fun r1 M1 hc => ?_)
  obtain ⟨hL, rfl⟩ := hc
  exact K r1 hL
theorem sum_ten {y : Nat} (hy : y ≤ 10) : ∀ n, sumN (tenN c y) n = cnt (fun p => (yesN c c.now.figure).testBit p) n * (10 - y) + (n - cnt (fun p => (yesN c c.now.figure).testBit p) n) * y := by
  intro n
  induction n with
  | zero => simp [sumN, cnt]
  | succ n ih =>
    have hle := cnt_le (fun p => (yesN c c.now.figure).testBit p) n
    rw [sumN, cnt, ih, tenN]
    by_cases h : (yesN c c.now.figure).testBit n = true
    · rw [if_pos h, if_pos h, Nat.add_mul, Nat.one_mul, show n + 1 - (cnt (fun p => (yesN c c.now.figure).testBit p) n + 1) = n - cnt (fun p => (yesN c c.now.figure).testBit p) n by omega]
      omega
    · rw [if_neg h, if_neg h, Nat.add_zero, show n + 1 - cnt (fun p => (yesN c c.now.figure).testBit p) n = n - cnt (fun p => (yesN c c.now.figure).testBit p) n + 1 by omega, Nat.add_mul, Nat.one_mul]
      omega
theorem yes_pow (c : Cr) (f : Nat) : yesN c f < 2 ^ c.now.people := bset_lt _ _
theorem sp_TP_mean (hC : CM c G M) (y z : Int32) : E 6 0 0 Y_TP_mean 0 [some (.ref 0), some (.int y), some (.int z), none, none] [] G M (QL G fun r M' => r = ans_mean c y z ∧ Sc CQ M M') := by
  have hG := hC.G
  have hR := hC.R
  have hm := hC.now
  have hp8 := hC.w.p8
  have h256 := pow2_256 hC.w
  have hyp := yes_pow c c.now.figure
  revert y
  refine args1 11 (fun y hy hyn ht => ?_) (fun y hy => ?_)
  · have e1 := pc9_cnt hyp (by omega)
    have hle := cnt_le (fun p => (yesN c c.now.figure).testBit p) c.now.people
    have e2 := sum_ten (c := c) (show y ≤ 10 by omega) c.now.people
    have e3 := sumN_le (tenN_le (c := c) (show y ≤ 10 by omega)) c.now.people
    have ev : ans_mean c (nI y) z = lowest (sumN (tenN c y) c.now.people) 10 z := by rw [ans_mean, if_pos hyn, ht]
    refine E_iload_n d_TP_mean_0 rfl ?_
    first | (with_reducible refine E_isN1 ?_; refine E_if_lt 10 d_TP_mean_1 rfl (nz_lt (by omega) fun h1 => ?_) (nz_nlt (by omega) fun h1 => ?_)) | refine E_if_lt 10 d_TP_mean_1 rfl (fun h1 => ?_) (fun h1 => ?_)
    · exfalso; exact absurd h1 (Nat.not_lt_zero y)
    refine E_iload_n d_TP_mean_4 rfl ?_
    refine E_bipush (v := nI 10) d_TP_mean_5 (by decide) ?_
    first | (with_reducible refine E_isN2 ?_; refine E_icmp_le 14 d_TP_mean_7 rfl (nb_le (by omega) (by omega) fun h7 => ?_) (nb_nle (by omega) (by omega) fun h7 => ?_)) | refine E_icmp_le 14 d_TP_mean_7 rfl (fun h7 => ?_) (fun h7 => ?_)
    rotate_left
    · exfalso; omega
    first | refine E_aload_n d_TP_mean_14 rfl ?_ | refine E_aload_nN d_TP_mean_14 rfl ?_
    refine E_V0 (sp_TP_yesAsNow hC) d_TP_mean_15 ml_TP_307 cb_TP_yesAsNow cv_TP_yesAsNow (by first | exact hG.s (by decide) rfl) ⟨by decide, rfl⟩ ⟨by decide, by decide⟩ rfl (Nat.le_of_ble_eq_true rfl) (Nat.le_of_ble_eq_true rfl) (kI fun r1 M1 hc => ?_)
    obtain ⟨rfl, hC1, hS1⟩ := hc; have hR := hC1.R; have hm := hC1.now
    refine E_S1 (sp_JI_bitCount (by omega)) d_TP_mean_18 ml_TP_256 cb_JI_bitCount cs_JI_bitCount ⟨by decide, by decide⟩ rfl (Nat.le_of_ble_eq_true rfl) (Nat.le_of_ble_eq_true rfl) (kI fun r1 M1 hc => ?_)
    obtain ⟨rfl, rfl⟩ := hc; rw [e1]
    refine E_istore_3 d_TP_mean_21 rfl ?_
    first | refine E_aload_n d_TP_mean_22 rfl ?_ | refine E_aload_nN d_TP_mean_22 rfl ?_
    refine E_getR d_TP_mean_23 gf_TP_10 (by first | exact hG.s (by decide) rfl) (by first | exact hR.o rfl | exact hR.c cr1 rfl | exact hR.m0 ad2) ?_
    refine E_getR d_TP_mean_26 gf_TP_128 (by first | exact hG.s (by decide) rfl) (by first | exact hR.o rfl | exact hR.c cr1 rfl | exact hR.m0 ad2) ?_
    refine E_getI d_TP_mean_29 gf_TP_310 (by first | exact hG.s (by decide) rfl) (by first | exact hm.people | exact hm.figure | rfl) ?_
    refine E_iload_n d_TP_mean_32 rfl ?_
    first | (with_reducible refine E_isN2 ?_; refine E_isubN d_TP_mean_33 (by omega) ?_) | refine E_isub d_TP_mean_33 ?_
    refine E_istore_4 d_TP_mean_34 rfl ?_
    refine E_iload_n d_TP_mean_36 rfl ?_
    first | (with_reducible refine E_isN1 ?_; refine E_i2lN d_TP_mean_37 (by omega) ?_) | refine E_i2l d_TP_mean_37 ?_
    refine E_bipush (v := nI 10) d_TP_mean_38 (by decide) ?_
    refine E_iload_n d_TP_mean_40 rfl ?_
    first | (with_reducible refine E_isN2 ?_; refine E_isubN d_TP_mean_41 (by omega) ?_) | refine E_isub d_TP_mean_41 ?_
    first | (with_reducible refine E_isN1 ?_; refine E_i2lN d_TP_mean_42 (by omega) ?_) | refine E_i2l d_TP_mean_42 ?_
    first | (with_reducible refine E_isM2 ?_; refine E_lmulN d_TP_mean_43 ?_) | refine E_lmul d_TP_mean_43 ?_
    refine E_iload d_TP_mean_44 rfl ?_
    first | (with_reducible refine E_isN1 ?_; refine E_i2lN d_TP_mean_46 (by omega) ?_) | refine E_i2l d_TP_mean_46 ?_
    refine E_iload_n d_TP_mean_47 rfl ?_
    first | (with_reducible refine E_isN1 ?_; refine E_i2lN d_TP_mean_48 (by omega) ?_) | refine E_i2l d_TP_mean_48 ?_
    first | (with_reducible refine E_isM2 ?_; refine E_lmulN d_TP_mean_49 ?_) | refine E_lmul d_TP_mean_49 ?_
    first | (with_reducible refine E_isM2 ?_; refine E_laddN d_TP_mean_50 ?_) | refine E_ladd d_TP_mean_50 ?_
    refine E_ldc2 (v := lN 10) d_TP_mean_51 kc_TP_313 ?_
    refine E_iload_n d_TP_mean_54 rfl ?_
    refine E_S3 (by rw [← e2]; exact sp_TP_lowest (by omega) (by decide) (by decide)) d_TP_mean_55 ml_TP_303 cb_TP_inLowestTerms cs_TP_inLowestTerms ⟨by decide, by decide⟩ rfl (Nat.le_of_ble_eq_true rfl) (Nat.le_of_ble_eq_true rfl) (kL fun r1 M1 hc => ?_)
    obtain ⟨rfl, rfl⟩ := hc
    refine E_retL d_TP_mean_58 rfl ?_
    exact ⟨ev.symm, hS1⟩
  · have ho := out_le (n := 10) (by decide) hy
    have ev : ans_mean c y z = -1 := by rw [ans_mean, if_neg hy]
    refine E_iload_n d_TP_mean_0 rfl ?_
    first | (with_reducible refine E_isN1 ?_; refine E_if_lt 10 d_TP_mean_1 rfl (nz_lt (by omega) fun h1 => ?_) (nz_nlt (by omega) fun h1 => ?_)) | refine E_if_lt 10 d_TP_mean_1 rfl (fun h1 => ?_) (fun h1 => ?_)
    · refine E_ldc2 d_TP_mean_10 kc_TP_293 ?_
      refine E_retL d_TP_mean_13 rfl ?_
      exact ⟨ev.symm, Sc.rf⟩
    · refine E_iload_n d_TP_mean_4 rfl ?_
      refine E_bipush (v := nI 10) d_TP_mean_5 (by decide) ?_
      first | (with_reducible refine E_isN2 ?_; refine E_icmp_le 14 d_TP_mean_7 rfl (nb_le (by omega) (by omega) fun h7 => ?_) (nb_nle (by omega) (by omega) fun h7 => ?_)) | refine E_icmp_le 14 d_TP_mean_7 rfl (fun h7 => ?_) (fun h7 => ?_)
      · exfalso; exact ho h1 h7
      refine E_ldc2 d_TP_mean_10 kc_TP_293 ?_
      refine E_retL d_TP_mean_13 rfl ?_
      exact ⟨ev.symm, Sc.rf⟩
theorem sp_TP_allWays (hC : CM c G M) : E 0 0 0 Y_TP_allWays 0 [some (.ref 0), none, none, none] [] G M (QL G fun r M' => r = lN (10 ^ c.now.people) ∧ M' = M) := by
  have hG := hC.G
  have hR := hC.R
  have hm := hC.now
  have hp8 := hC.w.p8
  have L : ∀ k p, p + k = c.now.people → E 0 0 0 Y_TP_allWays 4 [some (.ref 0), some (.long (lN (10 ^ p))), none, some (.int (nI p))] [] G M (QL G fun r M' => r = lN (10 ^ c.now.people) ∧ M' = M) := by
    intro k
    induction k with
    | zero =>
      intro p hp
      have hp2 : p = c.now.people := by omega
      subst hp2
      refine E_iload_n d_TP_allWays_4 rfl ?_
      first | refine E_aload_n d_TP_allWays_5 rfl ?_ | refine E_aload_nN d_TP_allWays_5 rfl ?_
      refine E_getR d_TP_allWays_6 gf_TP_10 (by first | exact hG.s (by decide) rfl) (by first | exact hR.o rfl | exact hR.c cr1 rfl | exact hR.m0 ad2) ?_
      refine E_getR d_TP_allWays_9 gf_TP_128 (by first | exact hG.s (by decide) rfl) (by first | exact hR.o rfl | exact hR.c cr1 rfl | exact hR.m0 ad2) ?_
      refine E_getI d_TP_allWays_12 gf_TP_310 (by first | exact hG.s (by decide) rfl) (by first | exact hm.people | exact hm.figure | rfl) ?_
      first | (with_reducible refine E_isN2 ?_; refine E_icmp_ge 30 d_TP_allWays_15 rfl (nb_le (by omega) (by omega) fun h15 => ?_) (nb_nle (by omega) (by omega) fun h15 => ?_)) | refine E_icmp_ge 30 d_TP_allWays_15 rfl (fun h15 => ?_) (fun h15 => ?_)
      rotate_left
      · exfalso; omega
      refine E_lload_n d_TP_allWays_30 rfl ?_
      refine E_retL d_TP_allWays_31 rfl ?_
      exact ⟨rfl, rfl⟩
    | succ k ih =>
      intro p hp
      refine E_iload_n d_TP_allWays_4 rfl ?_
      first | refine E_aload_n d_TP_allWays_5 rfl ?_ | refine E_aload_nN d_TP_allWays_5 rfl ?_
      refine E_getR d_TP_allWays_6 gf_TP_10 (by first | exact hG.s (by decide) rfl) (by first | exact hR.o rfl | exact hR.c cr1 rfl | exact hR.m0 ad2) ?_
      refine E_getR d_TP_allWays_9 gf_TP_128 (by first | exact hG.s (by decide) rfl) (by first | exact hR.o rfl | exact hR.c cr1 rfl | exact hR.m0 ad2) ?_
      refine E_getI d_TP_allWays_12 gf_TP_310 (by first | exact hG.s (by decide) rfl) (by first | exact hm.people | exact hm.figure | rfl) ?_
      first | (with_reducible refine E_isN2 ?_; refine E_icmp_ge 30 d_TP_allWays_15 rfl (nb_le (by omega) (by omega) fun h15 => ?_) (nb_nle (by omega) (by omega) fun h15 => ?_)) | refine E_icmp_ge 30 d_TP_allWays_15 rfl (fun h15 => ?_) (fun h15 => ?_)
      · exfalso; omega
      refine E_lload_n d_TP_allWays_18 rfl ?_
      refine E_ldc2 (v := lN 10) d_TP_allWays_19 kc_TP_313 ?_
      first | (with_reducible refine E_isM2 ?_; refine E_lmulN d_TP_allWays_22 ?_) | refine E_lmul d_TP_allWays_22 ?_
      refine E_lstore_1 d_TP_allWays_23 rfl ?_
      first | (with_reducible refine E_isL3 ?_; refine E_iincN3 (m := 1) d_TP_allWays_24 rfl rfl ?_) | refine E_iinc_3 d_TP_allWays_24 rfl rfl ?_
      refine E_goto 4 d_TP_allWays_27 rfl ?_
      exact ih (p + 1) (by omega)
  refine E_lconst (v := lN 1) d_TP_allWays_0 rfl ?_
  refine E_lstore_1 d_TP_allWays_1 rfl ?_
  refine E_iconst (v := nI 0) d_TP_allWays_2 rfl ?_
  refine E_istore_3 d_TP_allWays_3 rfl ?_
  exact L c.now.people 0 (Nat.zero_add _)
def HY (M : Mem) (g : Nat → Nat) : Prop := ∀ j, j < 9 → mL M 231 j = lN (g j)
theorem HY.up {M : Mem} {g g' : Nat → Nat} {i : Nat} {x : Int64} (h : HY M g) (e : x = lN (g' i)) (hg : ∀ j, j ≠ i → g' j = g j) : HY (wL M 231 i x) g' := by
  intro j hj
  rw [mL_wL]
  by_cases q : j = i
  · rw [if_pos ⟨rfl, q⟩, q, e]
  · rw [if_neg (fun r => q r.2), h j hj, hg j q]
theorem q231 : CQ 231 := by unfold CQ; decide
theorem sp_TP_waysFor (hC : CM c G M) {x y : Nat} (hx : x < 9) (hy : y ≤ 10) : E 6 0 0 Y_TP_waysFor 0 [some (.ref 0), some (.int (nI x)), some (.int (nI y)), none, none, none, none] [] G M (QL G fun r M' => r = lN (rowN (tenN c y) c.now.people x) ∧ CM c G M' ∧ Sc CQ M M') := by
  have hG := hC.G
  have hp8 := hC.w.p8
  have h256 := pow2_256 hC.w
  have hyp := yes_pow c c.now.figure
  have h231 : Sh G 231 (2, 9) := hG.s (by decide) rfl
  have P : ∀ k p M1 u u2, p + k = c.now.people → CM c G M1 → Sc CQ M M1 → HY M1 (rowN (tenN c y) p) → E 6 0 0 Y_TP_waysFor 23 [some (.ref 0), some (.int (nI x)), some (.int (nI y)), some (.int (nI (yesN c c.now.figure))), some (.int (nI p)), u, u2] [] G M1 (QL G fun r M' => r = lN (rowN (tenN c y) c.now.people x) ∧ CM c G M' ∧ Sc CQ M M') := by
    intro k
    induction k with
    | zero =>
      intro p M1 u u2 hp hC hX hY
      have hR := hC.R
      have hm := hC.now
      have hp2 : p = c.now.people := by omega
      subst hp2
      refine E_iload d_TP_waysFor_23 rfl ?_
      first | refine E_aload_n d_TP_waysFor_25 rfl ?_ | refine E_aload_nN d_TP_waysFor_25 rfl ?_
      refine E_getR d_TP_waysFor_26 gf_TP_10 (by first | exact hG.s (by decide) rfl) (by first | exact hR.o rfl | exact hR.c cr1 rfl | exact hR.m0 ad2) ?_
      refine E_getR d_TP_waysFor_29 gf_TP_128 (by first | exact hG.s (by decide) rfl) (by first | exact hR.o rfl | exact hR.c cr1 rfl | exact hR.m0 ad2) ?_
      refine E_getI d_TP_waysFor_32 gf_TP_310 (by first | exact hG.s (by decide) rfl) (by first | exact hm.people | exact hm.figure | rfl) ?_
      first | (with_reducible refine E_isN2 ?_; refine E_icmp_ge 138 d_TP_waysFor_35 rfl (nb_le (by omega) (by omega) fun h35 => ?_) (nb_nle (by omega) (by omega) fun h35 => ?_)) | refine E_icmp_ge 138 d_TP_waysFor_35 rfl (fun h35 => ?_) (fun h35 => ?_)
      rotate_left
      · exfalso; omega
      refine E_iload_n d_TP_waysFor_138 rfl ?_
      first | (with_reducible refine E_isN1 ?_; refine E_if_lt 160 d_TP_waysFor_139 rfl (nz_lt (by omega) fun h139 => ?_) (nz_nlt (by omega) fun h139 => ?_)) | refine E_if_lt 160 d_TP_waysFor_139 rfl (fun h139 => ?_) (fun h139 => ?_)
      · exfalso; exact absurd h139 (Nat.not_lt_zero x)
      refine E_iload_n d_TP_waysFor_142 rfl ?_
      first | refine E_aload_n d_TP_waysFor_143 rfl ?_ | refine E_aload_nN d_TP_waysFor_143 rfl ?_
      refine E_getR d_TP_waysFor_144 gf_TP_67 (by first | exact hG.s (by decide) rfl) (by first | exact hR.o rfl | exact hR.c cr1 rfl | exact hR.m0 ad2) ?_
      refine E_alen d_TP_waysFor_147 (by first | exact hG.s (by decide) rfl) (by decide) rfl ?_
      first | (with_reducible refine E_isN2 ?_; refine E_icmp_ge 160 d_TP_waysFor_148 rfl (nb_le (by omega) (by omega) fun h148 => ?_) (nb_nle (by omega) (by omega) fun h148 => ?_)) | refine E_icmp_ge 160 d_TP_waysFor_148 rfl (fun h148 => ?_) (fun h148 => ?_)
      · exfalso; omega
      first | refine E_aload_n d_TP_waysFor_151 rfl ?_ | refine E_aload_nN d_TP_waysFor_151 rfl ?_
      refine E_getR d_TP_waysFor_152 gf_TP_67 (by first | exact hG.s (by decide) rfl) (by first | exact hR.o rfl | exact hR.c cr1 rfl | exact hR.m0 ad2) ?_
      refine E_iload_n d_TP_waysFor_155 rfl ?_
      refine E_lald d_TP_waysFor_156 (by first | exact hG.s (by decide) rfl) (by exact ⟨by with_reducible rfl, by omega, by decide⟩) (by exact hY x hx) ?_
      refine E_goto 161 d_TP_waysFor_157 rfl ?_
      refine E_retL d_TP_waysFor_161 rfl ?_
      exact ⟨rfl, hC, hX⟩
    | succ k ih =>
      intro p M1 u u2 hp hC hX hY
      have ht := tenN_le (c := c) hy p
      generalize hg : tenN c y = g at ht hY ih ⊢
      have K : ∀ M2, CM c G M2 → Sc CQ M M2 → HY M2 (rowN g (p + 1)) → E 6 0 0 Y_TP_waysFor 132 [some (.ref 0), some (.int (nI x)), some (.int (nI y)), some (.int (nI (yesN c c.now.figure))), some (.int (nI p)), some (.int (nI (g p))), some (.int (nI 0))] [] G M2 (QL G fun r M' => r = lN (rowN g c.now.people x) ∧ CM c G M' ∧ Sc CQ M M') := by
        intro M2 hC hX hY
        first | (with_reducible refine E_isL4 ?_; refine E_iincN4 (m := 1) d_TP_waysFor_132 rfl rfl ?_) | refine E_iinc_4 d_TP_waysFor_132 rfl rfl ?_
        refine E_goto 23 d_TP_waysFor_135 rfl ?_
        exact ih (p + 1) M2 _ _ (by omega) hC hX hY
      have J : ∀ i M2, i < 9 → CM c G M2 → Sc CQ M M2 → HY M2 (fun j => if j ≤ i then rowN g p j else rowN g (p + 1) j) → E 6 0 0 Y_TP_waysFor 67 [some (.ref 0), some (.int (nI x)), some (.int (nI y)), some (.int (nI (yesN c c.now.figure))), some (.int (nI p)), some (.int (nI (g p))), some (.int (nI i))] [] G M2 (QL G fun r M' => r = lN (rowN g c.now.people x) ∧ CM c G M' ∧ Sc CQ M M') := by
        intro i
        induction i with
        | zero =>
          intro M2 hi hC hX hY
          have hR := hC.R
          have r0 : mL M2 231 0 = lN (rowN g p 0) := (hY 0 (by decide)).trans (congrArg lN (if_pos (Nat.le_refl 0)))
          refine E_iload d_TP_waysFor_67 rfl ?_
          first | (with_reducible refine E_isN1 ?_; refine E_if_le 113 d_TP_waysFor_69 rfl (nz_le (by omega) fun h69 => ?_) (nz_nle (by omega) fun h69 => ?_)) | refine E_if_le 113 d_TP_waysFor_69 rfl (fun h69 => ?_) (fun h69 => ?_)
          rotate_left
          · exfalso; omega
          first | refine E_aload_n d_TP_waysFor_113 rfl ?_ | refine E_aload_nN d_TP_waysFor_113 rfl ?_
          refine E_getR d_TP_waysFor_114 gf_TP_67 (by first | exact hG.s (by decide) rfl) (by first | exact hR.o rfl | exact hR.c cr1 rfl | exact hR.m0 ad2) ?_
          refine E_iconst (v := nI 0) d_TP_waysFor_117 rfl ?_
          first | refine E_aload_n d_TP_waysFor_118 rfl ?_ | refine E_aload_nN d_TP_waysFor_118 rfl ?_
          refine E_getR d_TP_waysFor_119 gf_TP_67 (by first | exact hG.s (by decide) rfl) (by first | exact hR.o rfl | exact hR.c cr1 rfl | exact hR.m0 ad2) ?_
          refine E_iconst (v := nI 0) d_TP_waysFor_122 rfl ?_
          refine E_lald d_TP_waysFor_123 (by first | exact hG.s (by decide) rfl) (by exact ⟨by with_reducible rfl, by omega, by decide⟩) (by exact r0) ?_
          refine E_bipush (v := nI 10) d_TP_waysFor_124 (by decide) ?_
          refine E_iload d_TP_waysFor_126 rfl ?_
          first | (with_reducible refine E_isN2 ?_; refine E_isubN d_TP_waysFor_128 (by omega) ?_) | refine E_isub d_TP_waysFor_128 ?_
          first | (with_reducible refine E_isN1 ?_; refine E_i2lN d_TP_waysFor_129 (by omega) ?_) | refine E_i2l d_TP_waysFor_129 ?_
          first | (with_reducible refine E_isM2 ?_; refine E_lmulN d_TP_waysFor_130 ?_) | refine E_lmul d_TP_waysFor_130 ?_
          refine E_last d_TP_waysFor_131 (by first | exact hG.s (by decide) rfl) (by exact ⟨by with_reducible rfl, by omega, by decide⟩) ?_
          refine K _ (hC.q (Sc.rf.wL q231)) (hX.wL q231) (hY.up rfl (fun j hj => ?_))
          rw [if_neg (by omega)]
        | succ i ihj =>
          intro M2 hi hC hX hY
          have hR := hC.R
          have r1 : mL M2 231 (i + 1) = lN (rowN g p (i + 1)) := (hY (i + 1) hi).trans (congrArg lN (if_pos (Nat.le_refl _)))
          have r2 : mL M2 231 i = lN (rowN g p i) := (hY i (by omega)).trans (congrArg lN (if_pos (Nat.le_succ _)))
          refine E_iload d_TP_waysFor_67 rfl ?_
          first | (with_reducible refine E_isN1 ?_; refine E_if_le 113 d_TP_waysFor_69 rfl (nz_le (by omega) fun h69 => ?_) (nz_nle (by omega) fun h69 => ?_)) | refine E_if_le 113 d_TP_waysFor_69 rfl (fun h69 => ?_) (fun h69 => ?_)
          · exfalso; omega
          first | refine E_aload_n d_TP_waysFor_72 rfl ?_ | refine E_aload_nN d_TP_waysFor_72 rfl ?_
          refine E_getR d_TP_waysFor_73 gf_TP_67 (by first | exact hG.s (by decide) rfl) (by first | exact hR.o rfl | exact hR.c cr1 rfl | exact hR.m0 ad2) ?_
          refine E_iload d_TP_waysFor_76 rfl ?_
          first | refine E_aload_n d_TP_waysFor_78 rfl ?_ | refine E_aload_nN d_TP_waysFor_78 rfl ?_
          refine E_getR d_TP_waysFor_79 gf_TP_67 (by first | exact hG.s (by decide) rfl) (by first | exact hR.o rfl | exact hR.c cr1 rfl | exact hR.m0 ad2) ?_
          refine E_iload d_TP_waysFor_82 rfl ?_
          refine E_lald d_TP_waysFor_84 (by first | exact hG.s (by decide) rfl) (by exact ⟨by with_reducible rfl, by omega, by decide⟩) (by first | exact r1 | exact r2) ?_
          refine E_bipush (v := nI 10) d_TP_waysFor_85 (by decide) ?_
          refine E_iload d_TP_waysFor_87 rfl ?_
          first | (with_reducible refine E_isN2 ?_; refine E_isubN d_TP_waysFor_89 (by omega) ?_) | refine E_isub d_TP_waysFor_89 ?_
          first | (with_reducible refine E_isN1 ?_; refine E_i2lN d_TP_waysFor_90 (by omega) ?_) | refine E_i2l d_TP_waysFor_90 ?_
          first | (with_reducible refine E_isM2 ?_; refine E_lmulN d_TP_waysFor_91 ?_) | refine E_lmul d_TP_waysFor_91 ?_
          first | refine E_aload_n d_TP_waysFor_92 rfl ?_ | refine E_aload_nN d_TP_waysFor_92 rfl ?_
          refine E_getR d_TP_waysFor_93 gf_TP_67 (by first | exact hG.s (by decide) rfl) (by first | exact hR.o rfl | exact hR.c cr1 rfl | exact hR.m0 ad2) ?_
          refine E_iload d_TP_waysFor_96 rfl ?_
          refine E_iconst (v := nI 1) d_TP_waysFor_98 rfl ?_
          first | (with_reducible refine E_isN2 ?_; refine E_isubN d_TP_waysFor_99 (by omega) ?_) | refine E_isub d_TP_waysFor_99 ?_
          refine E_lald d_TP_waysFor_100 (by first | exact hG.s (by decide) rfl) (by exact ⟨by with_reducible rfl, by omega, by decide⟩) (by first | exact r1 | exact r2) ?_
          refine E_iload d_TP_waysFor_101 rfl ?_
          first | (with_reducible refine E_isN1 ?_; refine E_i2lN d_TP_waysFor_103 (by omega) ?_) | refine E_i2l d_TP_waysFor_103 ?_
          first | (with_reducible refine E_isM2 ?_; refine E_lmulN d_TP_waysFor_104 ?_) | refine E_lmul d_TP_waysFor_104 ?_
          first | (with_reducible refine E_isM2 ?_; refine E_laddN d_TP_waysFor_105 ?_) | refine E_ladd d_TP_waysFor_105 ?_
          refine E_last d_TP_waysFor_106 (by first | exact hG.s (by decide) rfl) (by exact ⟨by with_reducible rfl, by omega, by decide⟩) ?_
          first | (with_reducible refine E_isL6 ?_; refine E_iincD6 (m := 1) d_TP_waysFor_107 (by decide) (by omega) rfl ?_) | refine E_iinc_6 d_TP_waysFor_107 rfl rfl ?_
          refine E_goto 67 d_TP_waysFor_110 rfl ?_
          refine ihj _ (by omega) (hC.q (Sc.rf.wL q231)) (hX.wL q231) (hY.up (g' := fun j => if j ≤ i then rowN g p j else rowN g (p + 1) j) ?_ (fun j hj => ?_))
          · rw [if_neg (by omega)]; rfl
          · show (if j ≤ i then _ else _) = if j ≤ i + 1 then _ else _
            by_cases q : j ≤ i
            · rw [if_pos q, if_pos (by omega)]
            · rw [if_neg q, if_neg (by omega)]
      have hR := hC.R
      have hm := hC.now
      have J8 := J 8 M1 (by decide) hC hX (fun j hj => (hY j hj).trans (congrArg lN (if_pos (show j ≤ 8 by omega)).symm))
      have eg : g p = if (yesN c c.now.figure).testBit p = true then 10 - y else y := by rw [← hg]; rfl
      have g1 : yesN c c.now.figure / 2 ^ p &&& 1 = 1 → g p = 10 - y := fun q => eg.trans (if_pos ((tb_div _ _).mpr q))
      have g0 : ¬ yesN c c.now.figure / 2 ^ p &&& 1 = 1 → g p = y := fun q => eg.trans (if_neg (fun u => q ((tb_div _ _).mp u)))
      have ha : yesN c c.now.figure / 2 ^ p &&& 1 ≤ 1 := Nat.and_le_right
      refine E_iload d_TP_waysFor_23 rfl ?_
      first | refine E_aload_n d_TP_waysFor_25 rfl ?_ | refine E_aload_nN d_TP_waysFor_25 rfl ?_
      refine E_getR d_TP_waysFor_26 gf_TP_10 (by first | exact hG.s (by decide) rfl) (by first | exact hR.o rfl | exact hR.c cr1 rfl | exact hR.m0 ad2) ?_
      refine E_getR d_TP_waysFor_29 gf_TP_128 (by first | exact hG.s (by decide) rfl) (by first | exact hR.o rfl | exact hR.c cr1 rfl | exact hR.m0 ad2) ?_
      refine E_getI d_TP_waysFor_32 gf_TP_310 (by first | exact hG.s (by decide) rfl) (by first | exact hm.people | exact hm.figure | rfl) ?_
      first | (with_reducible refine E_isN2 ?_; refine E_icmp_ge 138 d_TP_waysFor_35 rfl (nb_le (by omega) (by omega) fun h35 => ?_) (nb_nle (by omega) (by omega) fun h35 => ?_)) | refine E_icmp_ge 138 d_TP_waysFor_35 rfl (fun h35 => ?_) (fun h35 => ?_)
      · exfalso; omega
      refine E_iload_n d_TP_waysFor_38 rfl ?_
      refine E_iload d_TP_waysFor_39 rfl ?_
      first | (with_reducible refine E_isN2 ?_; refine E_ishrN d_TP_waysFor_41 (by omega) (by omega) ?_) | refine E_ishr d_TP_waysFor_41 ?_
      refine E_iconst (v := nI 1) d_TP_waysFor_42 rfl ?_
      first | (with_reducible refine E_isN2 ?_; refine E_iandN d_TP_waysFor_43 ?_) | refine E_iand d_TP_waysFor_43 ?_
      refine E_iconst (v := nI 1) d_TP_waysFor_44 rfl ?_
      first | (with_reducible refine E_isN2 ?_; refine E_icmp_ne 55 d_TP_waysFor_45 rfl (nb_ne fun h45 => ?_) (nb_eq (by omega) (by omega) fun h45 => ?_)) | refine E_icmp_ne 55 d_TP_waysFor_45 rfl (fun h45 => ?_) (fun h45 => ?_)
      · refine E_iload_n d_TP_waysFor_55 rfl ?_
        refine E_istore_5 d_TP_waysFor_56 rfl ?_
        first | refine E_aload_n d_TP_waysFor_58 rfl ?_ | refine E_aload_nN d_TP_waysFor_58 rfl ?_
        refine E_getR d_TP_waysFor_59 gf_TP_67 (by first | exact hG.s (by decide) rfl) (by first | exact hR.o rfl | exact hR.c cr1 rfl | exact hR.m0 ad2) ?_
        refine E_alen d_TP_waysFor_62 (by first | exact hG.s (by decide) rfl) (by decide) rfl ?_
        refine E_iconst (v := nI 1) d_TP_waysFor_63 rfl ?_
        first | (with_reducible refine E_isN2 ?_; refine E_isubN d_TP_waysFor_64 (by omega) ?_) | refine E_isub d_TP_waysFor_64 ?_
        refine E_istore_6 d_TP_waysFor_65 rfl ?_
        first | (rw [g1 h45] at J8; exact J8) | (rw [g0 h45] at J8; exact J8)
      · refine E_bipush (v := nI 10) d_TP_waysFor_48 (by decide) ?_
        refine E_iload_n d_TP_waysFor_50 rfl ?_
        first | (with_reducible refine E_isN2 ?_; refine E_isubN d_TP_waysFor_51 (by omega) ?_) | refine E_isub d_TP_waysFor_51 ?_
        refine E_goto 56 d_TP_waysFor_52 rfl ?_
        refine E_istore_5 d_TP_waysFor_56 rfl ?_
        first | refine E_aload_n d_TP_waysFor_58 rfl ?_ | refine E_aload_nN d_TP_waysFor_58 rfl ?_
        refine E_getR d_TP_waysFor_59 gf_TP_67 (by first | exact hG.s (by decide) rfl) (by first | exact hR.o rfl | exact hR.c cr1 rfl | exact hR.m0 ad2) ?_
        refine E_alen d_TP_waysFor_62 (by first | exact hG.s (by decide) rfl) (by decide) rfl ?_
        refine E_iconst (v := nI 1) d_TP_waysFor_63 rfl ?_
        first | (with_reducible refine E_isN2 ?_; refine E_isubN d_TP_waysFor_64 (by omega) ?_) | refine E_isub d_TP_waysFor_64 ?_
        refine E_istore_6 d_TP_waysFor_65 rfl ?_
        first | (rw [g1 h45] at J8; exact J8) | (rw [g0 h45] at J8; exact J8)
  first | refine E_aload_n d_TP_waysFor_0 rfl ?_ | refine E_aload_nN d_TP_waysFor_0 rfl ?_
  refine E_V0 (sp_TP_yesAsNow hC) d_TP_waysFor_1 ml_TP_307 cb_TP_yesAsNow cv_TP_yesAsNow (by first | exact hG.s (by decide) rfl) ⟨by decide, rfl⟩ ⟨by decide, by decide⟩ rfl (Nat.le_of_ble_eq_true rfl) (Nat.le_of_ble_eq_true rfl) (kI fun r1 M1 hc => ?_)
  obtain ⟨rfl, hC1, hS1⟩ := hc; have hR := hC1.R
  refine E_istore_3 d_TP_waysFor_4 rfl ?_
  first | refine E_aload_n d_TP_waysFor_5 rfl ?_ | refine E_aload_nN d_TP_waysFor_5 rfl ?_
  refine E_getR d_TP_waysFor_6 gf_TP_67 (by first | exact hG.s (by decide) rfl) (by first | exact hR.o rfl | exact hR.c cr1 rfl | exact hR.m0 ad2) ?_
  refine E_lconst (v := lN 0) d_TP_waysFor_9 rfl ?_
  refine E_S2 (sp_JA_fillJ h231 (by decide)) d_TP_waysFor_10 ml_TP_397 cb_JA_fill_AJJ cs_JA_fill_AJJ ⟨by decide, by decide⟩ rfl (Nat.le_of_ble_eq_true rfl) (Nat.le_of_ble_eq_true rfl) (kV fun M1 hc => ?_)
  obtain ⟨hS2, hf⟩ := hc
  have hS2 := hS2.wk (P' := CQ) (fun _ q => by rw [q]; exact q231)
  have hC2 := hC1.q hS2
  have hR := hC2.R
  first | refine E_aload_n d_TP_waysFor_13 rfl ?_ | refine E_aload_nN d_TP_waysFor_13 rfl ?_
  refine E_getR d_TP_waysFor_14 gf_TP_67 (by first | exact hG.s (by decide) rfl) (by first | exact hR.o rfl | exact hR.c cr1 rfl | exact hR.m0 ad2) ?_
  refine E_iconst (v := nI 0) d_TP_waysFor_17 rfl ?_
  refine E_lconst (v := lN 1) d_TP_waysFor_18 rfl ?_
  refine E_last d_TP_waysFor_19 (by first | exact hG.s (by decide) rfl) (by exact ⟨by with_reducible rfl, by omega, by decide⟩) ?_
  refine E_iconst (v := nI 0) d_TP_waysFor_20 rfl ?_
  refine E_istore_4 d_TP_waysFor_21 rfl ?_
  refine P c.now.people 0 _ none none (Nat.zero_add _) (hC2.q (Sc.rf.wL q231)) ((hS1.tr hS2).wL q231) (HY.up (g := fun _ => 0) (fun j hj => hf j hj) rfl (fun j hj => ?_))
  rw [rowN, if_neg hj]
theorem sp_TP_sure (hC : CM c G M) (x y z : Int32) : E 7 0 0 Y_TP_sure 0 [some (.ref 0), some (.int x), some (.int y), some (.int z)] [] G M (QL G fun r M' => r = ans_sure c x y z ∧ Sc CQ M M') := by
  have hG := hC.G
  have hp8 := hC.w.p8
  have hp10 := pow10_le hp8
  have hpos := Nat.pow_pos (n := c.now.people) (show 0 < 10 by decide)
  revert x y
  refine args2 9 11 (fun x y hx hxn ht hy hyn ht2 => ?_) (fun x y hx => ?_) (fun x y hx hy => ?_)
  · have hrow := rowN_le (tenN_le (c := c) (show y ≤ 10 by omega)) c.now.people x
    have ev : ans_sure c (nI x) (nI y) z = lowest (rowN (tenN c y) c.now.people x) (10 ^ c.now.people) z := by rw [ans_sure, if_pos ⟨hxn, hyn⟩, ht, ht2]
    refine E_iload_n d_TP_sure_0 rfl ?_
    first | (with_reducible refine E_isN1 ?_; refine E_if_lt 20 d_TP_sure_1 rfl (nz_lt (by omega) fun h1 => ?_) (nz_nlt (by omega) fun h1 => ?_)) | refine E_if_lt 20 d_TP_sure_1 rfl (fun h1 => ?_) (fun h1 => ?_)
    · exfalso; exact absurd h1 (Nat.not_lt_zero x)
    refine E_iload_n d_TP_sure_4 rfl ?_
    refine E_bipush (v := nI 8) d_TP_sure_5 (by decide) ?_
    first | (with_reducible refine E_isN2 ?_; refine E_icmp_gt 20 d_TP_sure_7 rfl (nb_lt (by omega) (by omega) fun h7 => ?_) (nb_nlt (by omega) (by omega) fun h7 => ?_)) | refine E_icmp_gt 20 d_TP_sure_7 rfl (fun h7 => ?_) (fun h7 => ?_)
    · exfalso; omega
    refine E_iload_n d_TP_sure_10 rfl ?_
    first | (with_reducible refine E_isN1 ?_; refine E_if_lt 20 d_TP_sure_11 rfl (nz_lt (by omega) fun h11 => ?_) (nz_nlt (by omega) fun h11 => ?_)) | refine E_if_lt 20 d_TP_sure_11 rfl (fun h11 => ?_) (fun h11 => ?_)
    · exfalso; exact absurd h11 (Nat.not_lt_zero y)
    refine E_iload_n d_TP_sure_14 rfl ?_
    refine E_bipush (v := nI 10) d_TP_sure_15 (by decide) ?_
    first | (with_reducible refine E_isN2 ?_; refine E_icmp_le 24 d_TP_sure_17 rfl (nb_le (by omega) (by omega) fun h17 => ?_) (nb_nle (by omega) (by omega) fun h17 => ?_)) | refine E_icmp_le 24 d_TP_sure_17 rfl (fun h17 => ?_) (fun h17 => ?_)
    rotate_left
    · exfalso; omega
    first | refine E_aload_n d_TP_sure_24 rfl ?_ | refine E_aload_nN d_TP_sure_24 rfl ?_
    refine E_iload_n d_TP_sure_25 rfl ?_
    refine E_iload_n d_TP_sure_26 rfl ?_
    refine E_V2 (sp_TP_waysFor hC hx (by omega)) d_TP_sure_27 ml_TP_295 cb_TP_waysFor cv_TP_waysFor (by first | exact hG.s (by decide) rfl) ⟨by decide, rfl⟩ ⟨by decide, by decide⟩ rfl (Nat.le_of_ble_eq_true rfl) (Nat.le_of_ble_eq_true rfl) (kL fun r1 M1 hc => ?_)
    obtain ⟨rfl, hC1, hS1⟩ := hc
    first | refine E_aload_n d_TP_sure_30 rfl ?_ | refine E_aload_nN d_TP_sure_30 rfl ?_
    refine E_V0 (sp_TP_allWays hC1) d_TP_sure_31 ml_TP_299 cb_TP_allWays cv_TP_allWays (by first | exact hG.s (by decide) rfl) ⟨by decide, rfl⟩ ⟨by decide, by decide⟩ rfl (Nat.le_of_ble_eq_true rfl) (Nat.le_of_ble_eq_true rfl) (kL fun r1 M1 hc => ?_)
    obtain ⟨rfl, rfl⟩ := hc
    refine E_iload_n d_TP_sure_34 rfl ?_
    refine E_S3 (sp_TP_lowest (by omega) (by omega) hpos) d_TP_sure_35 ml_TP_303 cb_TP_inLowestTerms cs_TP_inLowestTerms ⟨by decide, by decide⟩ rfl (Nat.le_of_ble_eq_true rfl) (Nat.le_of_ble_eq_true rfl) (kL fun r1 M1 hc => ?_)
    obtain ⟨rfl, rfl⟩ := hc
    refine E_retL d_TP_sure_38 rfl ?_
    exact ⟨ev.symm, hS1⟩
  · have ev : ans_sure c x y z = -1 := by rw [ans_sure, if_neg (fun q => hx q.1)]
    have ho := out_gt (n := 8) (by decide) hx
    refine E_iload_n d_TP_sure_0 rfl ?_
    first | (with_reducible refine E_isN1 ?_; refine E_if_lt 20 d_TP_sure_1 rfl (nz_lt (by omega) fun h1 => ?_) (nz_nlt (by omega) fun h1 => ?_)) | refine E_if_lt 20 d_TP_sure_1 rfl (fun h1 => ?_) (fun h1 => ?_)
    · refine E_ldc2 d_TP_sure_20 kc_TP_293 ?_
      refine E_retL d_TP_sure_23 rfl ?_
      exact ⟨ev.symm, Sc.rf⟩
    · refine E_iload_n d_TP_sure_4 rfl ?_
      refine E_bipush (v := nI 8) d_TP_sure_5 (by decide) ?_
      first | (with_reducible refine E_isN2 ?_; refine E_icmp_gt 20 d_TP_sure_7 rfl (nb_lt (by omega) (by omega) fun h7 => ?_) (nb_nlt (by omega) (by omega) fun h7 => ?_)) | refine E_icmp_gt 20 d_TP_sure_7 rfl (fun h7 => ?_) (fun h7 => ?_)
      rotate_left
      · exfalso; exact ho h1 h7
      refine E_ldc2 d_TP_sure_20 kc_TP_293 ?_
      refine E_retL d_TP_sure_23 rfl ?_
      exact ⟨ev.symm, Sc.rf⟩
  · have ev : ans_sure c x y z = -1 := by rw [ans_sure, if_neg (fun q => hy q.2)]
    have ho := out_le (n := 10) (by decide) hy
    refine E_iload_n d_TP_sure_0 rfl ?_
    first | (with_reducible refine E_isN1 ?_; refine E_if_lt 20 d_TP_sure_1 rfl (nz_lt (by omega) fun h1 => ?_) (nz_nlt (by omega) fun h1 => ?_)) | refine E_if_lt 20 d_TP_sure_1 rfl (fun h1 => ?_) (fun h1 => ?_)
    · refine E_ldc2 d_TP_sure_20 kc_TP_293 ?_
      refine E_retL d_TP_sure_23 rfl ?_
      exact ⟨ev.symm, Sc.rf⟩
    · refine E_iload_n d_TP_sure_4 rfl ?_
      refine E_bipush (v := nI 8) d_TP_sure_5 (by decide) ?_
      first | (with_reducible refine E_isN2 ?_; refine E_icmp_gt 20 d_TP_sure_7 rfl (nb_lt (by omega) (by omega) fun h7 => ?_) (nb_nlt (by omega) (by omega) fun h7 => ?_)) | refine E_icmp_gt 20 d_TP_sure_7 rfl (fun h7 => ?_) (fun h7 => ?_)
      · refine E_ldc2 d_TP_sure_20 kc_TP_293 ?_
        refine E_retL d_TP_sure_23 rfl ?_
        exact ⟨ev.symm, Sc.rf⟩
      · refine E_iload_n d_TP_sure_10 rfl ?_
        first | (with_reducible refine E_isN1 ?_; refine E_if_lt 20 d_TP_sure_11 rfl (nz_lt (by omega) fun h11 => ?_) (nz_nlt (by omega) fun h11 => ?_)) | refine E_if_lt 20 d_TP_sure_11 rfl (fun h11 => ?_) (fun h11 => ?_)
        · refine E_ldc2 d_TP_sure_20 kc_TP_293 ?_
          refine E_retL d_TP_sure_23 rfl ?_
          exact ⟨ev.symm, Sc.rf⟩
        · refine E_iload_n d_TP_sure_14 rfl ?_
          refine E_bipush (v := nI 10) d_TP_sure_15 (by decide) ?_
          first | (with_reducible refine E_isN2 ?_; refine E_icmp_le 24 d_TP_sure_17 rfl (nb_le (by omega) (by omega) fun h17 => ?_) (nb_nle (by omega) (by omega) fun h17 => ?_)) | refine E_icmp_le 24 d_TP_sure_17 rfl (fun h17 => ?_) (fun h17 => ?_)
          · exfalso; exact ho h11 h17
          refine E_ldc2 d_TP_sure_20 kc_TP_293 ?_
          refine E_retL d_TP_sure_23 rfl ?_
          exact ⟨ev.symm, Sc.rf⟩
end TPf
