theorem iI_l {z : Int} (h : zM z) : (iI z).toInt64 = iL z := by
  apply Int64.toInt_inj.mp
  rw [Int32.toInt_toInt64, iL_toInt h.b]
  exact Int32.toInt_ofInt_of_le (by rw [show (-2 ^ 31 : Int) = -2147483648 from by decide]; have := h.1; omega) (by rw [show (2 ^ 31 : Int) = 2147483648 from by decide]; have := h.2; omega)
theorem ev_0 (nm : Nat → Int) (m : Mo) (v : Nat) (S : List Int × List Bool) : evR1 nm m 0 v S = ((v : Int) :: S.1, S.2) := rfl
theorem ev_1 (nm : Nat → Int) (m : Mo) (v : Nat) (S : List Int × List Bool) : evR1 nm m 1 v S = (nm v :: S.1, S.2) := rfl
theorem ev_3 (nm : Nat → Int) (m : Mo) (v : Nat) (S : List Int × List Bool) : evR1 nm m 3 v S = ((if S.2.headD false = true then S.1.tail.headD 0 else S.1.headD 0) :: S.1.tail.tail, S.2.tail) := rfl
theorem ev_o (nm : Nat → Int) (m : Mo) {o : Nat} (v : Nat) (S : List Int × List Bool) (h1 : ¬ o ≤ 1) (h3 : ¬ o = 3) (h5 : o ≤ 5) : evR1 nm m o v S = (oneBy m o (S.1.headD 0) :: S.1.tail, S.2) := by rw [evR1, if_neg h1, if_neg h3, if_pos h5]
theorem ev_t (nm : Nat → Int) (m : Mo) {o : Nat} (v : Nat) (S : List Int × List Bool) (h5 : ¬ o ≤ 5) (h10 : o < 10) : evR1 nm m o v S = (twoBy o (S.1.tail.headD 0) (S.1.headD 0) :: S.1.tail.tail, S.2) := by rw [evR1, if_neg (by omega), if_neg (by omega), if_neg h5, if_pos h10]
theorem ev_a (nm : Nat → Int) (m : Mo) {o : Nat} (v : Nat) (S : List Int × List Bool) (h10 : ¬ o < 10) (h20 : o < 20) : evR1 nm m o v S = (S.1.tail.tail, askBy o (S.1.tail.headD 0) (S.1.headD 0) :: S.2) := by rw [evR1, if_neg (by omega), if_neg (by omega), if_neg (by omega), if_neg h10, if_pos h20]
theorem ev_n (nm : Nat → Int) (m : Mo) (v : Nat) (S : List Int × List Bool) : evR1 nm m 20 v S = (S.1, (!S.2.headD false) :: S.2.tail) := rfl
theorem ev_j (nm : Nat → Int) (m : Mo) {o : Nat} (v : Nat) (S : List Int × List Bool) (h20 : 20 < o) : evR1 nm m o v S = (S.1, (if o = 21 then (S.2.tail.headD false && S.2.headD false) else (S.2.tail.headD false || S.2.headD false)) :: S.2.tail.tail) := by rw [evR1, if_neg (by omega), if_neg (by omega), if_neg (by omega), if_neg (by omega), if_neg (by omega), if_neg (by omega)]
theorem lp_TM_summed {c : Cr} {M0 : Mem} {t k i0 n1 : Nat} {nm : Nat → Int} {code : Cd} {R : Int} (ht : t < 4) (hk : k < 24) (hcode : RepCode code (mI M0 3) (681 * t + 73 + 2 * i0)) (hend : mI M0 3 (681 * t + 1 + 3 * k + 2) = nI (i0 + code.length)) (hi0 : i0 + code.length ≤ 304) (hnm : HNm nm M0) (hnz : ∀ i, i < 8 → zM (nm i)) :
    ∀ (l : Cd) (j : Nat) (S : List Int × List Bool), code.length = j + l.length → (∀ n, n < l.length → l.getD n (0, 0) = code.getD (j + n) (0, 0)) → WC l S.1.length S.2.length → S.1.length ≤ j → S.2.length ≤ j → (evR nm c.now l S).1.headD 0 = R →
    ∀ M, HM c M → Sx SZ M0 M → VR S.1 M → BR S.2 M →
    E 2 0 0 Y_TM_summedUp 38 [some (.ref 0), some (.int (nI t)), some (.int (nI k)), some (.int (nI (681 * t + 1 + 3 * k))), some (.int (nI (681 * t + 73))), some (.int (nI S.1.length)), some (.int (nI S.2.length)), some (.int (nI (i0 + j))), none, none] [] GM M (QL GM fun r M' => r = iL R ∧ Sx SZ M0 M') := by
  intro l
  induction l with
  | nil =>
    intro j S hj hl hw h1 h2 hv M hM hX hV hB
    have hR := hM.R
    have hg3 : mI M 3 = mI M0 3 := (hX.2 3 (by unfold SZ; decide)).1
    obtain ⟨w1, w2⟩ := hw
    have hj2 : j = code.length := by simpa using hj.symm
    subst hj2
    obtain ⟨vs, bs⟩ := S
    cases vs with
    | nil => exact absurd w1 (by simp)
    | cons z vs =>
      cases vs with
      | cons z2 vs => exact absurd w1 (by simp)
      | nil =>
        have hz : mL M 7 0 = iL z := hV.1
        have hend2 : mI M 3 (681 * t + 1 + 3 * k + 2) = nI (i0 + code.length) := by rw [hg3]; exact hend
        have hz2 : z = R := hv
        refine E_iload d_TM_summedUp_38 rfl ?_
        first | refine E_aload_n d_TM_summedUp_40 rfl ?_ | refine E_aload_nN d_TM_summedUp_40 rfl ?_
        refine E_getR (q := 3) d_TM_summedUp_41 gf_TM_16 (by exact ⟨by decide, rfl⟩) (by exact hR _ rfl) ?_
        refine E_iload_n d_TM_summedUp_44 rfl ?_
        refine E_iconst (v := nI 2) d_TM_summedUp_45 rfl ?_
        first | (with_reducible refine E_isN2 ?_; refine E_iaddN d_TM_summedUp_46 ?_) | refine E_iadd d_TM_summedUp_46 ?_
        refine E_iald d_TM_summedUp_47 (by exact ⟨by decide, rfl⟩) (by exact ⟨by with_reducible rfl, by omega, by decide⟩) (by exact hend2) ?_
        first | (with_reducible refine E_isN2 ?_; refine E_icmp_ge 355 d_TM_summedUp_48 rfl (nb_le (by omega) (by omega) fun h48 => ?_) (nb_nle (by omega) (by omega) fun h48 => ?_)) | refine E_icmp_ge 355 d_TM_summedUp_48 rfl (fun h48 => ?_) (fun h48 => ?_)
        rotate_left
        · exfalso; omega
        first | refine E_aload_n d_TM_summedUp_355 rfl ?_ | refine E_aload_nN d_TM_summedUp_355 rfl ?_
        refine E_getR (q := 7) d_TM_summedUp_356 gf_TM_35 (by exact ⟨by decide, rfl⟩) (by exact hR _ rfl) ?_
        refine E_iconst (v := nI 0) d_TM_summedUp_359 rfl ?_
        refine E_lald d_TM_summedUp_360 (by exact ⟨by decide, rfl⟩) (by exact ⟨by with_reducible rfl, by omega, by decide⟩) (by exact hz) ?_
        refine E_retL d_TM_summedUp_361 rfl ?_
        exact ⟨by rw [hz2], hX⟩
  | cons e l ih =>
    intro j S hj hl hw h1 h2 hv M hM hX hV hB
    have hR := hM.R
    have hg3 : mI M 3 = mI M0 3 := (hX.2 3 (by unfold SZ; decide)).1
    have hg6 : ∀ i, i < 8 → mI M 6 i = iI (nm i) := hnm.sx hX
    obtain ⟨o, v⟩ := e
    rw [List.length_cons] at hj
    have he : code.getD j (0, 0) = (o, v) := (hl 0 (by simp)).symm
    have hcj := hcode j (by omega)
    rw [he] at hcj
    have hop : mI M 3 (681 * t + 73 + 2 * (i0 + j)) = nI o := by rw [hg3, show 681 * t + 73 + 2 * (i0 + j) = 681 * t + 73 + 2 * i0 + 2 * j by omega]; exact hcj.1
    have hov : mI M 3 (681 * t + 73 + 2 * (i0 + j) + 1) = nI v := by rw [hg3, show 681 * t + 73 + 2 * (i0 + j) + 1 = 681 * t + 73 + 2 * i0 + 2 * j + 1 by omega]; exact hcj.2
    have hend2 : mI M 3 (681 * t + 1 + 3 * k + 2) = nI (i0 + code.length) := by rw [hg3]; exact hend
    have up : ∀ (S' : List Int × List Bool) (M' : Mem) (x8 x9 : Option Value), S' = evR1 nm c.now o v S → WC l S'.1.length S'.2.length → S'.1.length ≤ j + 1 → S'.2.length ≤ j + 1 → HM c M' → Sx SZ M0 M' → VR S'.1 M' → BR S'.2 M' →
        E 2 0 0 Y_TM_summedUp 349 [some (.ref 0), some (.int (nI t)), some (.int (nI k)), some (.int (nI (681 * t + 1 + 3 * k))), some (.int (nI (681 * t + 73))), some (.int (nI S'.1.length)), some (.int (nI S'.2.length)), some (.int (nI (i0 + j))), x8, x9] [] GM M' (QL GM fun r M' => r = iL R ∧ Sx SZ M0 M') := by
      intro S' M' x8 x9 hS hw' l1 l2 hM' hX' hV' hB'
      have hi := ih (j + 1) S' (by omega) (fun n hn => by have := hl (n + 1) (by simp; omega); rw [show j + (n + 1) = j + 1 + n by omega] at this; exact this) hw' l1 l2 (by rw [hS]; exact hv) M' hM' hX' hV' hB'
      first | (with_reducible refine E_isL7 ?_; refine E_iincN7 (m := 1) d_TM_summedUp_349 rfl rfl ?_) | refine E_iinc_7 d_TM_summedUp_349 rfl rfl ?_
      refine E_goto 38 d_TM_summedUp_352 rfl ?_
      refine E_wk ?_ hi; exact ⟨Or.inl rfl, Or.inl rfl, Or.inl rfl, Or.inl rfl, Or.inl rfl, Or.inl rfl, Or.inl rfl, Or.inl rfl, Or.inr rfl, Or.inr rfl, trivial⟩
    have pL : ∀ (i : Nat) (x : Int64), HM c (wL M 7 i x) ∧ Sx SZ M0 (wL M 7 i x) := fun i x => ⟨hM.sx (Sx.rf.wL (by unfold SQ; decide)), hX.wL (Or.inl rfl)⟩
    have pI8 : ∀ (i : Nat) (x : Int32), HM c (wI M 8 i x) ∧ Sx SZ M0 (wI M 8 i x) := fun i x => ⟨hM.sx (Sx.rf.wI (by unfold SQ; decide)), hX.wI (Or.inr rfl)⟩
    rw [WC] at hw
    by_cases c1 : o ≤ 1
    · rw [if_pos c1] at hw
      obtain ⟨w1, w2, w3⟩ := hw
      have hvz : zM (v : Int) := ⟨by omega, by omega⟩
      by_cases c0 : o = 0
      · have hS : ((v : Int) :: S.1, S.2) = evR1 nm c.now o v S := by rw [c0]; rfl
        have hu := up ((v : Int) :: S.1, S.2) (wL M 7 S.1.length (iL (v : Int))) (some (.int (nI o))) (some (.int (nI v))) hS w3 (by simp; omega) (by simp; omega) (pL _ _).1 (pL _ _).2 (hV.push hvz) hB.upL
        refine E_iload d_TM_summedUp_38 rfl ?_
        first | refine E_aload_n d_TM_summedUp_40 rfl ?_ | refine E_aload_nN d_TM_summedUp_40 rfl ?_
        refine E_getR (q := 3) d_TM_summedUp_41 gf_TM_16 (by exact ⟨by decide, rfl⟩) (by exact hR _ rfl) ?_
        refine E_iload_n d_TM_summedUp_44 rfl ?_
        refine E_iconst (v := nI 2) d_TM_summedUp_45 rfl ?_
        first | (with_reducible refine E_isN2 ?_; refine E_iaddN d_TM_summedUp_46 ?_) | refine E_iadd d_TM_summedUp_46 ?_
        refine E_iald d_TM_summedUp_47 (by exact ⟨by decide, rfl⟩) (by exact ⟨by with_reducible rfl, by omega, by decide⟩) (by exact hend2) ?_
        first | (with_reducible refine E_isN2 ?_; refine E_icmp_ge 355 d_TM_summedUp_48 rfl (nb_le (by omega) (by omega) fun h48 => ?_) (nb_nle (by omega) (by omega) fun h48 => ?_)) | refine E_icmp_ge 355 d_TM_summedUp_48 rfl (fun h48 => ?_) (fun h48 => ?_)
        · exfalso; omega
        first | refine E_aload_n d_TM_summedUp_51 rfl ?_ | refine E_aload_nN d_TM_summedUp_51 rfl ?_
        refine E_getR (q := 3) d_TM_summedUp_52 gf_TM_16 (by exact ⟨by decide, rfl⟩) (by exact hR _ rfl) ?_
        refine E_iload d_TM_summedUp_55 rfl ?_
        refine E_iconst (v := nI 2) d_TM_summedUp_57 rfl ?_
        refine E_iload d_TM_summedUp_58 rfl ?_
        first | (with_reducible refine E_isN2 ?_; refine E_imulN d_TM_summedUp_60 ?_) | refine E_imul d_TM_summedUp_60 ?_
        first | (with_reducible refine E_isN2 ?_; refine E_iaddN d_TM_summedUp_61 ?_) | refine E_iadd d_TM_summedUp_61 ?_
        refine E_iald d_TM_summedUp_62 (by exact ⟨by decide, rfl⟩) (by exact ⟨by with_reducible rfl, by omega, by decide⟩) (by first | exact hop | exact hov | rfl) ?_
        refine E_istore_8 d_TM_summedUp_63 rfl ?_
        first | refine E_aload_n d_TM_summedUp_65 rfl ?_ | refine E_aload_nN d_TM_summedUp_65 rfl ?_
        refine E_getR (q := 3) d_TM_summedUp_66 gf_TM_16 (by exact ⟨by decide, rfl⟩) (by exact hR _ rfl) ?_
        refine E_iload d_TM_summedUp_69 rfl ?_
        refine E_iconst (v := nI 2) d_TM_summedUp_71 rfl ?_
        refine E_iload d_TM_summedUp_72 rfl ?_
        first | (with_reducible refine E_isN2 ?_; refine E_imulN d_TM_summedUp_74 ?_) | refine E_imul d_TM_summedUp_74 ?_
        first | (with_reducible refine E_isN2 ?_; refine E_iaddN d_TM_summedUp_75 ?_) | refine E_iadd d_TM_summedUp_75 ?_
        refine E_iconst (v := nI 1) d_TM_summedUp_76 rfl ?_
        first | (with_reducible refine E_isN2 ?_; refine E_iaddN d_TM_summedUp_77 ?_) | refine E_iadd d_TM_summedUp_77 ?_
        refine E_iald d_TM_summedUp_78 (by exact ⟨by decide, rfl⟩) (by exact ⟨by with_reducible rfl, by omega, by decide⟩) (by first | exact hop | exact hov | rfl) ?_
        refine E_istore_9 d_TM_summedUp_79 rfl ?_
        refine E_iload d_TM_summedUp_81 rfl ?_
        refine E_iconst (v := nI 1) d_TM_summedUp_83 rfl ?_
        first | (with_reducible refine E_isN2 ?_; refine E_icmp_gt 119 d_TM_summedUp_84 rfl (nb_lt (by omega) (by omega) fun h84 => ?_) (nb_nlt (by omega) (by omega) fun h84 => ?_)) | refine E_icmp_gt 119 d_TM_summedUp_84 rfl (fun h84 => ?_) (fun h84 => ?_)
        · exfalso; omega
        first | refine E_aload_n d_TM_summedUp_87 rfl ?_ | refine E_aload_nN d_TM_summedUp_87 rfl ?_
        refine E_getR (q := 7) d_TM_summedUp_88 gf_TM_35 (by exact ⟨by decide, rfl⟩) (by exact hR _ rfl) ?_
        refine E_iload d_TM_summedUp_91 rfl ?_
        refine E_iload d_TM_summedUp_93 rfl ?_
        first | (with_reducible refine E_isP ?_; refine E_if_ne 104 d_TM_summedUp_95 rfl (pb_1 fun h95 => ?_) (pb_0 fun h95 => ?_)) | (with_reducible refine E_isN1 ?_; refine E_if_ne 104 d_TM_summedUp_95 rfl (nz_ne fun h95 => ?_) (nz_eq (by omega) fun h95 => ?_)) | refine E_if_ne 104 d_TM_summedUp_95 rfl (fun h95 => ?_) (fun h95 => ?_)
        · exfalso; exact h95 c0
        refine E_iload d_TM_summedUp_98 rfl ?_
        first | (with_reducible refine E_isN1 ?_; refine E_i2lN d_TM_summedUp_100 (by omega) ?_) | refine E_i2l d_TM_summedUp_100 ?_
        refine E_goto 112 d_TM_summedUp_101 rfl ?_
        refine E_last d_TM_summedUp_112 (by exact ⟨by decide, rfl⟩) (by exact ⟨by with_reducible rfl, by omega, by decide⟩) ?_
        first | (with_reducible refine E_isL5 ?_; refine E_iincN5 (m := 1) d_TM_summedUp_113 rfl rfl ?_) | refine E_iinc_5 d_TM_summedUp_113 rfl rfl ?_
        refine E_goto 349 d_TM_summedUp_116 rfl ?_
        rw [lN_iL]; exact hu
      · have c11 : o = 1 := by omega
        have hv8 := w2 c11
        have hS : (nm v :: S.1, S.2) = evR1 nm c.now o v S := by rw [c11]; rfl
        have hu := up (nm v :: S.1, S.2) (wL M 7 S.1.length (iL (nm v))) (some (.int (nI o))) (some (.int (nI v))) hS w3 (by simp; omega) (by simp; omega) (pL _ _).1 (pL _ _).2 (hV.push (hnz v hv8)) hB.upL
        refine E_iload d_TM_summedUp_38 rfl ?_
        first | refine E_aload_n d_TM_summedUp_40 rfl ?_ | refine E_aload_nN d_TM_summedUp_40 rfl ?_
        refine E_getR (q := 3) d_TM_summedUp_41 gf_TM_16 (by exact ⟨by decide, rfl⟩) (by exact hR _ rfl) ?_
        refine E_iload_n d_TM_summedUp_44 rfl ?_
        refine E_iconst (v := nI 2) d_TM_summedUp_45 rfl ?_
        first | (with_reducible refine E_isN2 ?_; refine E_iaddN d_TM_summedUp_46 ?_) | refine E_iadd d_TM_summedUp_46 ?_
        refine E_iald d_TM_summedUp_47 (by exact ⟨by decide, rfl⟩) (by exact ⟨by with_reducible rfl, by omega, by decide⟩) (by exact hend2) ?_
        first | (with_reducible refine E_isN2 ?_; refine E_icmp_ge 355 d_TM_summedUp_48 rfl (nb_le (by omega) (by omega) fun h48 => ?_) (nb_nle (by omega) (by omega) fun h48 => ?_)) | refine E_icmp_ge 355 d_TM_summedUp_48 rfl (fun h48 => ?_) (fun h48 => ?_)
        · exfalso; omega
        first | refine E_aload_n d_TM_summedUp_51 rfl ?_ | refine E_aload_nN d_TM_summedUp_51 rfl ?_
        refine E_getR (q := 3) d_TM_summedUp_52 gf_TM_16 (by exact ⟨by decide, rfl⟩) (by exact hR _ rfl) ?_
        refine E_iload d_TM_summedUp_55 rfl ?_
        refine E_iconst (v := nI 2) d_TM_summedUp_57 rfl ?_
        refine E_iload d_TM_summedUp_58 rfl ?_
        first | (with_reducible refine E_isN2 ?_; refine E_imulN d_TM_summedUp_60 ?_) | refine E_imul d_TM_summedUp_60 ?_
        first | (with_reducible refine E_isN2 ?_; refine E_iaddN d_TM_summedUp_61 ?_) | refine E_iadd d_TM_summedUp_61 ?_
        refine E_iald d_TM_summedUp_62 (by exact ⟨by decide, rfl⟩) (by exact ⟨by with_reducible rfl, by omega, by decide⟩) (by first | exact hop | exact hov | rfl) ?_
        refine E_istore_8 d_TM_summedUp_63 rfl ?_
        first | refine E_aload_n d_TM_summedUp_65 rfl ?_ | refine E_aload_nN d_TM_summedUp_65 rfl ?_
        refine E_getR (q := 3) d_TM_summedUp_66 gf_TM_16 (by exact ⟨by decide, rfl⟩) (by exact hR _ rfl) ?_
        refine E_iload d_TM_summedUp_69 rfl ?_
        refine E_iconst (v := nI 2) d_TM_summedUp_71 rfl ?_
        refine E_iload d_TM_summedUp_72 rfl ?_
        first | (with_reducible refine E_isN2 ?_; refine E_imulN d_TM_summedUp_74 ?_) | refine E_imul d_TM_summedUp_74 ?_
        first | (with_reducible refine E_isN2 ?_; refine E_iaddN d_TM_summedUp_75 ?_) | refine E_iadd d_TM_summedUp_75 ?_
        refine E_iconst (v := nI 1) d_TM_summedUp_76 rfl ?_
        first | (with_reducible refine E_isN2 ?_; refine E_iaddN d_TM_summedUp_77 ?_) | refine E_iadd d_TM_summedUp_77 ?_
        refine E_iald d_TM_summedUp_78 (by exact ⟨by decide, rfl⟩) (by exact ⟨by with_reducible rfl, by omega, by decide⟩) (by first | exact hop | exact hov | rfl) ?_
        refine E_istore_9 d_TM_summedUp_79 rfl ?_
        refine E_iload d_TM_summedUp_81 rfl ?_
        refine E_iconst (v := nI 1) d_TM_summedUp_83 rfl ?_
        first | (with_reducible refine E_isN2 ?_; refine E_icmp_gt 119 d_TM_summedUp_84 rfl (nb_lt (by omega) (by omega) fun h84 => ?_) (nb_nlt (by omega) (by omega) fun h84 => ?_)) | refine E_icmp_gt 119 d_TM_summedUp_84 rfl (fun h84 => ?_) (fun h84 => ?_)
        · exfalso; omega
        first | refine E_aload_n d_TM_summedUp_87 rfl ?_ | refine E_aload_nN d_TM_summedUp_87 rfl ?_
        refine E_getR (q := 7) d_TM_summedUp_88 gf_TM_35 (by exact ⟨by decide, rfl⟩) (by exact hR _ rfl) ?_
        refine E_iload d_TM_summedUp_91 rfl ?_
        refine E_iload d_TM_summedUp_93 rfl ?_
        first | (with_reducible refine E_isP ?_; refine E_if_ne 104 d_TM_summedUp_95 rfl (pb_1 fun h95 => ?_) (pb_0 fun h95 => ?_)) | (with_reducible refine E_isN1 ?_; refine E_if_ne 104 d_TM_summedUp_95 rfl (nz_ne fun h95 => ?_) (nz_eq (by omega) fun h95 => ?_)) | refine E_if_ne 104 d_TM_summedUp_95 rfl (fun h95 => ?_) (fun h95 => ?_)
        rotate_left
        · exfalso; exact c0 h95
        first | refine E_aload_n d_TM_summedUp_104 rfl ?_ | refine E_aload_nN d_TM_summedUp_104 rfl ?_
        refine E_getR (q := 6) d_TM_summedUp_105 gf_TM_32 (by exact ⟨by decide, rfl⟩) (by exact hR _ rfl) ?_
        refine E_iload d_TM_summedUp_108 rfl ?_
        refine E_iald d_TM_summedUp_110 (by exact ⟨by decide, rfl⟩) (by exact ⟨by with_reducible rfl, by omega, by decide⟩) (by exact hg6 v hv8) ?_
        first | (with_reducible refine E_isN1 ?_; refine E_i2lN d_TM_summedUp_111 (by omega) ?_) | refine E_i2l d_TM_summedUp_111 ?_
        refine E_last d_TM_summedUp_112 (by exact ⟨by decide, rfl⟩) (by exact ⟨by with_reducible rfl, by omega, by decide⟩) ?_
        first | (with_reducible refine E_isL5 ?_; refine E_iincN5 (m := 1) d_TM_summedUp_113 rfl rfl ?_) | refine E_iinc_5 d_TM_summedUp_113 rfl rfl ?_
        refine E_goto 349 d_TM_summedUp_116 rfl ?_
        rw [iI_l (hnz v hv8)]; exact hu
    · sorry
