theorem iI_l {z : Int} (h : zM z) : (iI z).toInt64 = iL z := by
  apply Int64.toInt_inj.mp
  rw [Int32.toInt_toInt64, iL_toInt h.b]
  exact Int32.toInt_ofInt_of_le (by rw [show (-2 ^ 31 : Int) = -2147483648 from by decide]; have := h.1; omega) (by rw [show (2 ^ 31 : Int) = 2147483648 from by decide]; have := h.2; omega)
theorem ev_0 (nm : Nat → Int) (m : Mo) (v : Nat) (S : List Int × List Bool) : evR1 nm m 0 v S = ((v : Int) :: S.1, S.2) := rfl
theorem ev_1 (nm : Nat → Int) (m : Mo) (v : Nat) (S : List Int × List Bool) : evR1 nm m 1 v S = (nm v :: S.1, S.2) := rfl
theorem ev_3 (nm : Nat → Int) (m : Mo) (v : Nat) (S : List Int × List Bool) : evR1 nm m 3 v S = ((if S.2.headD false = true then S.1.tail.headD 0 else S.1.headD 0) :: S.1.tail.tail, S.2.tail) := rfl
theorem ev_o (nm : Nat → Int) (m : Mo) {o : Nat} (v : Nat) (S : List Int × List Bool) (h1 : ¬ o ≤ 1) (h3 : ¬ o = 3) (h5 : o ≤ 5) : evR1 nm m o v S = (oneBy m o (S.1.headD 0) :: S.1.tail, S.2) := by rw [evR1, if_neg h1, if_neg h3, if_pos h5]
theorem ev_t (nm : Nat → Int) (m : Mo) {o : Nat} (v : Nat) (S : List Int × List Bool) (h5 : ¬ o ≤ 5) (h10 : o < 10) : evR1 nm m o v S = (twoBy o (S.1.tail.headD 0) (S.1.headD 0) :: S.1.tail.tail, S.2) := by rw [evR1, if_neg (by omega), if_neg (by omega), if_neg h5, if_pos h10]
theorem ev_a (nm : Nat → Int) (m : Mo) {o : Nat} (v : Nat) (S : List Int × List Bool) (h10 : ¬ o < 10) (h20 : o < 20) : evR1 nm m o v S = (S.1.tail.tail, askBy o (S.1.tail.headD 0) (S.1.headD 0) :: S.2) := by rw [evR1, if_neg (by omega), if_neg (by omega), if_neg (by omega), if_neg h10, if_pos h20]
theorem ev_n (nm : Nat → Int) (m : Mo) (v : Nat) (S : List Int × List Bool) : evR1 nm m 20 v S = (S.1, (!S.2.headD false) :: S.2.tail) := rfl
theorem ev_j (nm : Nat → Int) (m : Mo) {o : Nat} (v : Nat) (S : List Int × List Bool) (h20 : 20 < o) : evR1 nm m o v S = (S.1, (if o = 21 then (S.2.tail.headD false && S.2.headD false) else (S.2.tail.headD false || S.2.headD false)) :: S.2.tail.tail) := by rw [evR1, if_neg (by omega), if_neg (by omega), if_neg (by omega), if_neg (by omega), if_neg (by omega), if_neg (by omega)]
theorem lp_TM_summed {c : Cr} {M0 : Mem} {t k i0 : Nat} {nm : Nat → Int} {code : Cd} {R : Int} (ht : t < 4) (hk : k < 24) (hcode : RepCode code (mI M0 3) (681 * t + 73 + 2 * i0)) (hend : mI M0 3 (681 * t + 1 + 3 * k + 2) = nI (i0 + code.length)) (hi0 : i0 + code.length ≤ 304) (hnm : HNm nm M0) (hnz : ∀ i, i < 8 → zM (nm i)) :
    ∀ (l : Cd) (j : Nat) (S : List Int × List Bool), code.length = j + l.length → (∀ n, n < l.length → l.getD n (0, 0) = code.getD (j + n) (0, 0)) → WC l S.1.length S.2.length → S.1.length ≤ j → S.2.length ≤ j → (evR nm c.now l S).1.headD 0 = R →
    ∀ M, HM c M → Sx SZ M0 M → VR S.1 M → BR S.2 M →
    E 2 0 0 Y_TM_summedUp 38 [some (.ref 0), some (.int (nI t)), some (.int (nI k)), some (.int (nI (681 * t + 1 + 3 * k))), some (.int (nI (681 * t + 73))), some (.int (nI S.1.length)), some (.int (nI S.2.length)), some (.int (nI (i0 + j))), none, none] [] GM M (QL GM fun r M' => r = iL R ∧ zM R ∧ Sx SZ M0 M') := by
  intro l
  induction l with
  | nil =>
    intro j S hj hl hw h1 h2 hv M hM hX hV hB
    have hR := hM.R
    have hg3 : mI M 3 = mI M0 3 := (hX.2 3 (by unfold SZ; decide)).1
    obtain ⟨w1, w2⟩ := hw
    have hj2 : j = code.length := by simpa using hj.symm
    subst hj2
    obtain ⟨vs, bs⟩ := S
    cases vs with
    | nil => exact absurd w1 (by simp)
    | cons z vs =>
      cases vs with
      | cons z2 vs => exact absurd w1 (by simp)
      | nil =>
        have hz : mL M 7 0 = iL z := hV.1
        have hend2 : mI M 3 (681 * t + 1 + 3 * k + 2) = nI (i0 + code.length) := by rw [hg3]; exact hend
        have hz2 : z = R := hv
        refine E_iload d_TM_summedUp_38 rfl ?_
        first | refine E_aload_n d_TM_summedUp_40 rfl ?_ | refine E_aload_nN d_TM_summedUp_40 rfl ?_
        refine E_getR (q := 3) d_TM_summedUp_41 gf_TM_16 (by exact ⟨by decide, rfl⟩) (by exact hR _ rfl) ?_
        refine E_iload_n d_TM_summedUp_44 rfl ?_
        refine E_iconst (v := nI 2) d_TM_summedUp_45 rfl ?_
        first | (with_reducible refine E_isN2 ?_; refine E_iaddN d_TM_summedUp_46 ?_) | refine E_iadd d_TM_summedUp_46 ?_
        refine E_iald d_TM_summedUp_47 (by exact ⟨by decide, rfl⟩) (by exact ⟨by with_reducible rfl, by omega, by decide⟩) (by exact hend2) ?_
        first | (with_reducible refine E_isN2 ?_; refine E_icmp_ge 355 d_TM_summedUp_48 rfl (nb_le (by omega) (by omega) fun h48 => ?_) (nb_nle (by omega) (by omega) fun h48 => ?_)) | refine E_icmp_ge 355 d_TM_summedUp_48 rfl (fun h48 => ?_) (fun h48 => ?_)
        rotate_left
        · exfalso; omega
        first | refine E_aload_n d_TM_summedUp_355 rfl ?_ | refine E_aload_nN d_TM_summedUp_355 rfl ?_
        refine E_getR (q := 7) d_TM_summedUp_356 gf_TM_35 (by exact ⟨by decide, rfl⟩) (by exact hR _ rfl) ?_
        refine E_iconst (v := nI 0) d_TM_summedUp_359 rfl ?_
        refine E_lald d_TM_summedUp_360 (by exact ⟨by decide, rfl⟩) (by exact ⟨by with_reducible rfl, by omega, by decide⟩) (by exact hz) ?_
        refine E_retL d_TM_summedUp_361 rfl ?_
        exact ⟨by rw [hz2], by rw [← hz2]; exact hV.2.1, hX⟩
  | cons e l ih =>
    intro j S hj hl hw h1 h2 hv M hM hX hV hB
    have hR := hM.R
    have hg3 : mI M 3 = mI M0 3 := (hX.2 3 (by unfold SZ; decide)).1
    have hg6 : ∀ i, i < 8 → mI M 6 i = iI (nm i) := hnm.sx hX
    obtain ⟨o, v⟩ := e
    rw [List.length_cons] at hj
    have he : code.getD j (0, 0) = (o, v) := (hl 0 (by simp)).symm
    have hcj := hcode j (by omega)
    rw [he] at hcj
    have hop : mI M 3 (681 * t + 73 + 2 * (i0 + j)) = nI o := by rw [hg3, show 681 * t + 73 + 2 * (i0 + j) = 681 * t + 73 + 2 * i0 + 2 * j by omega]; exact hcj.1
    have hov : mI M 3 (681 * t + 73 + 2 * (i0 + j) + 1) = nI v := by rw [hg3, show 681 * t + 73 + 2 * (i0 + j) + 1 = 681 * t + 73 + 2 * i0 + 2 * j + 1 by omega]; exact hcj.2
    have hend2 : mI M 3 (681 * t + 1 + 3 * k + 2) = nI (i0 + code.length) := by rw [hg3]; exact hend
    have up : ∀ (S' : List Int × List Bool) (M' : Mem) (x8 x9 : Option Value), S' = evR1 nm c.now o v S → WC l S'.1.length S'.2.length → S'.1.length ≤ j + 1 → S'.2.length ≤ j + 1 → HM c M' → Sx SZ M0 M' → VR S'.1 M' → BR S'.2 M' →
        E 2 0 0 Y_TM_summedUp 349 [some (.ref 0), some (.int (nI t)), some (.int (nI k)), some (.int (nI (681 * t + 1 + 3 * k))), some (.int (nI (681 * t + 73))), some (.int (nI S'.1.length)), some (.int (nI S'.2.length)), some (.int (nI (i0 + j))), x8, x9] [] GM M' (QL GM fun r M' => r = iL R ∧ zM R ∧ Sx SZ M0 M') := by
      intro S' M' x8 x9 hS hw' l1 l2 hM' hX' hV' hB'
      have hi := ih (j + 1) S' (by omega) (fun n hn => by have := hl (n + 1) (by simp; omega); rw [show j + (n + 1) = j + 1 + n by omega] at this; exact this) hw' l1 l2 (by rw [hS]; exact hv) M' hM' hX' hV' hB'
      first | (with_reducible refine E_isL7 ?_; refine E_iincN7 (m := 1) d_TM_summedUp_349 rfl rfl ?_) | refine E_iinc_7 d_TM_summedUp_349 rfl rfl ?_
      refine E_goto 38 d_TM_summedUp_352 rfl ?_
      refine E_wk ?_ hi; exact ⟨Or.inl rfl, Or.inl rfl, Or.inl rfl, Or.inl rfl, Or.inl rfl, Or.inl rfl, Or.inl rfl, Or.inl rfl, Or.inr rfl, Or.inr rfl, trivial⟩
    have pL : ∀ (i : Nat) (x : Int64), HM c (wL M 7 i x) ∧ Sx SZ M0 (wL M 7 i x) := fun i x => ⟨hM.sx (Sx.rf.wL (by unfold SQ; decide)), hX.wL (Or.inl rfl)⟩
    have pI8 : ∀ (i : Nat) (x : Int32), HM c (wI M 8 i x) ∧ Sx SZ M0 (wI M 8 i x) := fun i x => ⟨hM.sx (Sx.rf.wI (by unfold SQ; decide)), hX.wI (Or.inr rfl)⟩
    rw [WC] at hw
    by_cases c1 : o ≤ 1
    · rw [if_pos c1] at hw
      obtain ⟨w1, w2, w3⟩ := hw
      have hvz : zM (v : Int) := ⟨by omega, by omega⟩
      by_cases c0 : o = 0
      · have hS : ((v : Int) :: S.1, S.2) = evR1 nm c.now o v S := by rw [c0]; rfl
        have hu := up ((v : Int) :: S.1, S.2) (wL M 7 S.1.length (iL (v : Int))) (some (.int (nI o))) (some (.int (nI v))) hS w3 (by simp; omega) (by simp; omega) (pL _ _).1 (pL _ _).2 (hV.push hvz) hB.upL
        refine E_iload d_TM_summedUp_38 rfl ?_
        first | refine E_aload_n d_TM_summedUp_40 rfl ?_ | refine E_aload_nN d_TM_summedUp_40 rfl ?_
        refine E_getR (q := 3) d_TM_summedUp_41 gf_TM_16 (by exact ⟨by decide, rfl⟩) (by exact hR _ rfl) ?_
        refine E_iload_n d_TM_summedUp_44 rfl ?_
        refine E_iconst (v := nI 2) d_TM_summedUp_45 rfl ?_
        first | (with_reducible refine E_isN2 ?_; refine E_iaddN d_TM_summedUp_46 ?_) | refine E_iadd d_TM_summedUp_46 ?_
        refine E_iald d_TM_summedUp_47 (by exact ⟨by decide, rfl⟩) (by exact ⟨by with_reducible rfl, by omega, by decide⟩) (by exact hend2) ?_
        first | (with_reducible refine E_isN2 ?_; refine E_icmp_ge 355 d_TM_summedUp_48 rfl (nb_le (by omega) (by omega) fun h48 => ?_) (nb_nle (by omega) (by omega) fun h48 => ?_)) | refine E_icmp_ge 355 d_TM_summedUp_48 rfl (fun h48 => ?_) (fun h48 => ?_)
        · exfalso; omega
        first | refine E_aload_n d_TM_summedUp_51 rfl ?_ | refine E_aload_nN d_TM_summedUp_51 rfl ?_
        refine E_getR (q := 3) d_TM_summedUp_52 gf_TM_16 (by exact ⟨by decide, rfl⟩) (by exact hR _ rfl) ?_
        refine E_iload d_TM_summedUp_55 rfl ?_
        refine E_iconst (v := nI 2) d_TM_summedUp_57 rfl ?_
        refine E_iload d_TM_summedUp_58 rfl ?_
        first | (with_reducible refine E_isN2 ?_; refine E_imulN d_TM_summedUp_60 ?_) | refine E_imul d_TM_summedUp_60 ?_
        first | (with_reducible refine E_isN2 ?_; refine E_iaddN d_TM_summedUp_61 ?_) | refine E_iadd d_TM_summedUp_61 ?_
        refine E_iald d_TM_summedUp_62 (by exact ⟨by decide, rfl⟩) (by exact ⟨by with_reducible rfl, by omega, by decide⟩) (by first | exact hop | exact hov | rfl) ?_
        refine E_istore_8 d_TM_summedUp_63 rfl ?_
        first | refine E_aload_n d_TM_summedUp_65 rfl ?_ | refine E_aload_nN d_TM_summedUp_65 rfl ?_
        refine E_getR (q := 3) d_TM_summedUp_66 gf_TM_16 (by exact ⟨by decide, rfl⟩) (by exact hR _ rfl) ?_
        refine E_iload d_TM_summedUp_69 rfl ?_
        refine E_iconst (v := nI 2) d_TM_summedUp_71 rfl ?_
        refine E_iload d_TM_summedUp_72 rfl ?_
        first | (with_reducible refine E_isN2 ?_; refine E_imulN d_TM_summedUp_74 ?_) | refine E_imul d_TM_summedUp_74 ?_
        first | (with_reducible refine E_isN2 ?_; refine E_iaddN d_TM_summedUp_75 ?_) | refine E_iadd d_TM_summedUp_75 ?_
        refine E_iconst (v := nI 1) d_TM_summedUp_76 rfl ?_
        first | (with_reducible refine E_isN2 ?_; refine E_iaddN d_TM_summedUp_77 ?_) | refine E_iadd d_TM_summedUp_77 ?_
        refine E_iald d_TM_summedUp_78 (by exact ⟨by decide, rfl⟩) (by exact ⟨by with_reducible rfl, by omega, by decide⟩) (by first | exact hop | exact hov | rfl) ?_
        refine E_istore_9 d_TM_summedUp_79 rfl ?_
        refine E_iload d_TM_summedUp_81 rfl ?_
        refine E_iconst (v := nI 1) d_TM_summedUp_83 rfl ?_
        first | (with_reducible refine E_isN2 ?_; refine E_icmp_gt 119 d_TM_summedUp_84 rfl (nb_lt (by omega) (by omega) fun h84 => ?_) (nb_nlt (by omega) (by omega) fun h84 => ?_)) | refine E_icmp_gt 119 d_TM_summedUp_84 rfl (fun h84 => ?_) (fun h84 => ?_)
        · exfalso; omega
        first | refine E_aload_n d_TM_summedUp_87 rfl ?_ | refine E_aload_nN d_TM_summedUp_87 rfl ?_
        refine E_getR (q := 7) d_TM_summedUp_88 gf_TM_35 (by exact ⟨by decide, rfl⟩) (by exact hR _ rfl) ?_
        refine E_iload d_TM_summedUp_91 rfl ?_
        refine E_iload d_TM_summedUp_93 rfl ?_
        first | (with_reducible refine E_isP ?_; refine E_if_ne 104 d_TM_summedUp_95 rfl (pb_1 fun h95 => ?_) (pb_0 fun h95 => ?_)) | (with_reducible refine E_isN1 ?_; refine E_if_ne 104 d_TM_summedUp_95 rfl (nz_ne fun h95 => ?_) (nz_eq (by omega) fun h95 => ?_)) | refine E_if_ne 104 d_TM_summedUp_95 rfl (fun h95 => ?_) (fun h95 => ?_)
        · exfalso; exact h95 c0
        refine E_iload d_TM_summedUp_98 rfl ?_
        first | (with_reducible refine E_isN1 ?_; refine E_i2lN d_TM_summedUp_100 (by omega) ?_) | refine E_i2l d_TM_summedUp_100 ?_
        refine E_goto 112 d_TM_summedUp_101 rfl ?_
        refine E_last d_TM_summedUp_112 (by exact ⟨by decide, rfl⟩) (by exact ⟨by with_reducible rfl, by omega, by decide⟩) ?_
        first | (with_reducible refine E_isL5 ?_; refine E_iincN5 (m := 1) d_TM_summedUp_113 rfl rfl ?_) | refine E_iinc_5 d_TM_summedUp_113 rfl rfl ?_
        refine E_goto 349 d_TM_summedUp_116 rfl ?_
        rw [lN_iL]; exact hu
      · have c11 : o = 1 := by omega
        have hv8 := w2 c11
        have hS : (nm v :: S.1, S.2) = evR1 nm c.now o v S := by rw [c11]; rfl
        have hu := up (nm v :: S.1, S.2) (wL M 7 S.1.length (iL (nm v))) (some (.int (nI o))) (some (.int (nI v))) hS w3 (by simp; omega) (by simp; omega) (pL _ _).1 (pL _ _).2 (hV.push (hnz v hv8)) hB.upL
        refine E_iload d_TM_summedUp_38 rfl ?_
        first | refine E_aload_n d_TM_summedUp_40 rfl ?_ | refine E_aload_nN d_TM_summedUp_40 rfl ?_
        refine E_getR (q := 3) d_TM_summedUp_41 gf_TM_16 (by exact ⟨by decide, rfl⟩) (by exact hR _ rfl) ?_
        refine E_iload_n d_TM_summedUp_44 rfl ?_
        refine E_iconst (v := nI 2) d_TM_summedUp_45 rfl ?_
        first | (with_reducible refine E_isN2 ?_; refine E_iaddN d_TM_summedUp_46 ?_) | refine E_iadd d_TM_summedUp_46 ?_
        refine E_iald d_TM_summedUp_47 (by exact ⟨by decide, rfl⟩) (by exact ⟨by with_reducible rfl, by omega, by decide⟩) (by exact hend2) ?_
        first | (with_reducible refine E_isN2 ?_; refine E_icmp_ge 355 d_TM_summedUp_48 rfl (nb_le (by omega) (by omega) fun h48 => ?_) (nb_nle (by omega) (by omega) fun h48 => ?_)) | refine E_icmp_ge 355 d_TM_summedUp_48 rfl (fun h48 => ?_) (fun h48 => ?_)
        · exfalso; omega
        first | refine E_aload_n d_TM_summedUp_51 rfl ?_ | refine E_aload_nN d_TM_summedUp_51 rfl ?_
        refine E_getR (q := 3) d_TM_summedUp_52 gf_TM_16 (by exact ⟨by decide, rfl⟩) (by exact hR _ rfl) ?_
        refine E_iload d_TM_summedUp_55 rfl ?_
        refine E_iconst (v := nI 2) d_TM_summedUp_57 rfl ?_
        refine E_iload d_TM_summedUp_58 rfl ?_
        first | (with_reducible refine E_isN2 ?_; refine E_imulN d_TM_summedUp_60 ?_) | refine E_imul d_TM_summedUp_60 ?_
        first | (with_reducible refine E_isN2 ?_; refine E_iaddN d_TM_summedUp_61 ?_) | refine E_iadd d_TM_summedUp_61 ?_
        refine E_iald d_TM_summedUp_62 (by exact ⟨by decide, rfl⟩) (by exact ⟨by with_reducible rfl, by omega, by decide⟩) (by first | exact hop | exact hov | rfl) ?_
        refine E_istore_8 d_TM_summedUp_63 rfl ?_
        first | refine E_aload_n d_TM_summedUp_65 rfl ?_ | refine E_aload_nN d_TM_summedUp_65 rfl ?_
        refine E_getR (q := 3) d_TM_summedUp_66 gf_TM_16 (by exact ⟨by decide, rfl⟩) (by exact hR _ rfl) ?_
        refine E_iload d_TM_summedUp_69 rfl ?_
        refine E_iconst (v := nI 2) d_TM_summedUp_71 rfl ?_
        refine E_iload d_TM_summedUp_72 rfl ?_
        first | (with_reducible refine E_isN2 ?_; refine E_imulN d_TM_summedUp_74 ?_) | refine E_imul d_TM_summedUp_74 ?_
        first | (with_reducible refine E_isN2 ?_; refine E_iaddN d_TM_summedUp_75 ?_) | refine E_iadd d_TM_summedUp_75 ?_
        refine E_iconst (v := nI 1) d_TM_summedUp_76 rfl ?_
        first | (with_reducible refine E_isN2 ?_; refine E_iaddN d_TM_summedUp_77 ?_) | refine E_iadd d_TM_summedUp_77 ?_
        refine E_iald d_TM_summedUp_78 (by exact ⟨by decide, rfl⟩) (by exact ⟨by with_reducible rfl, by omega, by decide⟩) (by first | exact hop | exact hov | rfl) ?_
        refine E_istore_9 d_TM_summedUp_79 rfl ?_
        refine E_iload d_TM_summedUp_81 rfl ?_
        refine E_iconst (v := nI 1) d_TM_summedUp_83 rfl ?_
        first | (with_reducible refine E_isN2 ?_; refine E_icmp_gt 119 d_TM_summedUp_84 rfl (nb_lt (by omega) (by omega) fun h84 => ?_) (nb_nlt (by omega) (by omega) fun h84 => ?_)) | refine E_icmp_gt 119 d_TM_summedUp_84 rfl (fun h84 => ?_) (fun h84 => ?_)
        · exfalso; omega
        first | refine E_aload_n d_TM_summedUp_87 rfl ?_ | refine E_aload_nN d_TM_summedUp_87 rfl ?_
        refine E_getR (q := 7) d_TM_summedUp_88 gf_TM_35 (by exact ⟨by decide, rfl⟩) (by exact hR _ rfl) ?_
        refine E_iload d_TM_summedUp_91 rfl ?_
        refine E_iload d_TM_summedUp_93 rfl ?_
        first | (with_reducible refine E_isP ?_; refine E_if_ne 104 d_TM_summedUp_95 rfl (pb_1 fun h95 => ?_) (pb_0 fun h95 => ?_)) | (with_reducible refine E_isN1 ?_; refine E_if_ne 104 d_TM_summedUp_95 rfl (nz_ne fun h95 => ?_) (nz_eq (by omega) fun h95 => ?_)) | refine E_if_ne 104 d_TM_summedUp_95 rfl (fun h95 => ?_) (fun h95 => ?_)
        rotate_left
        · exfalso; exact c0 h95
        first | refine E_aload_n d_TM_summedUp_104 rfl ?_ | refine E_aload_nN d_TM_summedUp_104 rfl ?_
        refine E_getR (q := 6) d_TM_summedUp_105 gf_TM_32 (by exact ⟨by decide, rfl⟩) (by exact hR _ rfl) ?_
        refine E_iload d_TM_summedUp_108 rfl ?_
        refine E_iald d_TM_summedUp_110 (by exact ⟨by decide, rfl⟩) (by exact ⟨by with_reducible rfl, by omega, by decide⟩) (by exact hg6 v hv8) ?_
        first | (with_reducible refine E_isN1 ?_; refine E_i2lN d_TM_summedUp_111 (by omega) ?_) | refine E_i2l d_TM_summedUp_111 ?_
        refine E_last d_TM_summedUp_112 (by exact ⟨by decide, rfl⟩) (by exact ⟨by with_reducible rfl, by omega, by decide⟩) ?_
        first | (with_reducible refine E_isL5 ?_; refine E_iincN5 (m := 1) d_TM_summedUp_113 rfl rfl ?_) | refine E_iinc_5 d_TM_summedUp_113 rfl rfl ?_
        refine E_goto 349 d_TM_summedUp_116 rfl ?_
        rw [iI_l (hnz v hv8)]; exact hu
    · rw [if_neg c1] at hw
      obtain ⟨vs, bs⟩ := S
      by_cases c3 : o = 3
      · rw [if_pos c3] at hw
        obtain ⟨w1, w2, w3⟩ := hw
        cases vs with
        | nil => exact absurd w1 (by simp)
        | cons z vs =>
        cases vs with
        | nil => exact absurd w1 (by simp)
        | cons y vs =>
        cases bs with
        | nil => exact absurd w2 (by simp)
        | cons b bs =>
        simp only [List.length_cons] at h1 h2
        simp only [List.length_cons, Nat.add_sub_cancel] at w3 ⊢
        have hz : mL M 7 (vs.length + 1) = iL z := hV.1
        have hb : mI M 8 bs.length = pI (b = true) := hB.1
        have hup1 := fun (hbt : b = true) => up (y :: vs, bs) M (some (.int (nI o))) (some (.int (nI v))) (by rw [c3, ev_3]; show _ = ((if b = true then y else z) :: vs, bs); rw [if_pos hbt]) w3 (by simp; omega) (by simp; omega) hM hX hV.2.2 hB.2
        have hup2 := fun (hbt : ¬ b = true) => up (z :: vs, bs) (wL M 7 vs.length (iL z)) (some (.int (nI o))) (some (.int (nI v))) (by rw [c3, ev_3]; show _ = ((if b = true then y else z) :: vs, bs); rw [if_neg hbt]) w3 (by simp; omega) (by simp; omega) (pL _ _).1 (pL _ _).2 (hV.2.2.2.2.push hV.2.1) hB.2.upL
        refine E_iload d_TM_summedUp_38 rfl ?_
        first | refine E_aload_n d_TM_summedUp_40 rfl ?_ | refine E_aload_nN d_TM_summedUp_40 rfl ?_
        refine E_getR (q := 3) d_TM_summedUp_41 gf_TM_16 (by exact ⟨by decide, rfl⟩) (by exact hR _ rfl) ?_
        refine E_iload_n d_TM_summedUp_44 rfl ?_
        refine E_iconst (v := nI 2) d_TM_summedUp_45 rfl ?_
        first | (with_reducible refine E_isN2 ?_; refine E_iaddN d_TM_summedUp_46 ?_) | refine E_iadd d_TM_summedUp_46 ?_
        refine E_iald d_TM_summedUp_47 (by exact ⟨by decide, rfl⟩) (by exact ⟨by with_reducible rfl, by omega, by decide⟩) (by exact hend2) ?_
        first | (with_reducible refine E_isN2 ?_; refine E_icmp_ge 355 d_TM_summedUp_48 rfl (nb_le (by omega) (by omega) fun h48 => ?_) (nb_nle (by omega) (by omega) fun h48 => ?_)) | refine E_icmp_ge 355 d_TM_summedUp_48 rfl (fun h48 => ?_) (fun h48 => ?_)
        · exfalso; omega
        first | refine E_aload_n d_TM_summedUp_51 rfl ?_ | refine E_aload_nN d_TM_summedUp_51 rfl ?_
        refine E_getR (q := 3) d_TM_summedUp_52 gf_TM_16 (by exact ⟨by decide, rfl⟩) (by exact hR _ rfl) ?_
        refine E_iload d_TM_summedUp_55 rfl ?_
        refine E_iconst (v := nI 2) d_TM_summedUp_57 rfl ?_
        refine E_iload d_TM_summedUp_58 rfl ?_
        first | (with_reducible refine E_isN2 ?_; refine E_imulN d_TM_summedUp_60 ?_) | refine E_imul d_TM_summedUp_60 ?_
        first | (with_reducible refine E_isN2 ?_; refine E_iaddN d_TM_summedUp_61 ?_) | refine E_iadd d_TM_summedUp_61 ?_
        refine E_iald d_TM_summedUp_62 (by exact ⟨by decide, rfl⟩) (by exact ⟨by with_reducible rfl, by omega, by decide⟩) (by first | exact hop | exact hov | rfl) ?_
        refine E_istore_8 d_TM_summedUp_63 rfl ?_
        first | refine E_aload_n d_TM_summedUp_65 rfl ?_ | refine E_aload_nN d_TM_summedUp_65 rfl ?_
        refine E_getR (q := 3) d_TM_summedUp_66 gf_TM_16 (by exact ⟨by decide, rfl⟩) (by exact hR _ rfl) ?_
        refine E_iload d_TM_summedUp_69 rfl ?_
        refine E_iconst (v := nI 2) d_TM_summedUp_71 rfl ?_
        refine E_iload d_TM_summedUp_72 rfl ?_
        first | (with_reducible refine E_isN2 ?_; refine E_imulN d_TM_summedUp_74 ?_) | refine E_imul d_TM_summedUp_74 ?_
        first | (with_reducible refine E_isN2 ?_; refine E_iaddN d_TM_summedUp_75 ?_) | refine E_iadd d_TM_summedUp_75 ?_
        refine E_iconst (v := nI 1) d_TM_summedUp_76 rfl ?_
        first | (with_reducible refine E_isN2 ?_; refine E_iaddN d_TM_summedUp_77 ?_) | refine E_iadd d_TM_summedUp_77 ?_
        refine E_iald d_TM_summedUp_78 (by exact ⟨by decide, rfl⟩) (by exact ⟨by with_reducible rfl, by omega, by decide⟩) (by first | exact hop | exact hov | rfl) ?_
        refine E_istore_9 d_TM_summedUp_79 rfl ?_
        refine E_iload d_TM_summedUp_81 rfl ?_
        refine E_iconst (v := nI 1) d_TM_summedUp_83 rfl ?_
        first | (with_reducible refine E_isN2 ?_; refine E_icmp_gt 119 d_TM_summedUp_84 rfl (nb_lt (by omega) (by omega) fun h84 => ?_) (nb_nlt (by omega) (by omega) fun h84 => ?_)) | refine E_icmp_gt 119 d_TM_summedUp_84 rfl (fun h84 => ?_) (fun h84 => ?_)
        rotate_left
        · exfalso; omega
        refine E_iload d_TM_summedUp_119 rfl ?_
        refine E_iconst (v := nI 3) d_TM_summedUp_121 rfl ?_
        first | (with_reducible refine E_isN2 ?_; refine E_icmp_ne 160 d_TM_summedUp_122 rfl (nb_ne fun h122 => ?_) (nb_eq (by omega) (by omega) fun h122 => ?_)) | refine E_icmp_ne 160 d_TM_summedUp_122 rfl (fun h122 => ?_) (fun h122 => ?_)
        · exfalso; omega
        first | (with_reducible refine E_isL5 ?_; refine E_iincD5 (m := 1) d_TM_summedUp_125 (by decide) (by omega) rfl ?_) | refine E_iinc_5 d_TM_summedUp_125 rfl rfl ?_
        first | (with_reducible refine E_isL6 ?_; refine E_iincD6 (m := 1) d_TM_summedUp_128 (by decide) (by omega) rfl ?_) | refine E_iinc_6 d_TM_summedUp_128 rfl rfl ?_
        first | refine E_aload_n d_TM_summedUp_131 rfl ?_ | refine E_aload_nN d_TM_summedUp_131 rfl ?_
        refine E_getR (q := 8) d_TM_summedUp_132 gf_TM_39 (by exact ⟨by decide, rfl⟩) (by exact hR _ rfl) ?_
        refine E_iload d_TM_summedUp_135 rfl ?_
        refine E_zald d_TM_summedUp_137 (by exact ⟨by decide, rfl⟩) (by exact ⟨by with_reducible rfl, by omega, by decide⟩) (by exact hb) ?_
        first | (with_reducible refine E_isP ?_; refine E_if_ne 349 d_TM_summedUp_138 rfl (pb_1 fun h138 => ?_) (pb_0 fun h138 => ?_)) | (with_reducible refine E_isN1 ?_; refine E_if_ne 349 d_TM_summedUp_138 rfl (nz_ne fun h138 => ?_) (nz_eq (by omega) fun h138 => ?_)) | refine E_if_ne 349 d_TM_summedUp_138 rfl (fun h138 => ?_) (fun h138 => ?_)
        · first | exact hup1 h138 | exact hup2 h138
        · first | refine E_aload_n d_TM_summedUp_141 rfl ?_ | refine E_aload_nN d_TM_summedUp_141 rfl ?_
          refine E_getR (q := 7) d_TM_summedUp_142 gf_TM_35 (by exact ⟨by decide, rfl⟩) (by exact hR _ rfl) ?_
          refine E_iload d_TM_summedUp_145 rfl ?_
          refine E_iconst (v := nI 1) d_TM_summedUp_147 rfl ?_
          first | (with_reducible refine E_isN2 ?_; refine E_isubN d_TM_summedUp_148 (by omega) ?_) | refine E_isub d_TM_summedUp_148 ?_
          first | refine E_aload_n d_TM_summedUp_149 rfl ?_ | refine E_aload_nN d_TM_summedUp_149 rfl ?_
          refine E_getR (q := 7) d_TM_summedUp_150 gf_TM_35 (by exact ⟨by decide, rfl⟩) (by exact hR _ rfl) ?_
          refine E_iload d_TM_summedUp_153 rfl ?_
          refine E_lald d_TM_summedUp_155 (by exact ⟨by decide, rfl⟩) (by exact ⟨by with_reducible rfl, by omega, by decide⟩) (by exact hz) ?_
          refine E_last d_TM_summedUp_156 (by exact ⟨by decide, rfl⟩) (by exact ⟨by with_reducible rfl, by omega, by decide⟩) ?_
          refine E_goto 349 d_TM_summedUp_157 rfl ?_
          first | exact hup1 h138 | exact hup2 h138
      · rw [if_neg c3] at hw
        by_cases c5 : o ≤ 5
        · rw [if_pos c5] at hw
          obtain ⟨w1, w3⟩ := hw
          cases vs with
          | nil => exact absurd w1 (by simp)
          | cons z vs =>
          simp only [List.length_cons] at h1
          simp only [List.length_cons] at w3 ⊢
          have hz : mL M 7 vs.length = iL z := hV.1
          have hu := up (oneBy c.now o z :: vs, bs) (wL M 7 vs.length (iL (oneBy c.now o z))) (some (.int (nI o))) (some (.int (nI v))) (by rw [ev_o nm c.now v _ c1 c3 c5]; rfl) w3 (by simp; omega) (Nat.le_succ_of_le h2) (pL _ _).1 (pL _ _).2 (hV.2.2.push (oneBy_zM hM.w hV.2.1)) hB.upL
          refine E_iload d_TM_summedUp_38 rfl ?_
          first | refine E_aload_n d_TM_summedUp_40 rfl ?_ | refine E_aload_nN d_TM_summedUp_40 rfl ?_
          refine E_getR (q := 3) d_TM_summedUp_41 gf_TM_16 (by exact ⟨by decide, rfl⟩) (by exact hR _ rfl) ?_
          refine E_iload_n d_TM_summedUp_44 rfl ?_
          refine E_iconst (v := nI 2) d_TM_summedUp_45 rfl ?_
          first | (with_reducible refine E_isN2 ?_; refine E_iaddN d_TM_summedUp_46 ?_) | refine E_iadd d_TM_summedUp_46 ?_
          refine E_iald d_TM_summedUp_47 (by exact ⟨by decide, rfl⟩) (by exact ⟨by with_reducible rfl, by omega, by decide⟩) (by exact hend2) ?_
          first | (with_reducible refine E_isN2 ?_; refine E_icmp_ge 355 d_TM_summedUp_48 rfl (nb_le (by omega) (by omega) fun h48 => ?_) (nb_nle (by omega) (by omega) fun h48 => ?_)) | refine E_icmp_ge 355 d_TM_summedUp_48 rfl (fun h48 => ?_) (fun h48 => ?_)
          · exfalso; omega
          first | refine E_aload_n d_TM_summedUp_51 rfl ?_ | refine E_aload_nN d_TM_summedUp_51 rfl ?_
          refine E_getR (q := 3) d_TM_summedUp_52 gf_TM_16 (by exact ⟨by decide, rfl⟩) (by exact hR _ rfl) ?_
          refine E_iload d_TM_summedUp_55 rfl ?_
          refine E_iconst (v := nI 2) d_TM_summedUp_57 rfl ?_
          refine E_iload d_TM_summedUp_58 rfl ?_
          first | (with_reducible refine E_isN2 ?_; refine E_imulN d_TM_summedUp_60 ?_) | refine E_imul d_TM_summedUp_60 ?_
          first | (with_reducible refine E_isN2 ?_; refine E_iaddN d_TM_summedUp_61 ?_) | refine E_iadd d_TM_summedUp_61 ?_
          refine E_iald d_TM_summedUp_62 (by exact ⟨by decide, rfl⟩) (by exact ⟨by with_reducible rfl, by omega, by decide⟩) (by first | exact hop | exact hov | rfl) ?_
          refine E_istore_8 d_TM_summedUp_63 rfl ?_
          first | refine E_aload_n d_TM_summedUp_65 rfl ?_ | refine E_aload_nN d_TM_summedUp_65 rfl ?_
          refine E_getR (q := 3) d_TM_summedUp_66 gf_TM_16 (by exact ⟨by decide, rfl⟩) (by exact hR _ rfl) ?_
          refine E_iload d_TM_summedUp_69 rfl ?_
          refine E_iconst (v := nI 2) d_TM_summedUp_71 rfl ?_
          refine E_iload d_TM_summedUp_72 rfl ?_
          first | (with_reducible refine E_isN2 ?_; refine E_imulN d_TM_summedUp_74 ?_) | refine E_imul d_TM_summedUp_74 ?_
          first | (with_reducible refine E_isN2 ?_; refine E_iaddN d_TM_summedUp_75 ?_) | refine E_iadd d_TM_summedUp_75 ?_
          refine E_iconst (v := nI 1) d_TM_summedUp_76 rfl ?_
          first | (with_reducible refine E_isN2 ?_; refine E_iaddN d_TM_summedUp_77 ?_) | refine E_iadd d_TM_summedUp_77 ?_
          refine E_iald d_TM_summedUp_78 (by exact ⟨by decide, rfl⟩) (by exact ⟨by with_reducible rfl, by omega, by decide⟩) (by first | exact hop | exact hov | rfl) ?_
          refine E_istore_9 d_TM_summedUp_79 rfl ?_
          refine E_iload d_TM_summedUp_81 rfl ?_
          refine E_iconst (v := nI 1) d_TM_summedUp_83 rfl ?_
          first | (with_reducible refine E_isN2 ?_; refine E_icmp_gt 119 d_TM_summedUp_84 rfl (nb_lt (by omega) (by omega) fun h84 => ?_) (nb_nlt (by omega) (by omega) fun h84 => ?_)) | refine E_icmp_gt 119 d_TM_summedUp_84 rfl (fun h84 => ?_) (fun h84 => ?_)
          rotate_left
          · exfalso; omega
          refine E_iload d_TM_summedUp_119 rfl ?_
          refine E_iconst (v := nI 3) d_TM_summedUp_121 rfl ?_
          first | (with_reducible refine E_isN2 ?_; refine E_icmp_ne 160 d_TM_summedUp_122 rfl (nb_ne fun h122 => ?_) (nb_eq (by omega) (by omega) fun h122 => ?_)) | refine E_icmp_ne 160 d_TM_summedUp_122 rfl (fun h122 => ?_) (fun h122 => ?_)
          rotate_left
          · exfalso; omega
          refine E_iload d_TM_summedUp_160 rfl ?_
          refine E_iconst (v := nI 5) d_TM_summedUp_162 rfl ?_
          first | (with_reducible refine E_isN2 ?_; refine E_icmp_gt 193 d_TM_summedUp_163 rfl (nb_lt (by omega) (by omega) fun h163 => ?_) (nb_nlt (by omega) (by omega) fun h163 => ?_)) | refine E_icmp_gt 193 d_TM_summedUp_163 rfl (fun h163 => ?_) (fun h163 => ?_)
          · exfalso; omega
          first | refine E_aload_n d_TM_summedUp_166 rfl ?_ | refine E_aload_nN d_TM_summedUp_166 rfl ?_
          refine E_getR (q := 7) d_TM_summedUp_167 gf_TM_35 (by exact ⟨by decide, rfl⟩) (by exact hR _ rfl) ?_
          refine E_iload d_TM_summedUp_170 rfl ?_
          refine E_iconst (v := nI 1) d_TM_summedUp_172 rfl ?_
          first | (with_reducible refine E_isN2 ?_; refine E_isubN d_TM_summedUp_173 (by omega) ?_) | refine E_isub d_TM_summedUp_173 ?_
          first | refine E_aload_n d_TM_summedUp_174 rfl ?_ | refine E_aload_nN d_TM_summedUp_174 rfl ?_
          refine E_iload d_TM_summedUp_175 rfl ?_
          first | refine E_aload_n d_TM_summedUp_177 rfl ?_ | refine E_aload_nN d_TM_summedUp_177 rfl ?_
          refine E_getR (q := 7) d_TM_summedUp_178 gf_TM_35 (by exact ⟨by decide, rfl⟩) (by exact hR _ rfl) ?_
          refine E_iload d_TM_summedUp_181 rfl ?_
          refine E_iconst (v := nI 1) d_TM_summedUp_183 rfl ?_
          first | (with_reducible refine E_isN2 ?_; refine E_isubN d_TM_summedUp_184 (by omega) ?_) | refine E_isub d_TM_summedUp_184 ?_
          refine E_lald d_TM_summedUp_185 (by exact ⟨by decide, rfl⟩) (by exact ⟨by with_reducible rfl, by omega, by decide⟩) (by exact hz) ?_
          refine E_V2 (sp_TM_ofOne hM (by omega) hV.2.1.b) d_TM_summedUp_186 ml_TM_251 cb_TM_ofOne cv_TM_ofOne (by exact ⟨by decide, rfl⟩) ⟨by decide, rfl⟩ ⟨by decide, by decide⟩ rfl (Nat.le_of_ble_eq_true rfl) (Nat.le_of_ble_eq_true rfl) (kL fun r1 M1 hc => ?_)
          obtain ⟨rfl, rfl⟩ := hc
          refine E_last d_TM_summedUp_189 (by exact ⟨by decide, rfl⟩) (by exact ⟨by with_reducible rfl, by omega, by decide⟩) ?_
          refine E_goto 349 d_TM_summedUp_190 rfl ?_
          exact hu
        · rw [if_neg c5] at hw
          by_cases c10 : o < 10
          · rw [if_pos c10] at hw
            obtain ⟨w1, w3⟩ := hw
            cases vs with
            | nil => exact absurd w1 (by simp)
            | cons y vs =>
            cases vs with
            | nil => exact absurd w1 (by simp)
            | cons x vs =>
            simp only [List.length_cons] at h1
            simp only [List.length_cons, Nat.add_sub_cancel] at w3 ⊢
            have hy : mL M 7 (vs.length + 1) = iL y := hV.1
            have hx : mL M 7 vs.length = iL x := hV.2.2.1
            have hu := up (twoBy o x y :: vs, bs) (wL M 7 vs.length (iL (twoBy o x y))) (some (.int (nI o))) (some (.int (nI v))) (by rw [ev_t nm c.now v _ c5 c10]; rfl) w3 (by simp; omega) (Nat.le_succ_of_le h2) (pL _ _).1 (pL _ _).2 (hV.2.2.2.2.push (twoBy_zM o x y)) hB.upL
            refine E_iload d_TM_summedUp_38 rfl ?_
            first | refine E_aload_n d_TM_summedUp_40 rfl ?_ | refine E_aload_nN d_TM_summedUp_40 rfl ?_
            refine E_getR (q := 3) d_TM_summedUp_41 gf_TM_16 (by exact ⟨by decide, rfl⟩) (by exact hR _ rfl) ?_
            refine E_iload_n d_TM_summedUp_44 rfl ?_
            refine E_iconst (v := nI 2) d_TM_summedUp_45 rfl ?_
            first | (with_reducible refine E_isN2 ?_; refine E_iaddN d_TM_summedUp_46 ?_) | refine E_iadd d_TM_summedUp_46 ?_
            refine E_iald d_TM_summedUp_47 (by exact ⟨by decide, rfl⟩) (by exact ⟨by with_reducible rfl, by omega, by decide⟩) (by exact hend2) ?_
            first | (with_reducible refine E_isN2 ?_; refine E_icmp_ge 355 d_TM_summedUp_48 rfl (nb_le (by omega) (by omega) fun h48 => ?_) (nb_nle (by omega) (by omega) fun h48 => ?_)) | refine E_icmp_ge 355 d_TM_summedUp_48 rfl (fun h48 => ?_) (fun h48 => ?_)
            · exfalso; omega
            first | refine E_aload_n d_TM_summedUp_51 rfl ?_ | refine E_aload_nN d_TM_summedUp_51 rfl ?_
            refine E_getR (q := 3) d_TM_summedUp_52 gf_TM_16 (by exact ⟨by decide, rfl⟩) (by exact hR _ rfl) ?_
            refine E_iload d_TM_summedUp_55 rfl ?_
            refine E_iconst (v := nI 2) d_TM_summedUp_57 rfl ?_
            refine E_iload d_TM_summedUp_58 rfl ?_
            first | (with_reducible refine E_isN2 ?_; refine E_imulN d_TM_summedUp_60 ?_) | refine E_imul d_TM_summedUp_60 ?_
            first | (with_reducible refine E_isN2 ?_; refine E_iaddN d_TM_summedUp_61 ?_) | refine E_iadd d_TM_summedUp_61 ?_
            refine E_iald d_TM_summedUp_62 (by exact ⟨by decide, rfl⟩) (by exact ⟨by with_reducible rfl, by omega, by decide⟩) (by first | exact hop | exact hov | rfl) ?_
            refine E_istore_8 d_TM_summedUp_63 rfl ?_
            first | refine E_aload_n d_TM_summedUp_65 rfl ?_ | refine E_aload_nN d_TM_summedUp_65 rfl ?_
            refine E_getR (q := 3) d_TM_summedUp_66 gf_TM_16 (by exact ⟨by decide, rfl⟩) (by exact hR _ rfl) ?_
            refine E_iload d_TM_summedUp_69 rfl ?_
            refine E_iconst (v := nI 2) d_TM_summedUp_71 rfl ?_
            refine E_iload d_TM_summedUp_72 rfl ?_
            first | (with_reducible refine E_isN2 ?_; refine E_imulN d_TM_summedUp_74 ?_) | refine E_imul d_TM_summedUp_74 ?_
            first | (with_reducible refine E_isN2 ?_; refine E_iaddN d_TM_summedUp_75 ?_) | refine E_iadd d_TM_summedUp_75 ?_
            refine E_iconst (v := nI 1) d_TM_summedUp_76 rfl ?_
            first | (with_reducible refine E_isN2 ?_; refine E_iaddN d_TM_summedUp_77 ?_) | refine E_iadd d_TM_summedUp_77 ?_
            refine E_iald d_TM_summedUp_78 (by exact ⟨by decide, rfl⟩) (by exact ⟨by with_reducible rfl, by omega, by decide⟩) (by first | exact hop | exact hov | rfl) ?_
            refine E_istore_9 d_TM_summedUp_79 rfl ?_
            refine E_iload d_TM_summedUp_81 rfl ?_
            refine E_iconst (v := nI 1) d_TM_summedUp_83 rfl ?_
            first | (with_reducible refine E_isN2 ?_; refine E_icmp_gt 119 d_TM_summedUp_84 rfl (nb_lt (by omega) (by omega) fun h84 => ?_) (nb_nlt (by omega) (by omega) fun h84 => ?_)) | refine E_icmp_gt 119 d_TM_summedUp_84 rfl (fun h84 => ?_) (fun h84 => ?_)
            rotate_left
            · exfalso; omega
            refine E_iload d_TM_summedUp_119 rfl ?_
            refine E_iconst (v := nI 3) d_TM_summedUp_121 rfl ?_
            first | (with_reducible refine E_isN2 ?_; refine E_icmp_ne 160 d_TM_summedUp_122 rfl (nb_ne fun h122 => ?_) (nb_eq (by omega) (by omega) fun h122 => ?_)) | refine E_icmp_ne 160 d_TM_summedUp_122 rfl (fun h122 => ?_) (fun h122 => ?_)
            rotate_left
            · exfalso; omega
            refine E_iload d_TM_summedUp_160 rfl ?_
            refine E_iconst (v := nI 5) d_TM_summedUp_162 rfl ?_
            first | (with_reducible refine E_isN2 ?_; refine E_icmp_gt 193 d_TM_summedUp_163 rfl (nb_lt (by omega) (by omega) fun h163 => ?_) (nb_nlt (by omega) (by omega) fun h163 => ?_)) | refine E_icmp_gt 193 d_TM_summedUp_163 rfl (fun h163 => ?_) (fun h163 => ?_)
            rotate_left
            · exfalso; omega
            refine E_iload d_TM_summedUp_193 rfl ?_
            refine E_bipush (v := nI 10) d_TM_summedUp_195 (by decide) ?_
            first | (with_reducible refine E_isN2 ?_; refine E_icmp_ge 236 d_TM_summedUp_197 rfl (nb_le (by omega) (by omega) fun h197 => ?_) (nb_nle (by omega) (by omega) fun h197 => ?_)) | refine E_icmp_ge 236 d_TM_summedUp_197 rfl (fun h197 => ?_) (fun h197 => ?_)
            · exfalso; omega
            first | (with_reducible refine E_isL5 ?_; refine E_iincD5 (m := 1) d_TM_summedUp_200 (by decide) (by omega) rfl ?_) | refine E_iinc_5 d_TM_summedUp_200 rfl rfl ?_
            first | refine E_aload_n d_TM_summedUp_203 rfl ?_ | refine E_aload_nN d_TM_summedUp_203 rfl ?_
            refine E_getR (q := 7) d_TM_summedUp_204 gf_TM_35 (by exact ⟨by decide, rfl⟩) (by exact hR _ rfl) ?_
            refine E_iload d_TM_summedUp_207 rfl ?_
            refine E_iconst (v := nI 1) d_TM_summedUp_209 rfl ?_
            first | (with_reducible refine E_isN2 ?_; refine E_isubN d_TM_summedUp_210 (by omega) ?_) | refine E_isub d_TM_summedUp_210 ?_
            refine E_iload d_TM_summedUp_211 rfl ?_
            first | refine E_aload_n d_TM_summedUp_213 rfl ?_ | refine E_aload_nN d_TM_summedUp_213 rfl ?_
            refine E_getR (q := 7) d_TM_summedUp_214 gf_TM_35 (by exact ⟨by decide, rfl⟩) (by exact hR _ rfl) ?_
            refine E_iload d_TM_summedUp_217 rfl ?_
            refine E_iconst (v := nI 1) d_TM_summedUp_219 rfl ?_
            first | (with_reducible refine E_isN2 ?_; refine E_isubN d_TM_summedUp_220 (by omega) ?_) | refine E_isub d_TM_summedUp_220 ?_
            refine E_lald d_TM_summedUp_221 (by exact ⟨by decide, rfl⟩) (by exact ⟨by with_reducible rfl, by omega, by decide⟩) (by exact hx) ?_
            first | refine E_aload_n d_TM_summedUp_222 rfl ?_ | refine E_aload_nN d_TM_summedUp_222 rfl ?_
            refine E_getR (q := 7) d_TM_summedUp_223 gf_TM_35 (by exact ⟨by decide, rfl⟩) (by exact hR _ rfl) ?_
            refine E_iload d_TM_summedUp_226 rfl ?_
            refine E_lald d_TM_summedUp_228 (by exact ⟨by decide, rfl⟩) (by exact ⟨by with_reducible rfl, by omega, by decide⟩) (by exact hy) ?_
            refine E_S3 (sp_TM_twoBy (by omega) c10 hV.2.2.2.1 hV.2.1) d_TM_summedUp_229 ml_TM_255 cb_TM_twoBy cs_TM_twoBy ⟨by decide, by decide⟩ rfl (Nat.le_of_ble_eq_true rfl) (Nat.le_of_ble_eq_true rfl) (kL fun r1 M1 hc => ?_)
            obtain ⟨rfl, rfl⟩ := hc
            refine E_last d_TM_summedUp_232 (by exact ⟨by decide, rfl⟩) (by exact ⟨by with_reducible rfl, by omega, by decide⟩) ?_
            refine E_goto 349 d_TM_summedUp_233 rfl ?_
            exact hu
          · rw [if_neg c10] at hw
            by_cases c20 : o < 20
            · rw [if_pos c20] at hw
              obtain ⟨w1, w3⟩ := hw
              cases vs with
              | nil => exact absurd w1 (by simp)
              | cons y vs =>
              cases vs with
              | nil => exact absurd w1 (by simp)
              | cons x vs =>
              simp only [List.length_cons] at h1
              simp only [List.length_cons, Nat.add_sub_cancel] at w3 ⊢
              have h2' : bs.length ≤ j := h2
              have hy : mL M 7 (vs.length + 1) = iL y := hV.1
              have hx : mL M 7 vs.length = iL x := hV.2.2.1
              have hu := up (vs, askBy o x y :: bs) (wI M 8 bs.length (pI (askBy o x y = true))) (some (.int (nI o))) (some (.int (nI v))) (by rw [ev_a nm c.now v _ c10 c20]; rfl) w3 (by show vs.length ≤ j + 1; omega) (by simp; omega) (pI8 _ _).1 (pI8 _ _).2 hV.2.2.2.2.upI (hB.push rfl)
              refine E_iload d_TM_summedUp_38 rfl ?_
              first | refine E_aload_n d_TM_summedUp_40 rfl ?_ | refine E_aload_nN d_TM_summedUp_40 rfl ?_
              refine E_getR (q := 3) d_TM_summedUp_41 gf_TM_16 (by exact ⟨by decide, rfl⟩) (by exact hR _ rfl) ?_
              refine E_iload_n d_TM_summedUp_44 rfl ?_
              refine E_iconst (v := nI 2) d_TM_summedUp_45 rfl ?_
              first | (with_reducible refine E_isN2 ?_; refine E_iaddN d_TM_summedUp_46 ?_) | refine E_iadd d_TM_summedUp_46 ?_
              refine E_iald d_TM_summedUp_47 (by exact ⟨by decide, rfl⟩) (by exact ⟨by with_reducible rfl, by omega, by decide⟩) (by exact hend2) ?_
              first | (with_reducible refine E_isN2 ?_; refine E_icmp_ge 355 d_TM_summedUp_48 rfl (nb_le (by omega) (by omega) fun h48 => ?_) (nb_nle (by omega) (by omega) fun h48 => ?_)) | refine E_icmp_ge 355 d_TM_summedUp_48 rfl (fun h48 => ?_) (fun h48 => ?_)
              · exfalso; omega
              first | refine E_aload_n d_TM_summedUp_51 rfl ?_ | refine E_aload_nN d_TM_summedUp_51 rfl ?_
              refine E_getR (q := 3) d_TM_summedUp_52 gf_TM_16 (by exact ⟨by decide, rfl⟩) (by exact hR _ rfl) ?_
              refine E_iload d_TM_summedUp_55 rfl ?_
              refine E_iconst (v := nI 2) d_TM_summedUp_57 rfl ?_
              refine E_iload d_TM_summedUp_58 rfl ?_
              first | (with_reducible refine E_isN2 ?_; refine E_imulN d_TM_summedUp_60 ?_) | refine E_imul d_TM_summedUp_60 ?_
              first | (with_reducible refine E_isN2 ?_; refine E_iaddN d_TM_summedUp_61 ?_) | refine E_iadd d_TM_summedUp_61 ?_
              refine E_iald d_TM_summedUp_62 (by exact ⟨by decide, rfl⟩) (by exact ⟨by with_reducible rfl, by omega, by decide⟩) (by first | exact hop | exact hov | rfl) ?_
              refine E_istore_8 d_TM_summedUp_63 rfl ?_
              first | refine E_aload_n d_TM_summedUp_65 rfl ?_ | refine E_aload_nN d_TM_summedUp_65 rfl ?_
              refine E_getR (q := 3) d_TM_summedUp_66 gf_TM_16 (by exact ⟨by decide, rfl⟩) (by exact hR _ rfl) ?_
              refine E_iload d_TM_summedUp_69 rfl ?_
              refine E_iconst (v := nI 2) d_TM_summedUp_71 rfl ?_
              refine E_iload d_TM_summedUp_72 rfl ?_
              first | (with_reducible refine E_isN2 ?_; refine E_imulN d_TM_summedUp_74 ?_) | refine E_imul d_TM_summedUp_74 ?_
              first | (with_reducible refine E_isN2 ?_; refine E_iaddN d_TM_summedUp_75 ?_) | refine E_iadd d_TM_summedUp_75 ?_
              refine E_iconst (v := nI 1) d_TM_summedUp_76 rfl ?_
              first | (with_reducible refine E_isN2 ?_; refine E_iaddN d_TM_summedUp_77 ?_) | refine E_iadd d_TM_summedUp_77 ?_
              refine E_iald d_TM_summedUp_78 (by exact ⟨by decide, rfl⟩) (by exact ⟨by with_reducible rfl, by omega, by decide⟩) (by first | exact hop | exact hov | rfl) ?_
              refine E_istore_9 d_TM_summedUp_79 rfl ?_
              refine E_iload d_TM_summedUp_81 rfl ?_
              refine E_iconst (v := nI 1) d_TM_summedUp_83 rfl ?_
              first | (with_reducible refine E_isN2 ?_; refine E_icmp_gt 119 d_TM_summedUp_84 rfl (nb_lt (by omega) (by omega) fun h84 => ?_) (nb_nlt (by omega) (by omega) fun h84 => ?_)) | refine E_icmp_gt 119 d_TM_summedUp_84 rfl (fun h84 => ?_) (fun h84 => ?_)
              rotate_left
              · exfalso; omega
              refine E_iload d_TM_summedUp_119 rfl ?_
              refine E_iconst (v := nI 3) d_TM_summedUp_121 rfl ?_
              first | (with_reducible refine E_isN2 ?_; refine E_icmp_ne 160 d_TM_summedUp_122 rfl (nb_ne fun h122 => ?_) (nb_eq (by omega) (by omega) fun h122 => ?_)) | refine E_icmp_ne 160 d_TM_summedUp_122 rfl (fun h122 => ?_) (fun h122 => ?_)
              rotate_left
              · exfalso; omega
              refine E_iload d_TM_summedUp_160 rfl ?_
              refine E_iconst (v := nI 5) d_TM_summedUp_162 rfl ?_
              first | (with_reducible refine E_isN2 ?_; refine E_icmp_gt 193 d_TM_summedUp_163 rfl (nb_lt (by omega) (by omega) fun h163 => ?_) (nb_nlt (by omega) (by omega) fun h163 => ?_)) | refine E_icmp_gt 193 d_TM_summedUp_163 rfl (fun h163 => ?_) (fun h163 => ?_)
              rotate_left
              · exfalso; omega
              refine E_iload d_TM_summedUp_193 rfl ?_
              refine E_bipush (v := nI 10) d_TM_summedUp_195 (by decide) ?_
              first | (with_reducible refine E_isN2 ?_; refine E_icmp_ge 236 d_TM_summedUp_197 rfl (nb_le (by omega) (by omega) fun h197 => ?_) (nb_nle (by omega) (by omega) fun h197 => ?_)) | refine E_icmp_ge 236 d_TM_summedUp_197 rfl (fun h197 => ?_) (fun h197 => ?_)
              rotate_left
              · exfalso; omega
              refine E_iload d_TM_summedUp_236 rfl ?_
              refine E_bipush (v := nI 20) d_TM_summedUp_238 (by decide) ?_
              first | (with_reducible refine E_isN2 ?_; refine E_icmp_ge 280 d_TM_summedUp_240 rfl (nb_le (by omega) (by omega) fun h240 => ?_) (nb_nle (by omega) (by omega) fun h240 => ?_)) | refine E_icmp_ge 280 d_TM_summedUp_240 rfl (fun h240 => ?_) (fun h240 => ?_)
              · exfalso; omega
              first | (with_reducible refine E_isL5 ?_; refine E_iincD5 (m := 2) d_TM_summedUp_243 (by decide) (by omega) rfl ?_) | refine E_iinc_5 d_TM_summedUp_243 rfl rfl ?_
              first | refine E_aload_n d_TM_summedUp_246 rfl ?_ | refine E_aload_nN d_TM_summedUp_246 rfl ?_
              refine E_getR (q := 8) d_TM_summedUp_247 gf_TM_39 (by exact ⟨by decide, rfl⟩) (by exact hR _ rfl) ?_
              refine E_iload d_TM_summedUp_250 rfl ?_
              refine E_iload d_TM_summedUp_252 rfl ?_
              first | refine E_aload_n d_TM_summedUp_254 rfl ?_ | refine E_aload_nN d_TM_summedUp_254 rfl ?_
              refine E_getR (q := 7) d_TM_summedUp_255 gf_TM_35 (by exact ⟨by decide, rfl⟩) (by exact hR _ rfl) ?_
              refine E_iload d_TM_summedUp_258 rfl ?_
              refine E_lald d_TM_summedUp_260 (by exact ⟨by decide, rfl⟩) (by exact ⟨by with_reducible rfl, by omega, by decide⟩) (by exact hx) ?_
              first | refine E_aload_n d_TM_summedUp_261 rfl ?_ | refine E_aload_nN d_TM_summedUp_261 rfl ?_
              refine E_getR (q := 7) d_TM_summedUp_262 gf_TM_35 (by exact ⟨by decide, rfl⟩) (by exact hR _ rfl) ?_
              refine E_iload d_TM_summedUp_265 rfl ?_
              refine E_iconst (v := nI 1) d_TM_summedUp_267 rfl ?_
              first | (with_reducible refine E_isN2 ?_; refine E_iaddN d_TM_summedUp_268 ?_) | refine E_iadd d_TM_summedUp_268 ?_
              refine E_lald d_TM_summedUp_269 (by exact ⟨by decide, rfl⟩) (by exact ⟨by with_reducible rfl, by omega, by decide⟩) (by exact hy) ?_
              refine E_S3 (sp_TM_isAsked (by omega) hV.2.2.2.1.b hV.2.1.b) d_TM_summedUp_270 ml_TM_259 cb_TM_isAsked cs_TM_isAsked ⟨by decide, by decide⟩ rfl (Nat.le_of_ble_eq_true rfl) (Nat.le_of_ble_eq_true rfl) (kI fun r1 M1 hc => ?_)
              obtain ⟨rfl, rfl⟩ := hc
              refine E_zast d_TM_summedUp_273 (by exact ⟨by decide, rfl⟩) (by exact ⟨by with_reducible rfl, by omega, by decide⟩) (by exact pI_01 _) ?_
              first | (with_reducible refine E_isL6 ?_; refine E_iincN6 (m := 1) d_TM_summedUp_274 rfl rfl ?_) | refine E_iinc_6 d_TM_summedUp_274 rfl rfl ?_
              refine E_goto 349 d_TM_summedUp_277 rfl ?_
              exact hu
            · rw [if_neg c20] at hw
              by_cases c2 : o = 20
              · rw [if_pos c2] at hw
                obtain ⟨w2, w3⟩ := hw
                cases bs with
                | nil => exact absurd w2 (by simp)
                | cons b bs =>
                simp only [List.length_cons] at h2
                simp only [List.length_cons] at w3 ⊢
                have h1' : vs.length ≤ j := h1
                have hb : mI M 8 bs.length = pI (b = true) := hB.1
                have hu := fun x (hx : x = pI ((!b) = true)) => up (vs, (!b) :: bs) (wI M 8 bs.length x) (some (.int (nI o))) (some (.int (nI v))) (by rw [c2, ev_n]; rfl) w3 (by show vs.length ≤ j + 1; omega) (by simp; omega) (pI8 _ _).1 (pI8 _ _).2 hV.upI (hB.2.push hx)
                have g0 : b = true → nI 0 = pI ((!b) = true) := fun q => by rw [q]; rfl
                have g1 : ¬ b = true → nI 1 = pI ((!b) = true) := fun q => by rw [Bool.eq_false_iff.mpr q]; rfl
                refine E_iload d_TM_summedUp_38 rfl ?_
                first | refine E_aload_n d_TM_summedUp_40 rfl ?_ | refine E_aload_nN d_TM_summedUp_40 rfl ?_
                refine E_getR (q := 3) d_TM_summedUp_41 gf_TM_16 (by exact ⟨by decide, rfl⟩) (by exact hR _ rfl) ?_
                refine E_iload_n d_TM_summedUp_44 rfl ?_
                refine E_iconst (v := nI 2) d_TM_summedUp_45 rfl ?_
                first | (with_reducible refine E_isN2 ?_; refine E_iaddN d_TM_summedUp_46 ?_) | refine E_iadd d_TM_summedUp_46 ?_
                refine E_iald d_TM_summedUp_47 (by exact ⟨by decide, rfl⟩) (by exact ⟨by with_reducible rfl, by omega, by decide⟩) (by exact hend2) ?_
                first | (with_reducible refine E_isN2 ?_; refine E_icmp_ge 355 d_TM_summedUp_48 rfl (nb_le (by omega) (by omega) fun h48 => ?_) (nb_nle (by omega) (by omega) fun h48 => ?_)) | refine E_icmp_ge 355 d_TM_summedUp_48 rfl (fun h48 => ?_) (fun h48 => ?_)
                · exfalso; omega
                first | refine E_aload_n d_TM_summedUp_51 rfl ?_ | refine E_aload_nN d_TM_summedUp_51 rfl ?_
                refine E_getR (q := 3) d_TM_summedUp_52 gf_TM_16 (by exact ⟨by decide, rfl⟩) (by exact hR _ rfl) ?_
                refine E_iload d_TM_summedUp_55 rfl ?_
                refine E_iconst (v := nI 2) d_TM_summedUp_57 rfl ?_
                refine E_iload d_TM_summedUp_58 rfl ?_
                first | (with_reducible refine E_isN2 ?_; refine E_imulN d_TM_summedUp_60 ?_) | refine E_imul d_TM_summedUp_60 ?_
                first | (with_reducible refine E_isN2 ?_; refine E_iaddN d_TM_summedUp_61 ?_) | refine E_iadd d_TM_summedUp_61 ?_
                refine E_iald d_TM_summedUp_62 (by exact ⟨by decide, rfl⟩) (by exact ⟨by with_reducible rfl, by omega, by decide⟩) (by first | exact hop | exact hov | rfl) ?_
                refine E_istore_8 d_TM_summedUp_63 rfl ?_
                first | refine E_aload_n d_TM_summedUp_65 rfl ?_ | refine E_aload_nN d_TM_summedUp_65 rfl ?_
                refine E_getR (q := 3) d_TM_summedUp_66 gf_TM_16 (by exact ⟨by decide, rfl⟩) (by exact hR _ rfl) ?_
                refine E_iload d_TM_summedUp_69 rfl ?_
                refine E_iconst (v := nI 2) d_TM_summedUp_71 rfl ?_
                refine E_iload d_TM_summedUp_72 rfl ?_
                first | (with_reducible refine E_isN2 ?_; refine E_imulN d_TM_summedUp_74 ?_) | refine E_imul d_TM_summedUp_74 ?_
                first | (with_reducible refine E_isN2 ?_; refine E_iaddN d_TM_summedUp_75 ?_) | refine E_iadd d_TM_summedUp_75 ?_
                refine E_iconst (v := nI 1) d_TM_summedUp_76 rfl ?_
                first | (with_reducible refine E_isN2 ?_; refine E_iaddN d_TM_summedUp_77 ?_) | refine E_iadd d_TM_summedUp_77 ?_
                refine E_iald d_TM_summedUp_78 (by exact ⟨by decide, rfl⟩) (by exact ⟨by with_reducible rfl, by omega, by decide⟩) (by first | exact hop | exact hov | rfl) ?_
                refine E_istore_9 d_TM_summedUp_79 rfl ?_
                refine E_iload d_TM_summedUp_81 rfl ?_
                refine E_iconst (v := nI 1) d_TM_summedUp_83 rfl ?_
                first | (with_reducible refine E_isN2 ?_; refine E_icmp_gt 119 d_TM_summedUp_84 rfl (nb_lt (by omega) (by omega) fun h84 => ?_) (nb_nlt (by omega) (by omega) fun h84 => ?_)) | refine E_icmp_gt 119 d_TM_summedUp_84 rfl (fun h84 => ?_) (fun h84 => ?_)
                rotate_left
                · exfalso; omega
                refine E_iload d_TM_summedUp_119 rfl ?_
                refine E_iconst (v := nI 3) d_TM_summedUp_121 rfl ?_
                first | (with_reducible refine E_isN2 ?_; refine E_icmp_ne 160 d_TM_summedUp_122 rfl (nb_ne fun h122 => ?_) (nb_eq (by omega) (by omega) fun h122 => ?_)) | refine E_icmp_ne 160 d_TM_summedUp_122 rfl (fun h122 => ?_) (fun h122 => ?_)
                rotate_left
                · exfalso; omega
                refine E_iload d_TM_summedUp_160 rfl ?_
                refine E_iconst (v := nI 5) d_TM_summedUp_162 rfl ?_
                first | (with_reducible refine E_isN2 ?_; refine E_icmp_gt 193 d_TM_summedUp_163 rfl (nb_lt (by omega) (by omega) fun h163 => ?_) (nb_nlt (by omega) (by omega) fun h163 => ?_)) | refine E_icmp_gt 193 d_TM_summedUp_163 rfl (fun h163 => ?_) (fun h163 => ?_)
                rotate_left
                · exfalso; omega
                refine E_iload d_TM_summedUp_193 rfl ?_
                refine E_bipush (v := nI 10) d_TM_summedUp_195 (by decide) ?_
                first | (with_reducible refine E_isN2 ?_; refine E_icmp_ge 236 d_TM_summedUp_197 rfl (nb_le (by omega) (by omega) fun h197 => ?_) (nb_nle (by omega) (by omega) fun h197 => ?_)) | refine E_icmp_ge 236 d_TM_summedUp_197 rfl (fun h197 => ?_) (fun h197 => ?_)
                rotate_left
                · exfalso; omega
                refine E_iload d_TM_summedUp_236 rfl ?_
                refine E_bipush (v := nI 20) d_TM_summedUp_238 (by decide) ?_
                first | (with_reducible refine E_isN2 ?_; refine E_icmp_ge 280 d_TM_summedUp_240 rfl (nb_le (by omega) (by omega) fun h240 => ?_) (nb_nle (by omega) (by omega) fun h240 => ?_)) | refine E_icmp_ge 280 d_TM_summedUp_240 rfl (fun h240 => ?_) (fun h240 => ?_)
                rotate_left
                · exfalso; omega
                refine E_iload d_TM_summedUp_280 rfl ?_
                refine E_bipush (v := nI 20) d_TM_summedUp_282 (by decide) ?_
                first | (with_reducible refine E_isN2 ?_; refine E_icmp_ne 316 d_TM_summedUp_284 rfl (nb_ne fun h284 => ?_) (nb_eq (by omega) (by omega) fun h284 => ?_)) | refine E_icmp_ne 316 d_TM_summedUp_284 rfl (fun h284 => ?_) (fun h284 => ?_)
                · exfalso; omega
                first | refine E_aload_n d_TM_summedUp_287 rfl ?_ | refine E_aload_nN d_TM_summedUp_287 rfl ?_
                refine E_getR (q := 8) d_TM_summedUp_288 gf_TM_39 (by exact ⟨by decide, rfl⟩) (by exact hR _ rfl) ?_
                refine E_iload d_TM_summedUp_291 rfl ?_
                refine E_iconst (v := nI 1) d_TM_summedUp_293 rfl ?_
                first | (with_reducible refine E_isN2 ?_; refine E_isubN d_TM_summedUp_294 (by omega) ?_) | refine E_isub d_TM_summedUp_294 ?_
                first | refine E_aload_n d_TM_summedUp_295 rfl ?_ | refine E_aload_nN d_TM_summedUp_295 rfl ?_
                refine E_getR (q := 8) d_TM_summedUp_296 gf_TM_39 (by exact ⟨by decide, rfl⟩) (by exact hR _ rfl) ?_
                refine E_iload d_TM_summedUp_299 rfl ?_
                refine E_iconst (v := nI 1) d_TM_summedUp_301 rfl ?_
                first | (with_reducible refine E_isN2 ?_; refine E_isubN d_TM_summedUp_302 (by omega) ?_) | refine E_isub d_TM_summedUp_302 ?_
                refine E_zald d_TM_summedUp_303 (by exact ⟨by decide, rfl⟩) (by exact ⟨by with_reducible rfl, by omega, by decide⟩) (by exact hb) ?_
                first | (with_reducible refine E_isP ?_; refine E_if_ne 311 d_TM_summedUp_304 rfl (pb_1 fun h304 => ?_) (pb_0 fun h304 => ?_)) | (with_reducible refine E_isN1 ?_; refine E_if_ne 311 d_TM_summedUp_304 rfl (nz_ne fun h304 => ?_) (nz_eq (by omega) fun h304 => ?_)) | refine E_if_ne 311 d_TM_summedUp_304 rfl (fun h304 => ?_) (fun h304 => ?_)
                · refine E_iconst (v := nI 0) d_TM_summedUp_311 rfl ?_
                  refine E_zast d_TM_summedUp_312 (by exact ⟨by decide, rfl⟩) (by exact ⟨by with_reducible rfl, by omega, by decide⟩) (by decide) ?_
                  refine E_goto 349 d_TM_summedUp_313 rfl ?_
                  first | exact hu _ (g0 h304) | exact hu _ (g1 h304)
                · refine E_iconst (v := nI 1) d_TM_summedUp_307 rfl ?_
                  refine E_goto 312 d_TM_summedUp_308 rfl ?_
                  refine E_zast d_TM_summedUp_312 (by exact ⟨by decide, rfl⟩) (by exact ⟨by with_reducible rfl, by omega, by decide⟩) (by decide) ?_
                  refine E_goto 349 d_TM_summedUp_313 rfl ?_
                  first | exact hu _ (g0 h304) | exact hu _ (g1 h304)
              · rw [if_neg c2] at hw
                obtain ⟨w0, w2, w3⟩ := hw
                cases bs with
                | nil => exact absurd w2 (by simp)
                | cons b bs =>
                cases bs with
                | nil => exact absurd w2 (by simp)
                | cons a bs =>
                simp only [List.length_cons] at h2
                simp only [List.length_cons, Nat.add_sub_cancel] at w3 ⊢
                have h1' : vs.length ≤ j := h1
                have hb : mI M 8 (bs.length + 1) = pI (b = true) := hB.1
                have ha : mI M 8 bs.length = pI (a = true) := hB.2.1
                have hu := up (vs, (if o = 21 then (a && b) else (a || b)) :: bs) (wI M 8 bs.length (pI ((if o = 21 then (a && b) else (a || b)) = true))) (some (.int (nI o))) (some (.int (nI v))) (by rw [ev_j nm c.now v _ (by omega)]; rfl) w3 (by show vs.length ≤ j + 1; omega) (by simp; omega) (pI8 _ _).1 (pI8 _ _).2 hV.upI (hB.2.2.push rfl)
                refine E_iload d_TM_summedUp_38 rfl ?_
                first | refine E_aload_n d_TM_summedUp_40 rfl ?_ | refine E_aload_nN d_TM_summedUp_40 rfl ?_
                refine E_getR (q := 3) d_TM_summedUp_41 gf_TM_16 (by exact ⟨by decide, rfl⟩) (by exact hR _ rfl) ?_
                refine E_iload_n d_TM_summedUp_44 rfl ?_
                refine E_iconst (v := nI 2) d_TM_summedUp_45 rfl ?_
                first | (with_reducible refine E_isN2 ?_; refine E_iaddN d_TM_summedUp_46 ?_) | refine E_iadd d_TM_summedUp_46 ?_
                refine E_iald d_TM_summedUp_47 (by exact ⟨by decide, rfl⟩) (by exact ⟨by with_reducible rfl, by omega, by decide⟩) (by exact hend2) ?_
                first | (with_reducible refine E_isN2 ?_; refine E_icmp_ge 355 d_TM_summedUp_48 rfl (nb_le (by omega) (by omega) fun h48 => ?_) (nb_nle (by omega) (by omega) fun h48 => ?_)) | refine E_icmp_ge 355 d_TM_summedUp_48 rfl (fun h48 => ?_) (fun h48 => ?_)
                · exfalso; omega
                first | refine E_aload_n d_TM_summedUp_51 rfl ?_ | refine E_aload_nN d_TM_summedUp_51 rfl ?_
                refine E_getR (q := 3) d_TM_summedUp_52 gf_TM_16 (by exact ⟨by decide, rfl⟩) (by exact hR _ rfl) ?_
                refine E_iload d_TM_summedUp_55 rfl ?_
                refine E_iconst (v := nI 2) d_TM_summedUp_57 rfl ?_
                refine E_iload d_TM_summedUp_58 rfl ?_
                first | (with_reducible refine E_isN2 ?_; refine E_imulN d_TM_summedUp_60 ?_) | refine E_imul d_TM_summedUp_60 ?_
                first | (with_reducible refine E_isN2 ?_; refine E_iaddN d_TM_summedUp_61 ?_) | refine E_iadd d_TM_summedUp_61 ?_
                refine E_iald d_TM_summedUp_62 (by exact ⟨by decide, rfl⟩) (by exact ⟨by with_reducible rfl, by omega, by decide⟩) (by first | exact hop | exact hov | rfl) ?_
                refine E_istore_8 d_TM_summedUp_63 rfl ?_
                first | refine E_aload_n d_TM_summedUp_65 rfl ?_ | refine E_aload_nN d_TM_summedUp_65 rfl ?_
                refine E_getR (q := 3) d_TM_summedUp_66 gf_TM_16 (by exact ⟨by decide, rfl⟩) (by exact hR _ rfl) ?_
                refine E_iload d_TM_summedUp_69 rfl ?_
                refine E_iconst (v := nI 2) d_TM_summedUp_71 rfl ?_
                refine E_iload d_TM_summedUp_72 rfl ?_
                first | (with_reducible refine E_isN2 ?_; refine E_imulN d_TM_summedUp_74 ?_) | refine E_imul d_TM_summedUp_74 ?_
                first | (with_reducible refine E_isN2 ?_; refine E_iaddN d_TM_summedUp_75 ?_) | refine E_iadd d_TM_summedUp_75 ?_
                refine E_iconst (v := nI 1) d_TM_summedUp_76 rfl ?_
                first | (with_reducible refine E_isN2 ?_; refine E_iaddN d_TM_summedUp_77 ?_) | refine E_iadd d_TM_summedUp_77 ?_
                refine E_iald d_TM_summedUp_78 (by exact ⟨by decide, rfl⟩) (by exact ⟨by with_reducible rfl, by omega, by decide⟩) (by first | exact hop | exact hov | rfl) ?_
                refine E_istore_9 d_TM_summedUp_79 rfl ?_
                refine E_iload d_TM_summedUp_81 rfl ?_
                refine E_iconst (v := nI 1) d_TM_summedUp_83 rfl ?_
                first | (with_reducible refine E_isN2 ?_; refine E_icmp_gt 119 d_TM_summedUp_84 rfl (nb_lt (by omega) (by omega) fun h84 => ?_) (nb_nlt (by omega) (by omega) fun h84 => ?_)) | refine E_icmp_gt 119 d_TM_summedUp_84 rfl (fun h84 => ?_) (fun h84 => ?_)
                rotate_left
                · exfalso; omega
                refine E_iload d_TM_summedUp_119 rfl ?_
                refine E_iconst (v := nI 3) d_TM_summedUp_121 rfl ?_
                first | (with_reducible refine E_isN2 ?_; refine E_icmp_ne 160 d_TM_summedUp_122 rfl (nb_ne fun h122 => ?_) (nb_eq (by omega) (by omega) fun h122 => ?_)) | refine E_icmp_ne 160 d_TM_summedUp_122 rfl (fun h122 => ?_) (fun h122 => ?_)
                rotate_left
                · exfalso; omega
                refine E_iload d_TM_summedUp_160 rfl ?_
                refine E_iconst (v := nI 5) d_TM_summedUp_162 rfl ?_
                first | (with_reducible refine E_isN2 ?_; refine E_icmp_gt 193 d_TM_summedUp_163 rfl (nb_lt (by omega) (by omega) fun h163 => ?_) (nb_nlt (by omega) (by omega) fun h163 => ?_)) | refine E_icmp_gt 193 d_TM_summedUp_163 rfl (fun h163 => ?_) (fun h163 => ?_)
                rotate_left
                · exfalso; omega
                refine E_iload d_TM_summedUp_193 rfl ?_
                refine E_bipush (v := nI 10) d_TM_summedUp_195 (by decide) ?_
                first | (with_reducible refine E_isN2 ?_; refine E_icmp_ge 236 d_TM_summedUp_197 rfl (nb_le (by omega) (by omega) fun h197 => ?_) (nb_nle (by omega) (by omega) fun h197 => ?_)) | refine E_icmp_ge 236 d_TM_summedUp_197 rfl (fun h197 => ?_) (fun h197 => ?_)
                rotate_left
                · exfalso; omega
                refine E_iload d_TM_summedUp_236 rfl ?_
                refine E_bipush (v := nI 20) d_TM_summedUp_238 (by decide) ?_
                first | (with_reducible refine E_isN2 ?_; refine E_icmp_ge 280 d_TM_summedUp_240 rfl (nb_le (by omega) (by omega) fun h240 => ?_) (nb_nle (by omega) (by omega) fun h240 => ?_)) | refine E_icmp_ge 280 d_TM_summedUp_240 rfl (fun h240 => ?_) (fun h240 => ?_)
                rotate_left
                · exfalso; omega
                refine E_iload d_TM_summedUp_280 rfl ?_
                refine E_bipush (v := nI 20) d_TM_summedUp_282 (by decide) ?_
                first | (with_reducible refine E_isN2 ?_; refine E_icmp_ne 316 d_TM_summedUp_284 rfl (nb_ne fun h284 => ?_) (nb_eq (by omega) (by omega) fun h284 => ?_)) | refine E_icmp_ne 316 d_TM_summedUp_284 rfl (fun h284 => ?_) (fun h284 => ?_)
                rotate_left
                · exfalso; omega
                first | (with_reducible refine E_isL6 ?_; refine E_iincD6 (m := 1) d_TM_summedUp_316 (by decide) (by omega) rfl ?_) | refine E_iinc_6 d_TM_summedUp_316 rfl rfl ?_
                first | refine E_aload_n d_TM_summedUp_319 rfl ?_ | refine E_aload_nN d_TM_summedUp_319 rfl ?_
                refine E_getR (q := 8) d_TM_summedUp_320 gf_TM_39 (by exact ⟨by decide, rfl⟩) (by exact hR _ rfl) ?_
                refine E_iload d_TM_summedUp_323 rfl ?_
                refine E_iconst (v := nI 1) d_TM_summedUp_325 rfl ?_
                first | (with_reducible refine E_isN2 ?_; refine E_isubN d_TM_summedUp_326 (by omega) ?_) | refine E_isub d_TM_summedUp_326 ?_
                refine E_iload d_TM_summedUp_327 rfl ?_
                first | refine E_aload_n d_TM_summedUp_329 rfl ?_ | refine E_aload_nN d_TM_summedUp_329 rfl ?_
                refine E_getR (q := 8) d_TM_summedUp_330 gf_TM_39 (by exact ⟨by decide, rfl⟩) (by exact hR _ rfl) ?_
                refine E_iload d_TM_summedUp_333 rfl ?_
                refine E_iconst (v := nI 1) d_TM_summedUp_335 rfl ?_
                first | (with_reducible refine E_isN2 ?_; refine E_isubN d_TM_summedUp_336 (by omega) ?_) | refine E_isub d_TM_summedUp_336 ?_
                refine E_zald d_TM_summedUp_337 (by exact ⟨by decide, rfl⟩) (by exact ⟨by with_reducible rfl, by omega, by decide⟩) (by exact ha) ?_
                first | refine E_aload_n d_TM_summedUp_338 rfl ?_ | refine E_aload_nN d_TM_summedUp_338 rfl ?_
                refine E_getR (q := 8) d_TM_summedUp_339 gf_TM_39 (by exact ⟨by decide, rfl⟩) (by exact hR _ rfl) ?_
                refine E_iload d_TM_summedUp_342 rfl ?_
                refine E_zald d_TM_summedUp_344 (by exact ⟨by decide, rfl⟩) (by exact ⟨by with_reducible rfl, by omega, by decide⟩) (by exact hb) ?_
                refine E_S3 (sp_TM_joined w0) d_TM_summedUp_345 ml_TM_263 cb_TM_joined cs_TM_joined ⟨by decide, by decide⟩ rfl (Nat.le_of_ble_eq_true rfl) (Nat.le_of_ble_eq_true rfl) (kI fun r1 M1 hc => ?_)
                obtain ⟨rfl, rfl⟩ := hc
                refine E_zast d_TM_summedUp_348 (by exact ⟨by decide, rfl⟩) (by exact ⟨by with_reducible rfl, by omega, by decide⟩) (by exact pI_01 _) ?_
                exact hu
