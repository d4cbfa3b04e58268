section LXm
variable {M : Mem}
def Fx (J A : Nat → Prop) (M M' : Mem) : Prop := mR M' = mR M ∧ (∀ a, a ≠ 0 → ¬ A a → mI M' a = mI M a) ∧ (∀ j, ¬ J j → mI M' 0 j = mI M 0 j) ∧ ∀ a, a ≠ 0 → mL M' a = mL M a
theorem Fx.rf {J A : Nat → Prop} : Fx J A M M := ⟨rfl, fun _ _ _ => rfl, fun _ _ => rfl, fun _ _ => rfl⟩
theorem Fx.tr {J A : Nat → Prop} {M1 M2 : Mem} (h : Fx J A M M1) (g : Fx J A M1 M2) : Fx J A M M2 := ⟨g.1.trans h.1, fun a x y => (g.2.1 a x y).trans (h.2.1 a x y), fun j x => (g.2.2.1 j x).trans (h.2.2.1 j x), fun a x => (g.2.2.2 a x).trans (h.2.2.2 a x)⟩
theorem Fx.wk {J A J' A' : Nat → Prop} {M1 : Mem} (h : Fx J A M M1) (hj : ∀ j, J j → J' j) (ha : ∀ a, A a → A' a) : Fx J' A' M M1 := ⟨h.1, fun a x y => h.2.1 a x (fun q => y (ha a q)), fun j x => h.2.2.1 j (fun q => x (hj j q)), h.2.2.2⟩
theorem Fx.wL {J A : Nat → Prop} {M1 : Mem} {j : Nat} {x : Int64} (h : Fx J A M M1) : Fx J A M (wL M1 0 j x) := ⟨h.1, h.2.1, h.2.2.1, fun a p => (upd2_ne _ p).trans (h.2.2.2 a p)⟩
theorem Fx.wJ {J A : Nat → Prop} {M1 : Mem} {b j : Nat} {x : Int32} (h : Fx J A M M1) (hb : b ≠ 0) (hA : A b) : Fx J A M (wI M1 b j x) := ⟨h.1, fun a p q => (mI_ne (fun e => q (by rw [e]; exact hA))).trans (h.2.1 a p q), fun i p => by rw [mI_wx (Ne.symm hb)]; exact h.2.2.1 i p, h.2.2.2⟩
theorem Fx.wI {J A : Nat → Prop} {M1 : Mem} {j : Nat} {x : Int32} (h : Fx J A M M1) (hj : J j) : Fx J A M (wI M1 0 j x) := ⟨h.1, fun a p q => (mI_ne p).trans (h.2.1 a p q), fun i p => by rw [mI_wa, if_neg (fun e => p (by rw [e]; exact hj))]; exact h.2.2.1 i p, h.2.2.2⟩
theorem MR.fx {J A : Nat → Prop} {M1 : Mem} (h : MR M) (g : Fx J A M M1) : MR M1 := fun j hj => by rw [g.1]; exact h j hj
theorem TapeM.fx {J A : Nat → Prop} {M1 : Mem} {l : List Nat} (h : TapeM l M) (g : Fx J A M M1) (hj : ¬ J 4) (ha : ¬ A 4) : TapeM l M1 := ⟨h.1, (g.2.2.1 4 hj).trans h.2.1, fun i hi => by rw [g.2.1 4 (by decide) ha]; exact h.2.2.1 i hi, h.2.2.2⟩
theorem TapeM.b {l : List Nat} (h : TapeM l M) {i : Nat} (hi : i < l.length) : l.getD i 0 < 256 := h.2.2.2 _ (getD_mem hi)
def Jn (j : Nat) : Prop := 7 ≤ j ∧ j ≤ 10
def An (_ : Nat) : Prop := False
theorem sp_TM_byteAt {l : List Nat} (hR : MR M) (hT : TapeM l M) {i : Nat} (hi : i < l.length) : E 0 0 0 Y_TM_byteAt 0 [some (.ref 0), some (.int (nI i))] [] GM M (QI GM fun r M' => r = nI (l.getD i 0) ∧ M' = M) := by
  have h3 := hT.1
  have h4 := hT.2.1
  have hb := hT.2.2.1 i hi
  refine E_iload_n d_TM_byteAt_0 rfl ?_
  first | refine E_aload_n d_TM_byteAt_1 rfl ?_ | refine E_aload_nN d_TM_byteAt_1 rfl ?_
  refine E_getI d_TM_byteAt_2 gf_TM_77 (by exact ⟨by decide, rfl⟩) (by exact h4) ?_
  first | (with_reducible refine E_isN2 ?_; refine E_icmp_ge 17 d_TM_byteAt_5 rfl (nb_le (by omega) (by omega) fun h5 => ?_) (nb_nle (by omega) (by omega) fun h5 => ?_)) | refine E_icmp_ge 17 d_TM_byteAt_5 rfl (fun h5 => ?_) (fun h5 => ?_)
  · exfalso; omega
  first | refine E_aload_n d_TM_byteAt_8 rfl ?_ | refine E_aload_nN d_TM_byteAt_8 rfl ?_
  refine E_getR (q := 4) d_TM_byteAt_9 gf_TM_19 (by exact ⟨by decide, rfl⟩) (by exact hR _ rfl) ?_
  refine E_iload_n d_TM_byteAt_12 rfl ?_
  refine E_iald d_TM_byteAt_13 (by exact ⟨by decide, rfl⟩) (by exact ⟨by with_reducible rfl, by omega, by decide⟩) (by exact hb) ?_
  refine E_goto 18 d_TM_byteAt_14 rfl ?_
  refine E_retI d_TM_byteAt_18 rfl ?_
  exact ⟨rfl, rfl⟩
theorem sp_TM_byteAtN {l : List Nat} (hR : MR M) (hT : TapeM l M) {i : Nat} (hi : i = l.length) : E 0 0 0 Y_TM_byteAt 0 [some (.ref 0), some (.int (nI i))] [] GM M (QI GM fun r M' => r = -1 ∧ M' = M) := by
  have h3 := hT.1
  have h4 := hT.2.1
  refine E_iload_n d_TM_byteAt_0 rfl ?_
  first | refine E_aload_n d_TM_byteAt_1 rfl ?_ | refine E_aload_nN d_TM_byteAt_1 rfl ?_
  refine E_getI d_TM_byteAt_2 gf_TM_77 (by exact ⟨by decide, rfl⟩) (by exact h4) ?_
  first | (with_reducible refine E_isN2 ?_; refine E_icmp_ge 17 d_TM_byteAt_5 rfl (nb_le (by omega) (by omega) fun h5 => ?_) (nb_nle (by omega) (by omega) fun h5 => ?_)) | refine E_icmp_ge 17 d_TM_byteAt_5 rfl (fun h5 => ?_) (fun h5 => ?_)
  rotate_left
  · exfalso; omega
  refine E_iconst (v := (-1)) d_TM_byteAt_17 rfl ?_
  refine E_retI d_TM_byteAt_18 rfl ?_
  exact ⟨rfl, rfl⟩
theorem sp_TM_isLetterByte {b : Nat} (hb : b < 256) : E 0 0 0 Y_TM_isLetterByte 0 [some (.int (nI b))] [] GM M (QI GM fun r M' => r = pI (isL b = true) ∧ M' = M) := by
  have k : ∀ P : Prop, P → (97 ≤ b ∧ b ≤ 122) ∨ (65 ≤ b ∧ b ≤ 90) → nI 1 = pI (isL b = true) := fun _ _ q => (pI_t (isL_iff.mpr q)).symm
  have k0 : ¬ ((97 ≤ b ∧ b ≤ 122) ∨ (65 ≤ b ∧ b ≤ 90)) → nI 0 = pI (isL b = true) := fun q => (pI_f (fun r => q (isL_iff.mp r))).symm
  refine E_iload_n d_TM_isLetterByte_0 rfl ?_
  refine E_bipush (v := nI 97) d_TM_isLetterByte_1 (by decide) ?_
  first | (with_reducible refine E_isN2 ?_; refine E_icmp_lt 12 d_TM_isLetterByte_3 rfl (nb_lt (by omega) (by omega) fun h3 => ?_) (nb_nlt (by omega) (by omega) fun h3 => ?_)) | refine E_icmp_lt 12 d_TM_isLetterByte_3 rfl (fun h3 => ?_) (fun h3 => ?_)
  · refine E_iload_n d_TM_isLetterByte_12 rfl ?_
    refine E_bipush (v := nI 65) d_TM_isLetterByte_13 (by decide) ?_
    first | (with_reducible refine E_isN2 ?_; refine E_icmp_lt 28 d_TM_isLetterByte_15 rfl (nb_lt (by omega) (by omega) fun h15 => ?_) (nb_nlt (by omega) (by omega) fun h15 => ?_)) | refine E_icmp_lt 28 d_TM_isLetterByte_15 rfl (fun h15 => ?_) (fun h15 => ?_)
    · refine E_iconst (v := nI 0) d_TM_isLetterByte_28 rfl ?_
      refine E_retZ d_TM_isLetterByte_29 rfl (by decide) ?_
      exact ⟨by first | exact k True trivial (by omega) | exact k0 (by omega), rfl⟩
    · refine E_iload_n d_TM_isLetterByte_18 rfl ?_
      refine E_bipush (v := nI 90) d_TM_isLetterByte_19 (by decide) ?_
      first | (with_reducible refine E_isN2 ?_; refine E_icmp_gt 28 d_TM_isLetterByte_21 rfl (nb_lt (by omega) (by omega) fun h21 => ?_) (nb_nlt (by omega) (by omega) fun h21 => ?_)) | refine E_icmp_gt 28 d_TM_isLetterByte_21 rfl (fun h21 => ?_) (fun h21 => ?_)
      · refine E_iconst (v := nI 0) d_TM_isLetterByte_28 rfl ?_
        refine E_retZ d_TM_isLetterByte_29 rfl (by decide) ?_
        exact ⟨by first | exact k True trivial (by omega) | exact k0 (by omega), rfl⟩
      · refine E_iconst (v := nI 1) d_TM_isLetterByte_24 rfl ?_
        refine E_goto 29 d_TM_isLetterByte_25 rfl ?_
        refine E_retZ d_TM_isLetterByte_29 rfl (by decide) ?_
        exact ⟨by first | exact k True trivial (by omega) | exact k0 (by omega), rfl⟩
  · refine E_iload_n d_TM_isLetterByte_6 rfl ?_
    refine E_bipush (v := nI 122) d_TM_isLetterByte_7 (by decide) ?_
    first | (with_reducible refine E_isN2 ?_; refine E_icmp_le 24 d_TM_isLetterByte_9 rfl (nb_le (by omega) (by omega) fun h9 => ?_) (nb_nle (by omega) (by omega) fun h9 => ?_)) | refine E_icmp_le 24 d_TM_isLetterByte_9 rfl (fun h9 => ?_) (fun h9 => ?_)
    · refine E_iconst (v := nI 1) d_TM_isLetterByte_24 rfl ?_
      refine E_goto 29 d_TM_isLetterByte_25 rfl ?_
      refine E_retZ d_TM_isLetterByte_29 rfl (by decide) ?_
      exact ⟨by first | exact k True trivial (by omega) | exact k0 (by omega), rfl⟩
    · refine E_iload_n d_TM_isLetterByte_12 rfl ?_
      refine E_bipush (v := nI 65) d_TM_isLetterByte_13 (by decide) ?_
      first | (with_reducible refine E_isN2 ?_; refine E_icmp_lt 28 d_TM_isLetterByte_15 rfl (nb_lt (by omega) (by omega) fun h15 => ?_) (nb_nlt (by omega) (by omega) fun h15 => ?_)) | refine E_icmp_lt 28 d_TM_isLetterByte_15 rfl (fun h15 => ?_) (fun h15 => ?_)
      · refine E_iconst (v := nI 0) d_TM_isLetterByte_28 rfl ?_
        refine E_retZ d_TM_isLetterByte_29 rfl (by decide) ?_
        exact ⟨by first | exact k True trivial (by omega) | exact k0 (by omega), rfl⟩
      · refine E_iload_n d_TM_isLetterByte_18 rfl ?_
        refine E_bipush (v := nI 90) d_TM_isLetterByte_19 (by decide) ?_
        first | (with_reducible refine E_isN2 ?_; refine E_icmp_gt 28 d_TM_isLetterByte_21 rfl (nb_lt (by omega) (by omega) fun h21 => ?_) (nb_nlt (by omega) (by omega) fun h21 => ?_)) | refine E_icmp_gt 28 d_TM_isLetterByte_21 rfl (fun h21 => ?_) (fun h21 => ?_)
        · refine E_iconst (v := nI 0) d_TM_isLetterByte_28 rfl ?_
          refine E_retZ d_TM_isLetterByte_29 rfl (by decide) ?_
          exact ⟨by first | exact k True trivial (by omega) | exact k0 (by omega), rfl⟩
        · refine E_iconst (v := nI 1) d_TM_isLetterByte_24 rfl ?_
          refine E_goto 29 d_TM_isLetterByte_25 rfl ?_
          refine E_retZ d_TM_isLetterByte_29 rfl (by decide) ?_
          exact ⟨by first | exact k True trivial (by omega) | exact k0 (by omega), rfl⟩
theorem sp_TM_isFigure {b : Nat} (hb : b < 256) : E 0 0 0 Y_TM_isFigure 0 [some (.int (nI b))] [] GM M (QI GM fun r M' => r = pI (isD b = true) ∧ M' = M) := by
  have k : 48 ≤ b ∧ b ≤ 57 → nI 1 = pI (isD b = true) := fun q => (pI_t (isD_iff.mpr q)).symm
  have k0 : ¬ (48 ≤ b ∧ b ≤ 57) → nI 0 = pI (isD b = true) := fun q => (pI_f (fun r => q (isD_iff.mp r))).symm
  refine E_iload_n d_TM_isFigure_0 rfl ?_
  refine E_bipush (v := nI 48) d_TM_isFigure_1 (by decide) ?_
  first | (with_reducible refine E_isN2 ?_; refine E_icmp_lt 16 d_TM_isFigure_3 rfl (nb_lt (by omega) (by omega) fun h3 => ?_) (nb_nlt (by omega) (by omega) fun h3 => ?_)) | refine E_icmp_lt 16 d_TM_isFigure_3 rfl (fun h3 => ?_) (fun h3 => ?_)
  · refine E_iconst (v := nI 0) d_TM_isFigure_16 rfl ?_
    refine E_retZ d_TM_isFigure_17 rfl (by decide) ?_
    exact ⟨by first | exact k (by omega) | exact k0 (by omega), rfl⟩
  · refine E_iload_n d_TM_isFigure_6 rfl ?_
    refine E_bipush (v := nI 57) d_TM_isFigure_7 (by decide) ?_
    first | (with_reducible refine E_isN2 ?_; refine E_icmp_gt 16 d_TM_isFigure_9 rfl (nb_lt (by omega) (by omega) fun h9 => ?_) (nb_nlt (by omega) (by omega) fun h9 => ?_)) | refine E_icmp_gt 16 d_TM_isFigure_9 rfl (fun h9 => ?_) (fun h9 => ?_)
    · refine E_iconst (v := nI 0) d_TM_isFigure_16 rfl ?_
      refine E_retZ d_TM_isFigure_17 rfl (by decide) ?_
      exact ⟨by first | exact k (by omega) | exact k0 (by omega), rfl⟩
    · refine E_iconst (v := nI 1) d_TM_isFigure_12 rfl ?_
      refine E_goto 17 d_TM_isFigure_13 rfl ?_
      refine E_retZ d_TM_isFigure_17 rfl (by decide) ?_
      exact ⟨by first | exact k (by omega) | exact k0 (by omega), rfl⟩
theorem isL_N : isL 0 = false ∧ isD 0 = false := by decide
theorem sp_TM_isFigureN : E 0 0 0 Y_TM_isFigure 0 [some (.int (-1))] [] GM M (QI GM fun r M' => r = nI 0 ∧ M' = M) := by
  refine E_iload_n d_TM_isFigure_0 rfl ?_
  refine E_bipush (v := nI 48) d_TM_isFigure_1 (by decide) ?_
  first | (with_reducible refine E_isN2 ?_; refine E_icmp_lt 16 d_TM_isFigure_3 rfl (nb_lt (by omega) (by omega) fun h3 => ?_) (nb_nlt (by omega) (by omega) fun h3 => ?_)) | refine E_icmp_lt 16 d_TM_isFigure_3 rfl (fun h3 => ?_) (fun h3 => ?_)
  rotate_left
  · exfalso; exact h3 (by decide)
  refine E_iconst (v := nI 0) d_TM_isFigure_16 rfl ?_
  refine E_retZ d_TM_isFigure_17 rfl (by decide) ?_
  exact ⟨rfl, rfl⟩
theorem sp_TM_isLetterByteN : E 0 0 0 Y_TM_isLetterByte 0 [some (.int (-1))] [] GM M (QI GM fun r M' => r = nI 0 ∧ M' = M) := by
  refine E_iload_n d_TM_isLetterByte_0 rfl ?_
  refine E_bipush (v := nI 97) d_TM_isLetterByte_1 (by decide) ?_
  first | (with_reducible refine E_isN2 ?_; refine E_icmp_lt 12 d_TM_isLetterByte_3 rfl (nb_lt (by omega) (by omega) fun h3 => ?_) (nb_nlt (by omega) (by omega) fun h3 => ?_)) | refine E_icmp_lt 12 d_TM_isLetterByte_3 rfl (fun h3 => ?_) (fun h3 => ?_)
  rotate_left
  · exfalso; exact h3 (by decide)
  refine E_iload_n d_TM_isLetterByte_12 rfl ?_
  refine E_bipush (v := nI 65) d_TM_isLetterByte_13 (by decide) ?_
  first | (with_reducible refine E_isN2 ?_; refine E_icmp_lt 28 d_TM_isLetterByte_15 rfl (nb_lt (by omega) (by omega) fun h15 => ?_) (nb_nlt (by omega) (by omega) fun h15 => ?_)) | refine E_icmp_lt 28 d_TM_isLetterByte_15 rfl (fun h15 => ?_) (fun h15 => ?_)
  rotate_left
  · exfalso; exact h15 (by decide)
  refine E_iconst (v := nI 0) d_TM_isLetterByte_28 rfl ?_
  refine E_retZ d_TM_isLetterByte_29 rfl (by decide) ?_
  exact ⟨rfl, rfl⟩
def isSg (b : Nat) : Bool := decide (mkS b ≠ 41 ∨ b = 58)
theorem isSg_out {b : Nat} (h : b < 35 ∨ 62 < b) : isSg b = false := by
  have e : mkS b = 41 := by
    unfold mkS
    repeat' split
    all_goals omega
  exact decide_eq_false (fun q => by rw [e] at q; omega)
theorem sp_TM_isSign {b : Nat} (hb : b < 256) : E 0 0 0 Y_TM_isSign 0 [some (.int (nI b))] [] GM M (QI GM fun r M' => r = pI (isSg b = true) ∧ M' = M) := by
  by_cases h : b < 35 ∨ 62 < b
  · have e := isSg_out h
    have hsw : (nI b).toInt < 35 ∨ 62 < (nI b).toInt := by rw [nI_toInt (by omega)]; omega
    rw [e]
    refine E_iload_n d_TM_isSign_0 rfl ?_
    refine E_tableOut 130 d_TM_isSign_1 (by exact hsw) rfl ?_
    refine E_iconst (v := nI 0) d_TM_isSign_130 rfl ?_
    refine E_retZ d_TM_isSign_131 rfl (by decide) ?_
    exact ⟨rfl, rfl⟩
  · rcases (show b = 35 ∨ b = 36 ∨ b = 37 ∨ b = 38 ∨ b = 39 ∨ b = 40 ∨ b = 41 ∨ b = 42 ∨ b = 43 ∨ b = 44 ∨ b = 45 ∨ b = 46 ∨ b = 47 ∨ b = 48 ∨ b = 49 ∨ b = 50 ∨ b = 51 ∨ b = 52 ∨ b = 53 ∨ b = 54 ∨ b = 55 ∨ b = 56 ∨ b = 57 ∨ b = 58 ∨ b = 59 ∨ b = 60 ∨ b = 61 ∨ b = 62 by omega) with rfl | rfl | rfl | rfl | rfl | rfl | rfl | rfl | rfl | rfl | rfl | rfl | rfl | rfl | rfl | rfl | rfl | rfl | rfl | rfl | rfl | rfl | rfl | rfl | rfl | rfl | rfl | rfl
    · refine E_iload_n d_TM_isSign_0 rfl ?_
      refine E_tableIn 128 d_TM_isSign_1 (by decide) (by decide) (by first | rfl | decide) rfl ?_
      refine E_iconst (v := nI 1) d_TM_isSign_128 rfl ?_
      refine E_retZ d_TM_isSign_129 rfl (by decide) ?_
      exact ⟨by decide +kernel, rfl⟩
    · refine E_iload_n d_TM_isSign_0 rfl ?_
      refine E_tableIn 130 d_TM_isSign_1 (by decide) (by decide) (by first | rfl | decide) rfl ?_
      refine E_iconst (v := nI 0) d_TM_isSign_130 rfl ?_
      refine E_retZ d_TM_isSign_131 rfl (by decide) ?_
      exact ⟨by decide +kernel, rfl⟩
    · refine E_iload_n d_TM_isSign_0 rfl ?_
      refine E_tableIn 130 d_TM_isSign_1 (by decide) (by decide) (by first | rfl | decide) rfl ?_
      refine E_iconst (v := nI 0) d_TM_isSign_130 rfl ?_
      refine E_retZ d_TM_isSign_131 rfl (by decide) ?_
      exact ⟨by decide +kernel, rfl⟩
    · refine E_iload_n d_TM_isSign_0 rfl ?_
      refine E_tableIn 130 d_TM_isSign_1 (by decide) (by decide) (by first | rfl | decide) rfl ?_
      refine E_iconst (v := nI 0) d_TM_isSign_130 rfl ?_
      refine E_retZ d_TM_isSign_131 rfl (by decide) ?_
      exact ⟨by decide +kernel, rfl⟩
    · refine E_iload_n d_TM_isSign_0 rfl ?_
      refine E_tableIn 130 d_TM_isSign_1 (by decide) (by decide) (by first | rfl | decide) rfl ?_
      refine E_iconst (v := nI 0) d_TM_isSign_130 rfl ?_
      refine E_retZ d_TM_isSign_131 rfl (by decide) ?_
      exact ⟨by decide +kernel, rfl⟩
    · refine E_iload_n d_TM_isSign_0 rfl ?_
      refine E_tableIn 128 d_TM_isSign_1 (by decide) (by decide) (by first | rfl | decide) rfl ?_
      refine E_iconst (v := nI 1) d_TM_isSign_128 rfl ?_
      refine E_retZ d_TM_isSign_129 rfl (by decide) ?_
      exact ⟨by decide +kernel, rfl⟩
    · refine E_iload_n d_TM_isSign_0 rfl ?_
      refine E_tableIn 128 d_TM_isSign_1 (by decide) (by decide) (by first | rfl | decide) rfl ?_
      refine E_iconst (v := nI 1) d_TM_isSign_128 rfl ?_
      refine E_retZ d_TM_isSign_129 rfl (by decide) ?_
      exact ⟨by decide +kernel, rfl⟩
    · refine E_iload_n d_TM_isSign_0 rfl ?_
      refine E_tableIn 128 d_TM_isSign_1 (by decide) (by decide) (by first | rfl | decide) rfl ?_
      refine E_iconst (v := nI 1) d_TM_isSign_128 rfl ?_
      refine E_retZ d_TM_isSign_129 rfl (by decide) ?_
      exact ⟨by decide +kernel, rfl⟩
    · refine E_iload_n d_TM_isSign_0 rfl ?_
      refine E_tableIn 128 d_TM_isSign_1 (by decide) (by decide) (by first | rfl | decide) rfl ?_
      refine E_iconst (v := nI 1) d_TM_isSign_128 rfl ?_
      refine E_retZ d_TM_isSign_129 rfl (by decide) ?_
      exact ⟨by decide +kernel, rfl⟩
    · refine E_iload_n d_TM_isSign_0 rfl ?_
      refine E_tableIn 130 d_TM_isSign_1 (by decide) (by decide) (by first | rfl | decide) rfl ?_
      refine E_iconst (v := nI 0) d_TM_isSign_130 rfl ?_
      refine E_retZ d_TM_isSign_131 rfl (by decide) ?_
      exact ⟨by decide +kernel, rfl⟩
    · refine E_iload_n d_TM_isSign_0 rfl ?_
      refine E_tableIn 128 d_TM_isSign_1 (by decide) (by decide) (by first | rfl | decide) rfl ?_
      refine E_iconst (v := nI 1) d_TM_isSign_128 rfl ?_
      refine E_retZ d_TM_isSign_129 rfl (by decide) ?_
      exact ⟨by decide +kernel, rfl⟩
    · refine E_iload_n d_TM_isSign_0 rfl ?_
      refine E_tableIn 130 d_TM_isSign_1 (by decide) (by decide) (by first | rfl | decide) rfl ?_
      refine E_iconst (v := nI 0) d_TM_isSign_130 rfl ?_
      refine E_retZ d_TM_isSign_131 rfl (by decide) ?_
      exact ⟨by decide +kernel, rfl⟩
    · refine E_iload_n d_TM_isSign_0 rfl ?_
      refine E_tableIn 128 d_TM_isSign_1 (by decide) (by decide) (by first | rfl | decide) rfl ?_
      refine E_iconst (v := nI 1) d_TM_isSign_128 rfl ?_
      refine E_retZ d_TM_isSign_129 rfl (by decide) ?_
      exact ⟨by decide +kernel, rfl⟩
    · refine E_iload_n d_TM_isSign_0 rfl ?_
      refine E_tableIn 130 d_TM_isSign_1 (by decide) (by decide) (by first | rfl | decide) rfl ?_
      refine E_iconst (v := nI 0) d_TM_isSign_130 rfl ?_
      refine E_retZ d_TM_isSign_131 rfl (by decide) ?_
      exact ⟨by decide +kernel, rfl⟩
    · refine E_iload_n d_TM_isSign_0 rfl ?_
      refine E_tableIn 130 d_TM_isSign_1 (by decide) (by decide) (by first | rfl | decide) rfl ?_
      refine E_iconst (v := nI 0) d_TM_isSign_130 rfl ?_
      refine E_retZ d_TM_isSign_131 rfl (by decide) ?_
      exact ⟨by decide +kernel, rfl⟩
    · refine E_iload_n d_TM_isSign_0 rfl ?_
      refine E_tableIn 130 d_TM_isSign_1 (by decide) (by decide) (by first | rfl | decide) rfl ?_
      refine E_iconst (v := nI 0) d_TM_isSign_130 rfl ?_
      refine E_retZ d_TM_isSign_131 rfl (by decide) ?_
      exact ⟨by decide +kernel, rfl⟩
    · refine E_iload_n d_TM_isSign_0 rfl ?_
      refine E_tableIn 130 d_TM_isSign_1 (by decide) (by decide) (by first | rfl | decide) rfl ?_
      refine E_iconst (v := nI 0) d_TM_isSign_130 rfl ?_
      refine E_retZ d_TM_isSign_131 rfl (by decide) ?_
      exact ⟨by decide +kernel, rfl⟩
    · refine E_iload_n d_TM_isSign_0 rfl ?_
      refine E_tableIn 130 d_TM_isSign_1 (by decide) (by decide) (by first | rfl | decide) rfl ?_
      refine E_iconst (v := nI 0) d_TM_isSign_130 rfl ?_
      refine E_retZ d_TM_isSign_131 rfl (by decide) ?_
      exact ⟨by decide +kernel, rfl⟩
    · refine E_iload_n d_TM_isSign_0 rfl ?_
      refine E_tableIn 130 d_TM_isSign_1 (by decide) (by decide) (by first | rfl | decide) rfl ?_
      refine E_iconst (v := nI 0) d_TM_isSign_130 rfl ?_
      refine E_retZ d_TM_isSign_131 rfl (by decide) ?_
      exact ⟨by decide +kernel, rfl⟩
    · refine E_iload_n d_TM_isSign_0 rfl ?_
      refine E_tableIn 130 d_TM_isSign_1 (by decide) (by decide) (by first | rfl | decide) rfl ?_
      refine E_iconst (v := nI 0) d_TM_isSign_130 rfl ?_
      refine E_retZ d_TM_isSign_131 rfl (by decide) ?_
      exact ⟨by decide +kernel, rfl⟩
    · refine E_iload_n d_TM_isSign_0 rfl ?_
      refine E_tableIn 130 d_TM_isSign_1 (by decide) (by decide) (by first | rfl | decide) rfl ?_
      refine E_iconst (v := nI 0) d_TM_isSign_130 rfl ?_
      refine E_retZ d_TM_isSign_131 rfl (by decide) ?_
      exact ⟨by decide +kernel, rfl⟩
    · refine E_iload_n d_TM_isSign_0 rfl ?_
      refine E_tableIn 130 d_TM_isSign_1 (by decide) (by decide) (by first | rfl | decide) rfl ?_
      refine E_iconst (v := nI 0) d_TM_isSign_130 rfl ?_
      refine E_retZ d_TM_isSign_131 rfl (by decide) ?_
      exact ⟨by decide +kernel, rfl⟩
    · refine E_iload_n d_TM_isSign_0 rfl ?_
      refine E_tableIn 130 d_TM_isSign_1 (by decide) (by decide) (by first | rfl | decide) rfl ?_
      refine E_iconst (v := nI 0) d_TM_isSign_130 rfl ?_
      refine E_retZ d_TM_isSign_131 rfl (by decide) ?_
      exact ⟨by decide +kernel, rfl⟩
    · refine E_iload_n d_TM_isSign_0 rfl ?_
      refine E_tableIn 128 d_TM_isSign_1 (by decide) (by decide) (by first | rfl | decide) rfl ?_
      refine E_iconst (v := nI 1) d_TM_isSign_128 rfl ?_
      refine E_retZ d_TM_isSign_129 rfl (by decide) ?_
      exact ⟨by decide +kernel, rfl⟩
    · refine E_iload_n d_TM_isSign_0 rfl ?_
      refine E_tableIn 128 d_TM_isSign_1 (by decide) (by decide) (by first | rfl | decide) rfl ?_
      refine E_iconst (v := nI 1) d_TM_isSign_128 rfl ?_
      refine E_retZ d_TM_isSign_129 rfl (by decide) ?_
      exact ⟨by decide +kernel, rfl⟩
    · refine E_iload_n d_TM_isSign_0 rfl ?_
      refine E_tableIn 128 d_TM_isSign_1 (by decide) (by decide) (by first | rfl | decide) rfl ?_
      refine E_iconst (v := nI 1) d_TM_isSign_128 rfl ?_
      refine E_retZ d_TM_isSign_129 rfl (by decide) ?_
      exact ⟨by decide +kernel, rfl⟩
    · refine E_iload_n d_TM_isSign_0 rfl ?_
      refine E_tableIn 128 d_TM_isSign_1 (by decide) (by decide) (by first | rfl | decide) rfl ?_
      refine E_iconst (v := nI 1) d_TM_isSign_128 rfl ?_
      refine E_retZ d_TM_isSign_129 rfl (by decide) ?_
      exact ⟨by decide +kernel, rfl⟩
    · refine E_iload_n d_TM_isSign_0 rfl ?_
      refine E_tableIn 128 d_TM_isSign_1 (by decide) (by decide) (by first | rfl | decide) rfl ?_
      refine E_iconst (v := nI 1) d_TM_isSign_128 rfl ?_
      refine E_retZ d_TM_isSign_129 rfl (by decide) ?_
      exact ⟨by decide +kernel, rfl⟩
def sgT (t : Nat) : Nat := if t = 0 then 40 else if t = 4 then 26 else if t = 5 then 27 else mkS t
def mn (n : Nat) : Nat := if n < 10000 then n else 10000
def TokR (s v t n w : Nat) : Prop := s = (if t = 1 then 39 else if t = 2 then sgN w else sgT t) ∧ (t = 1 → v = mn n) ∧ (t ≠ 1 → v = 0) ∧ t < 256 ∧ n ≤ 1000000 ∧ w ≤ 1152921504606846976
def TKM (l : List Nat) (k : Nat) (M : Mem) : Prop := mI M 0 8 = nI (PP l k) ∧ mI M 0 7 = nI (EE l k) ∧ ∃ t n w, mI M 0 9 = nI t ∧ mI M 0 10 = nI n ∧ mL M 0 11 = lN w ∧ TokR (SS l k) (VV l k) t n w
theorem dig_step {n b : Nat} (h1 : 48 ≤ b) (h2 : b ≤ 57) : mn (if 99999 < n then n else 10 * n + b - 48) = (if mn n * 10 + b - 48 < 10000 then mn n * 10 + b - 48 else 10000) := by
  unfold mn
  repeat' split
  all_goals omega
theorem lp_TM_dig {M0 : Mem} {l : List Nat} {k : Nat} (hR0 : MR M0) (hT0 : TapeM l M0) (hp : PP l k < l.length) (hd : isD (l.getD (PP l k) 0) = true) (hnl : ¬ isL (l.getD (PP l k) 0) = true) {x : Option Value} {W0 : Nat} (hW0 : W0 ≤ 1152921504606846976) : ∀ j i M n, l.length - i = j → i ≤ l.length → rl isD l i = rl isD l (PP l k) → nvC l (rl isD l i - i) i (mn n) = VV l k → n ≤ 1000000 → Fx Jn An M0 M → mI M 0 8 = nI (PP l k) → mI M 0 7 = nI i → mI M 0 9 = nI 1 → mI M 0 10 = nI n → mL M 0 11 = lN W0 →
    E 1 0 0 Y_TM_nextToken 85 [some (.ref 0), x] [] GM M (QV GM fun M' => TKM l k M' ∧ Fx Jn An M0 M') := by
  intro j
  induction j with
  | zero =>
    intro i M n hj hi hE hv hn hX h8 h7 h9 h10 h11
    have hR := hR0.fx hX
    have hT := hT0.fx hX (by unfold Jn; omega) (fun q => q)
    have hil : i = l.length := by omega
    have e0 : rl isD l i = i := rl_stop (fun q => by omega)
    have ok : TKM l k M := by
      refine ⟨h8, ?_, 1, n, W0, h9, h10, h11, ?_, fun _ => ?_, fun q => absurd rfl q, by decide, hn, hW0⟩
      · rw [h7]; unfold EE tkE; rw [if_pos hp, if_neg hnl, if_pos hd]; show nI i = nI (rl isD l (PP l k)); rw [← hE, e0]
      · unfold SS tkE; rw [if_pos hp, if_neg hnl, if_pos hd]; rfl
      · rw [← hv, e0, Nat.sub_self]; rfl
    first | refine E_aload_n d_TM_nextToken_85 rfl ?_ | refine E_aload_nN d_TM_nextToken_85 rfl ?_
    first | refine E_aload_n d_TM_nextToken_86 rfl ?_ | refine E_aload_nN d_TM_nextToken_86 rfl ?_
    refine E_getI d_TM_nextToken_87 gf_TM_84 (by exact ⟨by decide, rfl⟩) (by exact h7) ?_
    refine E_V1 (sp_TM_byteAtN hR hT hil) d_TM_nextToken_90 ml_TM_87 cb_TM_byteAt cv_TM_byteAt (by exact ⟨by decide, rfl⟩) ⟨by decide, rfl⟩ ⟨by decide, by decide⟩ rfl (Nat.le_of_ble_eq_true rfl) (Nat.le_of_ble_eq_true rfl) (kI fun r1 M1 hc => ?_)
    obtain ⟨rfl, rfl⟩ := hc
    refine E_S1 (sp_TM_isFigureN) d_TM_nextToken_93 ml_TM_97 cb_TM_isFigure cs_TM_isFigure ⟨by decide, by decide⟩ rfl (Nat.le_of_ble_eq_true rfl) (Nat.le_of_ble_eq_true rfl) (kI fun r1 M1 hc => ?_)
    obtain ⟨rfl, rfl⟩ := hc
    first | (with_reducible refine E_isP ?_; refine E_if_eq 310 d_TM_nextToken_96 rfl (pb_0 fun h96 => ?_) (pb_1 fun h96 => ?_)) | (with_reducible refine E_isN1 ?_; refine E_if_eq 310 d_TM_nextToken_96 rfl (nz_eq (by omega) fun h96 => ?_) (nz_ne fun h96 => ?_)) | refine E_if_eq 310 d_TM_nextToken_96 rfl (fun h96 => ?_) (fun h96 => ?_)
    rotate_left
    · exfalso; omega
    refine E_retV d_TM_nextToken_310 rfl ?_
    exact ⟨ok, hX⟩
  | succ j ih =>
    intro i M n hj hi hE hv hn hX h8 h7 h9 h10 h11
    have hR := hR0.fx hX
    have hT := hT0.fx hX (by unfold Jn; omega) (fun q => q)
    have hil : i < l.length := by omega
    have hb := hT.b hil
    by_cases hdi : isD (l.getD i 0) = true
    · have hbd := isD_iff.mp hdi
      have e1 : rl isD l i = rl isD l (i + 1) := rl_step hil hdi
      have hge : i + 1 ≤ rl isD l (i + 1) := rl_ge hil
      have hv2 : ∀ n', n' = (if 99999 < n then n else 10 * n + l.getD i 0 - 48) → nvC l (rl isD l (i + 1) - (i + 1)) (i + 1) (mn n') = VV l k := fun n' e => by
        rw [e, dig_step hbd.1 hbd.2, ← hv, e1, show rl isD l (i + 1) - i = rl isD l (i + 1) - (i + 1) + 1 by omega, nvC]
      have kk : ∀ n', n' = (if 99999 < n then n else 10 * n + l.getD i 0 - 48) → E 1 0 0 Y_TM_nextToken 85 [some (.ref 0), x] [] GM (wI (wI M 0 10 (nI n')) 0 7 (nI (i + 1))) (QV GM fun M' => TKM l k M' ∧ Fx Jn An M0 M') := fun n' e => by
        refine ih (i + 1) _ n' (by omega) hil (e1.symm.trans hE) (hv2 n' e) (by rw [e]; split <;> omega) ((hX.wI (by unfold Jn; omega)).wI (by unfold Jn; omega)) ?_ ?_ ?_ ?_ h11
        · rw [mI_wa, if_neg (by decide), mI_wa, if_neg (by decide)]; exact h8
        · rw [mI_wa, if_pos rfl]
        · rw [mI_wa, if_neg (by decide), mI_wa, if_neg (by decide)]; exact h9
        · rw [mI_wa, if_neg (by decide), mI_wa, if_pos rfl]
      have r7 : ∀ v, mI (wI M 0 10 v) 0 7 = nI i := fun v => by rw [mI_wa, if_neg (by decide)]; exact h7
      have ka := fun h : ¬ n ≤ 99999 => kk n (by rw [if_pos (by omega)])
      have kb := fun h : n ≤ 99999 => kk (10 * n + l.getD i 0 - 48) (by rw [if_neg (by omega)])
      generalize hbb : l.getD i 0 = b at *
      have sb : E 0 0 0 Y_TM_byteAt 0 [some (.ref 0), some (.int (nI i))] [] GM M (QI GM fun r M' => r = nI b ∧ M' = M) := by rw [← hbb]; exact sp_TM_byteAt hR hT hil
      have c1 : nI n ≤ 99999 ↔ n ≤ 99999 := nI_leI (b := 99999) (by omega) (by decide)
      first | refine E_aload_n d_TM_nextToken_85 rfl ?_ | refine E_aload_nN d_TM_nextToken_85 rfl ?_
      first | refine E_aload_n d_TM_nextToken_86 rfl ?_ | refine E_aload_nN d_TM_nextToken_86 rfl ?_
      refine E_getI d_TM_nextToken_87 gf_TM_84 (by exact ⟨by decide, rfl⟩) (by exact h7) ?_
      refine E_V1 (sb) d_TM_nextToken_90 ml_TM_87 cb_TM_byteAt cv_TM_byteAt (by exact ⟨by decide, rfl⟩) ⟨by decide, rfl⟩ ⟨by decide, by decide⟩ rfl (Nat.le_of_ble_eq_true rfl) (Nat.le_of_ble_eq_true rfl) (kI fun r1 M1 hc => ?_)
      obtain ⟨rfl, rfl⟩ := hc
      refine E_S1 (sp_TM_isFigure hb) d_TM_nextToken_93 ml_TM_97 cb_TM_isFigure cs_TM_isFigure ⟨by decide, by decide⟩ rfl (Nat.le_of_ble_eq_true rfl) (Nat.le_of_ble_eq_true rfl) (kI fun r1 M1 hc => ?_)
      obtain ⟨rfl, rfl⟩ := hc
      first | (with_reducible refine E_isP ?_; refine E_if_eq 310 d_TM_nextToken_96 rfl (pb_0 fun h96 => ?_) (pb_1 fun h96 => ?_)) | (with_reducible refine E_isN1 ?_; refine E_if_eq 310 d_TM_nextToken_96 rfl (nz_eq (by omega) fun h96 => ?_) (nz_ne fun h96 => ?_)) | refine E_if_eq 310 d_TM_nextToken_96 rfl (fun h96 => ?_) (fun h96 => ?_)
      · exfalso; exact h96 hdi
      first | refine E_aload_n d_TM_nextToken_99 rfl ?_ | refine E_aload_nN d_TM_nextToken_99 rfl ?_
      first | refine E_aload_n d_TM_nextToken_100 rfl ?_ | refine E_aload_nN d_TM_nextToken_100 rfl ?_
      refine E_getI d_TM_nextToken_101 gf_TM_100 (by exact ⟨by decide, rfl⟩) (by exact h10) ?_
      refine E_ldc d_TM_nextToken_104 kc_TM_103 ?_
      first | (with_reducible refine E_isN2 ?_; refine E_icmp_le 116 d_TM_nextToken_106 rfl (nb_le (by omega) (by omega) fun h106 => ?_) (nb_nle (by omega) (by omega) fun h106 => ?_)) | refine E_icmp_le 116 d_TM_nextToken_106 rfl (fun h106 => ?_) (fun h106 => ?_)
      · refine E_bipush (v := nI 10) d_TM_nextToken_116 (by decide) ?_
        first | refine E_aload_n d_TM_nextToken_118 rfl ?_ | refine E_aload_nN d_TM_nextToken_118 rfl ?_
        refine E_getI d_TM_nextToken_119 gf_TM_100 (by exact ⟨by decide, rfl⟩) (by exact h10) ?_
        first | (with_reducible refine E_isN2 ?_; refine E_imulN d_TM_nextToken_122 ?_) | refine E_imul d_TM_nextToken_122 ?_
        first | refine E_aload_n d_TM_nextToken_123 rfl ?_ | refine E_aload_nN d_TM_nextToken_123 rfl ?_
        first | refine E_aload_n d_TM_nextToken_124 rfl ?_ | refine E_aload_nN d_TM_nextToken_124 rfl ?_
        refine E_getI d_TM_nextToken_125 gf_TM_84 (by exact ⟨by decide, rfl⟩) (by exact h7) ?_
        refine E_V1 (sb) d_TM_nextToken_128 ml_TM_87 cb_TM_byteAt cv_TM_byteAt (by exact ⟨by decide, rfl⟩) ⟨by decide, rfl⟩ ⟨by decide, by decide⟩ rfl (Nat.le_of_ble_eq_true rfl) (Nat.le_of_ble_eq_true rfl) (kI fun r1 M1 hc => ?_)
        obtain ⟨rfl, rfl⟩ := hc
        first | (with_reducible refine E_isN2 ?_; refine E_iaddN d_TM_nextToken_131 ?_) | refine E_iadd d_TM_nextToken_131 ?_
        refine E_bipush (v := nI 48) d_TM_nextToken_132 (by decide) ?_
        first | (with_reducible refine E_isN2 ?_; refine E_isubN d_TM_nextToken_134 (by omega) ?_) | refine E_isub d_TM_nextToken_134 ?_
        refine E_putI d_TM_nextToken_135 gf_TM_100 (by exact ⟨by decide, rfl⟩) rfl rfl ?_
        first | refine E_aload_n d_TM_nextToken_138 rfl ?_ | refine E_aload_nN d_TM_nextToken_138 rfl ?_
        refine E_dup d_TM_nextToken_139 rfl ?_
        refine E_getI d_TM_nextToken_140 gf_TM_84 (by exact ⟨by decide, rfl⟩) (by exact r7 _) ?_
        refine E_iconst (v := nI 1) d_TM_nextToken_143 rfl ?_
        first | (with_reducible refine E_isN2 ?_; refine E_iaddN d_TM_nextToken_144 ?_) | refine E_iadd d_TM_nextToken_144 ?_
        refine E_putI d_TM_nextToken_145 gf_TM_84 (by exact ⟨by decide, rfl⟩) rfl rfl ?_
        refine E_goto 85 d_TM_nextToken_148 rfl ?_
        first | exact ka (fun q => h106 (c1.mpr q)) | exact kb (c1.mp h106)
      · first | refine E_aload_n d_TM_nextToken_109 rfl ?_ | refine E_aload_nN d_TM_nextToken_109 rfl ?_
        refine E_getI d_TM_nextToken_110 gf_TM_100 (by exact ⟨by decide, rfl⟩) (by exact h10) ?_
        refine E_goto 135 d_TM_nextToken_113 rfl ?_
        refine E_putI d_TM_nextToken_135 gf_TM_100 (by exact ⟨by decide, rfl⟩) rfl rfl ?_
        first | refine E_aload_n d_TM_nextToken_138 rfl ?_ | refine E_aload_nN d_TM_nextToken_138 rfl ?_
        refine E_dup d_TM_nextToken_139 rfl ?_
        refine E_getI d_TM_nextToken_140 gf_TM_84 (by exact ⟨by decide, rfl⟩) (by exact r7 _) ?_
        refine E_iconst (v := nI 1) d_TM_nextToken_143 rfl ?_
        first | (with_reducible refine E_isN2 ?_; refine E_iaddN d_TM_nextToken_144 ?_) | refine E_iadd d_TM_nextToken_144 ?_
        refine E_putI d_TM_nextToken_145 gf_TM_84 (by exact ⟨by decide, rfl⟩) rfl rfl ?_
        refine E_goto 85 d_TM_nextToken_148 rfl ?_
        first | exact ka (fun q => h106 (c1.mpr q)) | exact kb (c1.mp h106)
    · have e0 : rl isD l i = i := rl_stop (fun q => hdi q.2)
      have ok : TKM l k M := by
        refine ⟨h8, ?_, 1, n, W0, h9, h10, h11, ?_, fun _ => ?_, fun q => absurd rfl q, by decide, hn, hW0⟩
        · rw [h7]; unfold EE tkE; rw [if_pos hp, if_neg hnl, if_pos hd]; show nI i = nI (rl isD l (PP l k)); rw [← hE, e0]
        · unfold SS tkE; rw [if_pos hp, if_neg hnl, if_pos hd]; rfl
        · rw [← hv, e0, Nat.sub_self]; rfl
      first | refine E_aload_n d_TM_nextToken_85 rfl ?_ | refine E_aload_nN d_TM_nextToken_85 rfl ?_
      first | refine E_aload_n d_TM_nextToken_86 rfl ?_ | refine E_aload_nN d_TM_nextToken_86 rfl ?_
      refine E_getI d_TM_nextToken_87 gf_TM_84 (by exact ⟨by decide, rfl⟩) (by exact h7) ?_
      refine E_V1 (sp_TM_byteAt hR hT hil) d_TM_nextToken_90 ml_TM_87 cb_TM_byteAt cv_TM_byteAt (by exact ⟨by decide, rfl⟩) ⟨by decide, rfl⟩ ⟨by decide, by decide⟩ rfl (Nat.le_of_ble_eq_true rfl) (Nat.le_of_ble_eq_true rfl) (kI fun r1 M1 hc => ?_)
      obtain ⟨rfl, rfl⟩ := hc
      refine E_S1 (sp_TM_isFigure hb) d_TM_nextToken_93 ml_TM_97 cb_TM_isFigure cs_TM_isFigure ⟨by decide, by decide⟩ rfl (Nat.le_of_ble_eq_true rfl) (Nat.le_of_ble_eq_true rfl) (kI fun r1 M1 hc => ?_)
      obtain ⟨rfl, rfl⟩ := hc
      first | (with_reducible refine E_isP ?_; refine E_if_eq 310 d_TM_nextToken_96 rfl (pb_0 fun h96 => ?_) (pb_1 fun h96 => ?_)) | (with_reducible refine E_isN1 ?_; refine E_if_eq 310 d_TM_nextToken_96 rfl (nz_eq (by omega) fun h96 => ?_) (nz_ne fun h96 => ?_)) | refine E_if_eq 310 d_TM_nextToken_96 rfl (fun h96 => ?_) (fun h96 => ?_)
      rotate_left
      · exfalso; exact hdi h96
      refine E_retV d_TM_nextToken_310 rfl ?_
      exact ⟨ok, hX⟩
end LXm
