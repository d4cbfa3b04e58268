section LXc
variable {G : Geo} {M : Mem}
def Fo (o : Nat) (J A : Nat → Prop) (M M' : Mem) : Prop := mR M' = mR M ∧ (∀ a, a ≠ o → ¬ A a → mI M' a = mI M a) ∧ (∀ j, ¬ J j → mI M' o j = mI M o j) ∧ mL M' = mL M
theorem Fo.rf {o : Nat} {J A : Nat → Prop} : Fo o J A M M := ⟨rfl, fun _ _ _ => rfl, fun _ _ => rfl, rfl⟩
theorem Fo.tr {o : Nat} {J A : Nat → Prop} {M1 M2 : Mem} (h : Fo o J A M M1) (g : Fo o J A M1 M2) : Fo o J A M M2 := ⟨g.1.trans h.1, fun a x y => (g.2.1 a x y).trans (h.2.1 a x y), fun j x => (g.2.2.1 j x).trans (h.2.2.1 j x), g.2.2.2.trans h.2.2.2⟩
theorem Fo.wk {o : Nat} {J A J' A' : Nat → Prop} {M1 : Mem} (h : Fo o J A M M1) (hj : ∀ j, J j → J' j) (ha : ∀ a, A a → A' a) : Fo o J' A' M M1 := ⟨h.1, fun a x y => h.2.1 a x (fun q => y (ha a q)), fun j x => h.2.2.1 j (fun q => x (hj j q)), h.2.2.2⟩
theorem Fo.wJ {o : Nat} {J A : Nat → Prop} {M1 : Mem} {b j : Nat} {x : Int32} (h : Fo o J A M M1) (hb : b ≠ o) (hA : A b) : Fo o J A M (wI M1 b j x) := ⟨h.1, fun a p q => (mI_ne (fun e => q (by rw [e]; exact hA))).trans (h.2.1 a p q), fun i p => by rw [mI_wx (Ne.symm hb)]; exact h.2.2.1 i p, h.2.2.2⟩
theorem Fo.wI {o : Nat} {J A : Nat → Prop} {M1 : Mem} {j : Nat} {x : Int32} (h : Fo o J A M M1) (hj : J j) : Fo o J A M (wI M1 o j x) := ⟨h.1, fun a p q => (mI_ne p).trans (h.2.1 a p q), fun i p => by rw [mI_wa, if_neg (fun e => p (by rw [e]; exact hj))]; exact h.2.2.1 i p, h.2.2.2⟩
theorem RC.re {M1 : Mem} (h : RC M) (e : mR M1 = mR M) : RC M1 := by unfold RC; rw [e]; exact h
theorem RC.fo {o : Nat} {J A : Nat → Prop} {M1 : Mem} (h : RC M) (g : Fo o J A M M1) : RC M1 := h.re g.1
theorem TapeC.fo {J A : Nat → Prop} {M1 : Mem} {l : List Nat} (h : TapeC l M) (g : Fo 220 J A M M1) (hj : ¬ J 1) (ha : ¬ A 221) : TapeC l M1 := ⟨h.1, (g.2.2.1 1 hj).trans h.2.1, fun i hi => by rw [g.2.1 221 (by decide) ha]; exact h.2.2.1 i hi, h.2.2.2⟩
theorem TapeC.b {l : List Nat} (h : TapeC l M) {i : Nat} (hi : i < l.length) : l.getD i 0 < 256 := h.2.2.2 _ (getD_mem hi)
def J56 (j : Nat) : Prop := j = 5 ∨ j = 6
theorem sp_Ta_isBlank {b : Nat} (hb : b < 256) : E 0 0 0 Y_Ta_isBlank 0 [some (.int (nI b))] [] G M (QI G fun r M' => r = pI (isB b = true) ∧ M' = M) := by
  have k : (b = 32 ∨ b = 10) → nI 1 = pI (isB b = true) := fun q => (pI_t (isB_iff.mpr q)).symm
  have k0 : ¬ (b = 32 ∨ b = 10) → nI 0 = pI (isB b = true) := fun q => (pI_f (fun r => q (isB_iff.mp r))).symm
  refine E_iload_n d_Ta_isBlank_0 rfl ?_
  refine E_bipush (v := nI 32) d_Ta_isBlank_1 (by decide) ?_
  first | (with_reducible refine E_isN2 ?_; refine E_icmp_eq 12 d_Ta_isBlank_3 rfl (nb_eq (by omega) (by omega) fun h3 => ?_) (nb_ne fun h3 => ?_)) | refine E_icmp_eq 12 d_Ta_isBlank_3 rfl (fun h3 => ?_) (fun h3 => ?_)
  · refine E_iconst (v := nI 1) d_Ta_isBlank_12 rfl ?_
    refine E_goto 17 d_Ta_isBlank_13 rfl ?_
    refine E_retZ d_Ta_isBlank_17 rfl (by decide) ?_
    exact ⟨by first | exact k (by omega) | exact k0 (by omega), rfl⟩
  · refine E_iload_n d_Ta_isBlank_6 rfl ?_
    refine E_bipush (v := nI 10) d_Ta_isBlank_7 (by decide) ?_
    first | (with_reducible refine E_isN2 ?_; refine E_icmp_ne 16 d_Ta_isBlank_9 rfl (nb_ne fun h9 => ?_) (nb_eq (by omega) (by omega) fun h9 => ?_)) | refine E_icmp_ne 16 d_Ta_isBlank_9 rfl (fun h9 => ?_) (fun h9 => ?_)
    · refine E_iconst (v := nI 0) d_Ta_isBlank_16 rfl ?_
      refine E_retZ d_Ta_isBlank_17 rfl (by decide) ?_
      exact ⟨by first | exact k (by omega) | exact k0 (by omega), rfl⟩
    · refine E_iconst (v := nI 1) d_Ta_isBlank_12 rfl ?_
      refine E_goto 17 d_Ta_isBlank_13 rfl ?_
      refine E_retZ d_Ta_isBlank_17 rfl (by decide) ?_
      exact ⟨by first | exact k (by omega) | exact k0 (by omega), rfl⟩
theorem sp_Ta_isLetter {b : Nat} (hb : b < 256) : E 0 0 0 Y_Ta_isLetter 0 [some (.int (nI b))] [] G M (QI G fun r M' => r = pI (isL b = true) ∧ M' = M) := by
  have k : (97 ≤ b ∧ b ≤ 122) ∨ (65 ≤ b ∧ b ≤ 90) → nI 1 = pI (isL b = true) := fun q => (pI_t (isL_iff.mpr q)).symm
  have k0 : ¬ ((97 ≤ b ∧ b ≤ 122) ∨ (65 ≤ b ∧ b ≤ 90)) → nI 0 = pI (isL b = true) := fun q => (pI_f (fun r => q (isL_iff.mp r))).symm
  refine E_iload_n d_Ta_isLetter_0 rfl ?_
  refine E_bipush (v := nI 97) d_Ta_isLetter_1 (by decide) ?_
  first | (with_reducible refine E_isN2 ?_; refine E_icmp_lt 12 d_Ta_isLetter_3 rfl (nb_lt (by omega) (by omega) fun h3 => ?_) (nb_nlt (by omega) (by omega) fun h3 => ?_)) | refine E_icmp_lt 12 d_Ta_isLetter_3 rfl (fun h3 => ?_) (fun h3 => ?_)
  · refine E_iload_n d_Ta_isLetter_12 rfl ?_
    refine E_bipush (v := nI 65) d_Ta_isLetter_13 (by decide) ?_
    first | (with_reducible refine E_isN2 ?_; refine E_icmp_lt 28 d_Ta_isLetter_15 rfl (nb_lt (by omega) (by omega) fun h15 => ?_) (nb_nlt (by omega) (by omega) fun h15 => ?_)) | refine E_icmp_lt 28 d_Ta_isLetter_15 rfl (fun h15 => ?_) (fun h15 => ?_)
    · refine E_iconst (v := nI 0) d_Ta_isLetter_28 rfl ?_
      refine E_retZ d_Ta_isLetter_29 rfl (by decide) ?_
      exact ⟨by first | exact k (by omega) | exact k0 (by omega), rfl⟩
    · refine E_iload_n d_Ta_isLetter_18 rfl ?_
      refine E_bipush (v := nI 90) d_Ta_isLetter_19 (by decide) ?_
      first | (with_reducible refine E_isN2 ?_; refine E_icmp_gt 28 d_Ta_isLetter_21 rfl (nb_lt (by omega) (by omega) fun h21 => ?_) (nb_nlt (by omega) (by omega) fun h21 => ?_)) | refine E_icmp_gt 28 d_Ta_isLetter_21 rfl (fun h21 => ?_) (fun h21 => ?_)
      · refine E_iconst (v := nI 0) d_Ta_isLetter_28 rfl ?_
        refine E_retZ d_Ta_isLetter_29 rfl (by decide) ?_
        exact ⟨by first | exact k (by omega) | exact k0 (by omega), rfl⟩
      · refine E_iconst (v := nI 1) d_Ta_isLetter_24 rfl ?_
        refine E_goto 29 d_Ta_isLetter_25 rfl ?_
        refine E_retZ d_Ta_isLetter_29 rfl (by decide) ?_
        exact ⟨by first | exact k (by omega) | exact k0 (by omega), rfl⟩
  · refine E_iload_n d_Ta_isLetter_6 rfl ?_
    refine E_bipush (v := nI 122) d_Ta_isLetter_7 (by decide) ?_
    first | (with_reducible refine E_isN2 ?_; refine E_icmp_le 24 d_Ta_isLetter_9 rfl (nb_le (by omega) (by omega) fun h9 => ?_) (nb_nle (by omega) (by omega) fun h9 => ?_)) | refine E_icmp_le 24 d_Ta_isLetter_9 rfl (fun h9 => ?_) (fun h9 => ?_)
    · refine E_iconst (v := nI 1) d_Ta_isLetter_24 rfl ?_
      refine E_goto 29 d_Ta_isLetter_25 rfl ?_
      refine E_retZ d_Ta_isLetter_29 rfl (by decide) ?_
      exact ⟨by first | exact k (by omega) | exact k0 (by omega), rfl⟩
    · refine E_iload_n d_Ta_isLetter_12 rfl ?_
      refine E_bipush (v := nI 65) d_Ta_isLetter_13 (by decide) ?_
      first | (with_reducible refine E_isN2 ?_; refine E_icmp_lt 28 d_Ta_isLetter_15 rfl (nb_lt (by omega) (by omega) fun h15 => ?_) (nb_nlt (by omega) (by omega) fun h15 => ?_)) | refine E_icmp_lt 28 d_Ta_isLetter_15 rfl (fun h15 => ?_) (fun h15 => ?_)
      · refine E_iconst (v := nI 0) d_Ta_isLetter_28 rfl ?_
        refine E_retZ d_Ta_isLetter_29 rfl (by decide) ?_
        exact ⟨by first | exact k (by omega) | exact k0 (by omega), rfl⟩
      · refine E_iload_n d_Ta_isLetter_18 rfl ?_
        refine E_bipush (v := nI 90) d_Ta_isLetter_19 (by decide) ?_
        first | (with_reducible refine E_isN2 ?_; refine E_icmp_gt 28 d_Ta_isLetter_21 rfl (nb_lt (by omega) (by omega) fun h21 => ?_) (nb_nlt (by omega) (by omega) fun h21 => ?_)) | refine E_icmp_gt 28 d_Ta_isLetter_21 rfl (fun h21 => ?_) (fun h21 => ?_)
        · refine E_iconst (v := nI 0) d_Ta_isLetter_28 rfl ?_
          refine E_retZ d_Ta_isLetter_29 rfl (by decide) ?_
          exact ⟨by first | exact k (by omega) | exact k0 (by omega), rfl⟩
        · refine E_iconst (v := nI 1) d_Ta_isLetter_24 rfl ?_
          refine E_goto 29 d_Ta_isLetter_25 rfl ?_
          refine E_retZ d_Ta_isLetter_29 rfl (by decide) ?_
          exact ⟨by first | exact k (by omega) | exact k0 (by omega), rfl⟩
theorem sp_Ta_isDigit {b : Nat} (hb : b < 256) : E 0 0 0 Y_Ta_isDigit 0 [some (.int (nI b))] [] G M (QI G fun r M' => r = pI (isD b = true) ∧ M' = M) := by
  have k : 48 ≤ b ∧ b ≤ 57 → nI 1 = pI (isD b = true) := fun q => (pI_t (isD_iff.mpr q)).symm
  have k0 : ¬ (48 ≤ b ∧ b ≤ 57) → nI 0 = pI (isD b = true) := fun q => (pI_f (fun r => q (isD_iff.mp r))).symm
  refine E_iload_n d_Ta_isDigit_0 rfl ?_
  refine E_bipush (v := nI 48) d_Ta_isDigit_1 (by decide) ?_
  first | (with_reducible refine E_isN2 ?_; refine E_icmp_lt 16 d_Ta_isDigit_3 rfl (nb_lt (by omega) (by omega) fun h3 => ?_) (nb_nlt (by omega) (by omega) fun h3 => ?_)) | refine E_icmp_lt 16 d_Ta_isDigit_3 rfl (fun h3 => ?_) (fun h3 => ?_)
  · refine E_iconst (v := nI 0) d_Ta_isDigit_16 rfl ?_
    refine E_retZ d_Ta_isDigit_17 rfl (by decide) ?_
    exact ⟨by first | exact k (by omega) | exact k0 (by omega), rfl⟩
  · refine E_iload_n d_Ta_isDigit_6 rfl ?_
    refine E_bipush (v := nI 57) d_Ta_isDigit_7 (by decide) ?_
    first | (with_reducible refine E_isN2 ?_; refine E_icmp_gt 16 d_Ta_isDigit_9 rfl (nb_lt (by omega) (by omega) fun h9 => ?_) (nb_nlt (by omega) (by omega) fun h9 => ?_)) | refine E_icmp_gt 16 d_Ta_isDigit_9 rfl (fun h9 => ?_) (fun h9 => ?_)
    · refine E_iconst (v := nI 0) d_Ta_isDigit_16 rfl ?_
      refine E_retZ d_Ta_isDigit_17 rfl (by decide) ?_
      exact ⟨by first | exact k (by omega) | exact k0 (by omega), rfl⟩
    · refine E_iconst (v := nI 1) d_Ta_isDigit_12 rfl ?_
      refine E_goto 17 d_Ta_isDigit_13 rfl ?_
      refine E_retZ d_Ta_isDigit_17 rfl (by decide) ?_
      exact ⟨by first | exact k (by omega) | exact k0 (by omega), rfl⟩
theorem sp_Ta_skipBlanks {l : List Nat} {i0 : Nat} (hG : GC G) (hR0 : RC M) (hT0 : TapeC l M) (h5 : mI M 220 5 = nI i0) (hi0 : i0 ≤ l.length) : E 1 0 0 Y_Ta_skipBlanks 0 [some (.ref 220)] [] G M (QV G fun M' => mI M' 220 5 = nI (rl isB l i0) ∧ Fo 220 J56 An M M' ∧ mI M' 220 6 = mI M 220 6) := by
  have L : ∀ j i M1, l.length - i = j → i ≤ l.length → rl isB l i = rl isB l i0 → Fo 220 J56 An M M1 → mI M1 220 5 = nI i → mI M1 220 6 = mI M 220 6 → E 1 0 0 Y_Ta_skipBlanks 0 [some (.ref 220)] [] G M1 (QV G fun M' => mI M' 220 5 = nI (rl isB l i0) ∧ Fo 220 J56 An M M' ∧ mI M' 220 6 = mI M 220 6) := by
    intro j
    induction j with
    | zero =>
      intro i M1 hj hi hE hX h5 h6
      have hR := hR0.fo hX
      have hT := hT0.fo hX (by unfold J56; omega) (fun q => q)
      have h1 := hT.2.1
      have e0 : rl isB l i = i := rl_stop (fun q => by omega)
      have l3 := hT.1
      have ok : mI M1 220 5 = nI (rl isB l i0) := by rw [h5, ← hE, e0]
      first | refine E_aload_n d_Ta_skipBlanks_0 rfl ?_ | refine E_aload_nN d_Ta_skipBlanks_0 rfl ?_
      refine E_getI d_Ta_skipBlanks_1 gf_Ta_32 (by exact hG.s (by decide) rfl) (by first | exact h5 | exact h1) ?_
      first | refine E_aload_n d_Ta_skipBlanks_4 rfl ?_ | refine E_aload_nN d_Ta_skipBlanks_4 rfl ?_
      refine E_getI d_Ta_skipBlanks_5 gf_Ta_24 (by exact hG.s (by decide) rfl) (by first | exact h5 | exact h1) ?_
      first | (with_reducible refine E_isN2 ?_; refine E_icmp_ge 41 d_Ta_skipBlanks_8 rfl (nb_le (by omega) (by omega) fun h8 => ?_) (nb_nle (by omega) (by omega) fun h8 => ?_)) | refine E_icmp_ge 41 d_Ta_skipBlanks_8 rfl (fun h8 => ?_) (fun h8 => ?_)
      rotate_left
      · exfalso; omega
      refine E_retV d_Ta_skipBlanks_41 rfl ?_
      exact ⟨ok, hX, h6⟩
    | succ j ih =>
      intro i M1 hj hi hE hX h5 h6
      have hR := hR0.fo hX
      have hT := hT0.fo hX (by unfold J56; omega) (fun q => q)
      have h1 := hT.2.1
      have l3 := hT.1
      have hil : i < l.length := by omega
      have hb := hT.b hil
      have hbv := hT.2.2.1 i hil
      by_cases hbl : isB (l.getD i 0) = true
      · have e1 : rl isB l i = rl isB l (i + 1) := rl_step hil hbl
        have KK := ih (i + 1) (wI M1 220 5 (nI (i + 1))) (by omega) hil (e1.symm.trans hE) (hX.wI (by unfold J56; omega)) (by rw [mI_wa, if_pos rfl]) (by rw [mI_wa, if_neg (by decide)]; exact h6)
        generalize hbb : l.getD i 0 = b at *
        first | refine E_aload_n d_Ta_skipBlanks_0 rfl ?_ | refine E_aload_nN d_Ta_skipBlanks_0 rfl ?_
        refine E_getI d_Ta_skipBlanks_1 gf_Ta_32 (by exact hG.s (by decide) rfl) (by first | exact h5 | exact h1) ?_
        first | refine E_aload_n d_Ta_skipBlanks_4 rfl ?_ | refine E_aload_nN d_Ta_skipBlanks_4 rfl ?_
        refine E_getI d_Ta_skipBlanks_5 gf_Ta_24 (by exact hG.s (by decide) rfl) (by first | exact h5 | exact h1) ?_
        first | (with_reducible refine E_isN2 ?_; refine E_icmp_ge 41 d_Ta_skipBlanks_8 rfl (nb_le (by omega) (by omega) fun h8 => ?_) (nb_nle (by omega) (by omega) fun h8 => ?_)) | refine E_icmp_ge 41 d_Ta_skipBlanks_8 rfl (fun h8 => ?_) (fun h8 => ?_)
        · exfalso; omega
        first | refine E_aload_n d_Ta_skipBlanks_11 rfl ?_ | refine E_aload_nN d_Ta_skipBlanks_11 rfl ?_
        refine E_getR d_Ta_skipBlanks_12 gf_Ta_9 (by exact hG.s (by decide) rfl) (by exact hR.o rfl) ?_
        first | refine E_aload_n d_Ta_skipBlanks_15 rfl ?_ | refine E_aload_nN d_Ta_skipBlanks_15 rfl ?_
        refine E_getI d_Ta_skipBlanks_16 gf_Ta_32 (by exact hG.s (by decide) rfl) (by first | exact h5 | exact h1) ?_
        refine E_SN2 (sp_TP_at (hG.s (k := 221) (by decide) rfl) (by decide) (by omega) hbv) d_Ta_skipBlanks_19 nl_Ta_41 cb_TP_at cs_TP_at ⟨by decide, by decide⟩ rfl (Nat.le_of_ble_eq_true rfl) (Nat.le_of_ble_eq_true rfl) (kI fun r1 M1 hc => ?_)
        obtain ⟨rfl, rfl⟩ := hc
        refine E_S1 (sp_Ta_isBlank hb) d_Ta_skipBlanks_22 ml_Ta_51 cb_Ta_isBlank cs_Ta_isBlank ⟨by decide, by decide⟩ rfl (Nat.le_of_ble_eq_true rfl) (Nat.le_of_ble_eq_true rfl) (kI fun r1 M1 hc => ?_)
        obtain ⟨rfl, rfl⟩ := hc
        first | (with_reducible refine E_isP ?_; refine E_if_eq 41 d_Ta_skipBlanks_25 rfl (pb_0 fun h25 => ?_) (pb_1 fun h25 => ?_)) | (with_reducible refine E_isN1 ?_; refine E_if_eq 41 d_Ta_skipBlanks_25 rfl (nz_eq (by omega) fun h25 => ?_) (nz_ne fun h25 => ?_)) | refine E_if_eq 41 d_Ta_skipBlanks_25 rfl (fun h25 => ?_) (fun h25 => ?_)
        · exfalso; exact h25 hbl
        first | refine E_aload_n d_Ta_skipBlanks_28 rfl ?_ | refine E_aload_nN d_Ta_skipBlanks_28 rfl ?_
        refine E_dup d_Ta_skipBlanks_29 rfl ?_
        refine E_getI d_Ta_skipBlanks_30 gf_Ta_32 (by exact hG.s (by decide) rfl) (by first | exact h5 | exact h1) ?_
        refine E_iconst (v := nI 1) d_Ta_skipBlanks_33 rfl ?_
        first | (with_reducible refine E_isN2 ?_; refine E_iaddN d_Ta_skipBlanks_34 ?_) | refine E_iadd d_Ta_skipBlanks_34 ?_
        refine E_putI d_Ta_skipBlanks_35 gf_Ta_32 (by exact hG.s (by decide) rfl) rfl rfl ?_
        refine E_goto 0 d_Ta_skipBlanks_38 rfl ?_
        exact KK
      · have e0 : rl isB l i = i := rl_stop (fun q => hbl q.2)
        have ok : mI M1 220 5 = nI (rl isB l i0) := by rw [h5, ← hE, e0]
        generalize hbb : l.getD i 0 = b at *
        first | refine E_aload_n d_Ta_skipBlanks_0 rfl ?_ | refine E_aload_nN d_Ta_skipBlanks_0 rfl ?_
        refine E_getI d_Ta_skipBlanks_1 gf_Ta_32 (by exact hG.s (by decide) rfl) (by first | exact h5 | exact h1) ?_
        first | refine E_aload_n d_Ta_skipBlanks_4 rfl ?_ | refine E_aload_nN d_Ta_skipBlanks_4 rfl ?_
        refine E_getI d_Ta_skipBlanks_5 gf_Ta_24 (by exact hG.s (by decide) rfl) (by first | exact h5 | exact h1) ?_
        first | (with_reducible refine E_isN2 ?_; refine E_icmp_ge 41 d_Ta_skipBlanks_8 rfl (nb_le (by omega) (by omega) fun h8 => ?_) (nb_nle (by omega) (by omega) fun h8 => ?_)) | refine E_icmp_ge 41 d_Ta_skipBlanks_8 rfl (fun h8 => ?_) (fun h8 => ?_)
        · exfalso; omega
        first | refine E_aload_n d_Ta_skipBlanks_11 rfl ?_ | refine E_aload_nN d_Ta_skipBlanks_11 rfl ?_
        refine E_getR d_Ta_skipBlanks_12 gf_Ta_9 (by exact hG.s (by decide) rfl) (by exact hR.o rfl) ?_
        first | refine E_aload_n d_Ta_skipBlanks_15 rfl ?_ | refine E_aload_nN d_Ta_skipBlanks_15 rfl ?_
        refine E_getI d_Ta_skipBlanks_16 gf_Ta_32 (by exact hG.s (by decide) rfl) (by first | exact h5 | exact h1) ?_
        refine E_SN2 (sp_TP_at (hG.s (k := 221) (by decide) rfl) (by decide) (by omega) hbv) d_Ta_skipBlanks_19 nl_Ta_41 cb_TP_at cs_TP_at ⟨by decide, by decide⟩ rfl (Nat.le_of_ble_eq_true rfl) (Nat.le_of_ble_eq_true rfl) (kI fun r1 M1 hc => ?_)
        obtain ⟨rfl, rfl⟩ := hc
        refine E_S1 (sp_Ta_isBlank hb) d_Ta_skipBlanks_22 ml_Ta_51 cb_Ta_isBlank cs_Ta_isBlank ⟨by decide, by decide⟩ rfl (Nat.le_of_ble_eq_true rfl) (Nat.le_of_ble_eq_true rfl) (kI fun r1 M1 hc => ?_)
        obtain ⟨rfl, rfl⟩ := hc
        first | (with_reducible refine E_isP ?_; refine E_if_eq 41 d_Ta_skipBlanks_25 rfl (pb_0 fun h25 => ?_) (pb_1 fun h25 => ?_)) | (with_reducible refine E_isN1 ?_; refine E_if_eq 41 d_Ta_skipBlanks_25 rfl (nz_eq (by omega) fun h25 => ?_) (nz_ne fun h25 => ?_)) | refine E_if_eq 41 d_Ta_skipBlanks_25 rfl (fun h25 => ?_) (fun h25 => ?_)
        rotate_left
        · exfalso; exact hbl h25
        refine E_retV d_Ta_skipBlanks_41 rfl ?_
        exact ⟨ok, hX, h6⟩
  exact L _ i0 M rfl hi0 rfl Fo.rf h5 rfl
theorem min_nI {x y : Nat} (hx : x < 2147483648) (hy : y < 2147483648) : (if nI x < nI y then nI x else nI y) = nI (if x < y then x else y) := by
  by_cases h : x < y
  · rw [if_pos h, if_pos ((nI_ltI hx hy).mpr h)]
  · rw [if_neg h, if_neg (fun q => h ((nI_ltI hx hy).mp q))]
theorem sp_Ta_readNumber {l : List Nat} {i0 : Nat} (hG : GC G) (hR0 : RC M) (hT0 : TapeC l M) (h5 : mI M 220 5 = nI i0) (hi0 : i0 ≤ l.length) (h6 : mI M 220 6 = nI 0) : E 1 0 0 Y_Ta_readNumber 0 [some (.ref 220)] [] G M (QI G fun r M' => r = nI 39 ∧ mI M' 220 5 = nI (rl isD l i0) ∧ mI M' 220 6 = nI (nvC l (rl isD l i0 - i0) i0 0) ∧ Fo 220 J56 An M M') := by
  have L : ∀ j i v M1, l.length - i = j → i ≤ l.length → rl isD l i = rl isD l i0 → nvC l (rl isD l i - i) i v = nvC l (rl isD l i0 - i0) i0 0 → v ≤ 10000 → Fo 220 J56 An M M1 → mI M1 220 5 = nI i → mI M1 220 6 = nI v → E 1 0 0 Y_Ta_readNumber 0 [some (.ref 220)] [] G M1 (QI G fun r M' => r = nI 39 ∧ mI M' 220 5 = nI (rl isD l i0) ∧ mI M' 220 6 = nI (nvC l (rl isD l i0 - i0) i0 0) ∧ Fo 220 J56 An M M') := by
    intro j
    induction j with
    | zero =>
      intro i v M1 hj hi hE hv hv4 hX h5 h6
      have hR := hR0.fo hX
      have hT := hT0.fo hX (by unfold J56; omega) (fun q => q)
      have h1 := hT.2.1
      have e0 : rl isD l i = i := rl_stop (fun q => by omega)
      have l3 := hT.1
      have ok : mI M1 220 5 = nI (rl isD l i0) := by rw [h5, ← hE, e0]
      have ok2 : mI M1 220 6 = nI (nvC l (rl isD l i0 - i0) i0 0) := by rw [h6, ← hv, e0, Nat.sub_self]; rfl
      first | refine E_aload_n d_Ta_readNumber_0 rfl ?_ | refine E_aload_nN d_Ta_readNumber_0 rfl ?_
      refine E_getI d_Ta_readNumber_1 gf_Ta_32 (by exact hG.s (by decide) rfl) (by first | exact h5 | exact h1) ?_
      first | refine E_aload_n d_Ta_readNumber_4 rfl ?_ | refine E_aload_nN d_Ta_readNumber_4 rfl ?_
      refine E_getI d_Ta_readNumber_5 gf_Ta_24 (by exact hG.s (by decide) rfl) (by first | exact h5 | exact h1) ?_
      first | (with_reducible refine E_isN2 ?_; refine E_icmp_ge 73 d_Ta_readNumber_8 rfl (nb_le (by omega) (by omega) fun h8 => ?_) (nb_nle (by omega) (by omega) fun h8 => ?_)) | refine E_icmp_ge 73 d_Ta_readNumber_8 rfl (fun h8 => ?_) (fun h8 => ?_)
      rotate_left
      · exfalso; omega
      refine E_bipush (v := nI 39) d_Ta_readNumber_73 (by decide) ?_
      refine E_retI d_Ta_readNumber_75 rfl ?_
      exact ⟨rfl, ok, ok2, hX⟩
    | succ j ih =>
      intro i v M1 hj hi hE hv hv4 hX h5 h6
      have hR := hR0.fo hX
      have hT := hT0.fo hX (by unfold J56; omega) (fun q => q)
      have h1 := hT.2.1
      have l3 := hT.1
      have hil : i < l.length := by omega
      have hb := hT.b hil
      have hbv := hT.2.2.1 i hil
      by_cases hbl : isD (l.getD i 0) = true
      · have hd := isD_iff.mp hbl
        have e1 : rl isD l i = rl isD l (i + 1) := rl_step hil hbl
        have hge : i + 1 ≤ rl isD l (i + 1) := rl_ge hil
        have KK := ih (i + 1) (if v * 10 + l.getD i 0 - 48 < 10000 then v * 10 + l.getD i 0 - 48 else 10000) (wI (wI M1 220 6 (nI (if v * 10 + l.getD i 0 - 48 < 10000 then v * 10 + l.getD i 0 - 48 else 10000))) 220 5 (nI (i + 1))) (by omega) hil (e1.symm.trans hE) (by rw [← hv, e1, show rl isD l (i + 1) - i = rl isD l (i + 1) - (i + 1) + 1 by omega, nvC]) (by split <;> omega) ((hX.wI (by unfold J56; omega)).wI (by unfold J56; omega)) (by rw [mI_wa, if_pos rfl]) (by rw [mI_wa, if_neg (by decide), mI_wa, if_pos rfl])
        have r5 : ∀ x, mI (wI M1 220 6 x) 220 5 = nI i := fun x => by rw [mI_wa, if_neg (by decide)]; exact h5
        generalize hbb : l.getD i 0 = b at *
        first | refine E_aload_n d_Ta_readNumber_0 rfl ?_ | refine E_aload_nN d_Ta_readNumber_0 rfl ?_
        refine E_getI d_Ta_readNumber_1 gf_Ta_32 (by exact hG.s (by decide) rfl) (by first | exact h5 | exact h1) ?_
        first | refine E_aload_n d_Ta_readNumber_4 rfl ?_ | refine E_aload_nN d_Ta_readNumber_4 rfl ?_
        refine E_getI d_Ta_readNumber_5 gf_Ta_24 (by exact hG.s (by decide) rfl) (by first | exact h5 | exact h1) ?_
        first | (with_reducible refine E_isN2 ?_; refine E_icmp_ge 73 d_Ta_readNumber_8 rfl (nb_le (by omega) (by omega) fun h8 => ?_) (nb_nle (by omega) (by omega) fun h8 => ?_)) | refine E_icmp_ge 73 d_Ta_readNumber_8 rfl (fun h8 => ?_) (fun h8 => ?_)
        · exfalso; omega
        first | refine E_aload_n d_Ta_readNumber_11 rfl ?_ | refine E_aload_nN d_Ta_readNumber_11 rfl ?_
        refine E_getR d_Ta_readNumber_12 gf_Ta_9 (by exact hG.s (by decide) rfl) (by exact hR.o rfl) ?_
        first | refine E_aload_n d_Ta_readNumber_15 rfl ?_ | refine E_aload_nN d_Ta_readNumber_15 rfl ?_
        refine E_getI d_Ta_readNumber_16 gf_Ta_32 (by exact hG.s (by decide) rfl) (by first | exact h5 | exact h1) ?_
        refine E_SN2 (sp_TP_at (hG.s (k := 221) (by decide) rfl) (by decide) (by omega) hbv) d_Ta_readNumber_19 nl_Ta_41 cb_TP_at cs_TP_at ⟨by decide, by decide⟩ rfl (Nat.le_of_ble_eq_true rfl) (Nat.le_of_ble_eq_true rfl) (kI fun r1 M1 hc => ?_)
        obtain ⟨rfl, rfl⟩ := hc
        refine E_S1 (sp_Ta_isDigit hb) d_Ta_readNumber_22 ml_Ta_62 cb_Ta_isDigit cs_Ta_isDigit ⟨by decide, by decide⟩ rfl (Nat.le_of_ble_eq_true rfl) (Nat.le_of_ble_eq_true rfl) (kI fun r1 M1 hc => ?_)
        obtain ⟨rfl, rfl⟩ := hc
        first | (with_reducible refine E_isP ?_; refine E_if_eq 73 d_Ta_readNumber_25 rfl (pb_0 fun h25 => ?_) (pb_1 fun h25 => ?_)) | (with_reducible refine E_isN1 ?_; refine E_if_eq 73 d_Ta_readNumber_25 rfl (nz_eq (by omega) fun h25 => ?_) (nz_ne fun h25 => ?_)) | refine E_if_eq 73 d_Ta_readNumber_25 rfl (fun h25 => ?_) (fun h25 => ?_)
        · exfalso; exact h25 hbl
        first | refine E_aload_n d_Ta_readNumber_28 rfl ?_ | refine E_aload_nN d_Ta_readNumber_28 rfl ?_
        refine E_sipush (v := nI 10000) d_Ta_readNumber_29 (by decide) ?_
        first | refine E_aload_n d_Ta_readNumber_32 rfl ?_ | refine E_aload_nN d_Ta_readNumber_32 rfl ?_
        refine E_getI d_Ta_readNumber_33 gf_Ta_38 (by exact hG.s (by decide) rfl) (by exact h6) ?_
        refine E_bipush (v := nI 10) d_Ta_readNumber_36 (by decide) ?_
        first | (with_reducible refine E_isN2 ?_; refine E_imulN d_Ta_readNumber_38 ?_) | refine E_imul d_Ta_readNumber_38 ?_
        first | refine E_aload_n d_Ta_readNumber_39 rfl ?_ | refine E_aload_nN d_Ta_readNumber_39 rfl ?_
        refine E_getR d_Ta_readNumber_40 gf_Ta_9 (by exact hG.s (by decide) rfl) (by exact hR.o rfl) ?_
        first | refine E_aload_n d_Ta_readNumber_43 rfl ?_ | refine E_aload_nN d_Ta_readNumber_43 rfl ?_
        refine E_getI d_Ta_readNumber_44 gf_Ta_32 (by exact hG.s (by decide) rfl) (by first | exact h5 | exact h1) ?_
        refine E_SN2 (sp_TP_at (hG.s (k := 221) (by decide) rfl) (by decide) (by omega) hbv) d_Ta_readNumber_47 nl_Ta_41 cb_TP_at cs_TP_at ⟨by decide, by decide⟩ rfl (Nat.le_of_ble_eq_true rfl) (Nat.le_of_ble_eq_true rfl) (kI fun r1 M1 hc => ?_)
        obtain ⟨rfl, rfl⟩ := hc
        first | (with_reducible refine E_isN2 ?_; refine E_iaddN d_Ta_readNumber_50 ?_) | refine E_iadd d_Ta_readNumber_50 ?_
        refine E_bipush (v := nI 48) d_Ta_readNumber_51 (by decide) ?_
        first | (with_reducible refine E_isN2 ?_; refine E_isubN d_Ta_readNumber_53 (by omega) ?_) | refine E_isub d_Ta_readNumber_53 ?_
        refine E_minI d_Ta_readNumber_54 ml_Ta_87 (by decide) (Nat.le_of_ble_eq_true rfl) ?_
        rw [min_nI (by omega) (by decide)]
        refine E_putI d_Ta_readNumber_57 gf_Ta_38 (by exact hG.s (by decide) rfl) rfl rfl ?_
        first | refine E_aload_n d_Ta_readNumber_60 rfl ?_ | refine E_aload_nN d_Ta_readNumber_60 rfl ?_
        refine E_dup d_Ta_readNumber_61 rfl ?_
        refine E_getI d_Ta_readNumber_62 gf_Ta_32 (by exact hG.s (by decide) rfl) (by exact r5 _) ?_
        refine E_iconst (v := nI 1) d_Ta_readNumber_65 rfl ?_
        first | (with_reducible refine E_isN2 ?_; refine E_iaddN d_Ta_readNumber_66 ?_) | refine E_iadd d_Ta_readNumber_66 ?_
        refine E_putI d_Ta_readNumber_67 gf_Ta_32 (by exact hG.s (by decide) rfl) rfl rfl ?_
        refine E_goto 0 d_Ta_readNumber_70 rfl ?_
        exact KK
      · have e0 : rl isD l i = i := rl_stop (fun q => hbl q.2)
        have ok : mI M1 220 5 = nI (rl isD l i0) := by rw [h5, ← hE, e0]
        have ok2 : mI M1 220 6 = nI (nvC l (rl isD l i0 - i0) i0 0) := by rw [h6, ← hv, e0, Nat.sub_self]; rfl
        generalize hbb : l.getD i 0 = b at *
        first | refine E_aload_n d_Ta_readNumber_0 rfl ?_ | refine E_aload_nN d_Ta_readNumber_0 rfl ?_
        refine E_getI d_Ta_readNumber_1 gf_Ta_32 (by exact hG.s (by decide) rfl) (by first | exact h5 | exact h1) ?_
        first | refine E_aload_n d_Ta_readNumber_4 rfl ?_ | refine E_aload_nN d_Ta_readNumber_4 rfl ?_
        refine E_getI d_Ta_readNumber_5 gf_Ta_24 (by exact hG.s (by decide) rfl) (by first | exact h5 | exact h1) ?_
        first | (with_reducible refine E_isN2 ?_; refine E_icmp_ge 73 d_Ta_readNumber_8 rfl (nb_le (by omega) (by omega) fun h8 => ?_) (nb_nle (by omega) (by omega) fun h8 => ?_)) | refine E_icmp_ge 73 d_Ta_readNumber_8 rfl (fun h8 => ?_) (fun h8 => ?_)
        · exfalso; omega
        first | refine E_aload_n d_Ta_readNumber_11 rfl ?_ | refine E_aload_nN d_Ta_readNumber_11 rfl ?_
        refine E_getR d_Ta_readNumber_12 gf_Ta_9 (by exact hG.s (by decide) rfl) (by exact hR.o rfl) ?_
        first | refine E_aload_n d_Ta_readNumber_15 rfl ?_ | refine E_aload_nN d_Ta_readNumber_15 rfl ?_
        refine E_getI d_Ta_readNumber_16 gf_Ta_32 (by exact hG.s (by decide) rfl) (by first | exact h5 | exact h1) ?_
        refine E_SN2 (sp_TP_at (hG.s (k := 221) (by decide) rfl) (by decide) (by omega) hbv) d_Ta_readNumber_19 nl_Ta_41 cb_TP_at cs_TP_at ⟨by decide, by decide⟩ rfl (Nat.le_of_ble_eq_true rfl) (Nat.le_of_ble_eq_true rfl) (kI fun r1 M1 hc => ?_)
        obtain ⟨rfl, rfl⟩ := hc
        refine E_S1 (sp_Ta_isDigit hb) d_Ta_readNumber_22 ml_Ta_62 cb_Ta_isDigit cs_Ta_isDigit ⟨by decide, by decide⟩ rfl (Nat.le_of_ble_eq_true rfl) (Nat.le_of_ble_eq_true rfl) (kI fun r1 M1 hc => ?_)
        obtain ⟨rfl, rfl⟩ := hc
        first | (with_reducible refine E_isP ?_; refine E_if_eq 73 d_Ta_readNumber_25 rfl (pb_0 fun h25 => ?_) (pb_1 fun h25 => ?_)) | (with_reducible refine E_isN1 ?_; refine E_if_eq 73 d_Ta_readNumber_25 rfl (nz_eq (by omega) fun h25 => ?_) (nz_ne fun h25 => ?_)) | refine E_if_eq 73 d_Ta_readNumber_25 rfl (fun h25 => ?_) (fun h25 => ?_)
        rotate_left
        · exfalso; exact hbl h25
        refine E_bipush (v := nI 39) d_Ta_readNumber_73 (by decide) ?_
        refine E_retI d_Ta_readNumber_75 rfl ?_
        exact ⟨rfl, ok, ok2, hX⟩
  exact L _ i0 0 M rfl hi0 rfl rfl (by decide) Fo.rf h5 h6
def cel (l : List Nat) (p e t : Nat) : Nat := if p + t < e then l.getD (p + t) 0 else 32
def celA (l : List Nat) (p e j : Nat) : Nat → Bool
  | 0 => true
  | n + 1 => celA l p e j n && decide (cel l p e n = chW (j * 6 + n))
theorem celA_iff {l : List Nat} {p e j : Nat} (n : Nat) : celA l p e j n = true ↔ ∀ t, t < n → cel l p e t = chW (j * 6 + t) := by
  induction n with
  | zero => exact ⟨fun _ t h => absurd h (Nat.not_lt_zero t), fun _ => rfl⟩
  | succ n ih =>
    rw [celA, Bool.and_eq_true, ih, decide_eq_true_iff]
    constructor
    · intro h t ht
      rcases Nat.lt_or_ge t n with z | z
      · exact h.1 t z
      · rw [show t = n by omega]; exact h.2
    · intro h
      exact ⟨fun t ht => h t (by omega), h n (by omega)⟩
theorem sp_Ta_isWord {l : List Nat} {p e j : Nat} (hG : GC G) (hR : RC M) (hT : TapeC l M) (h5 : mI M 220 5 = nI e) (he : e ≤ l.length) (hj : j < 26) (hp : p ≤ e) : E 5 0 0 Y_Ta_isWord 0 [some (.ref 220), some (.int (nI p)), some (.int (nI j)), none, none, none, none] [] G M (QI G fun r M' => r = pI (celA l p e j 6 = true) ∧ M' = M) := by
  have l3 := hT.1
  have L : ∀ k t, t + k = 6 → (∀ s, s < t → cel l p e s = chW (j * 6 + s)) → ∀ x4 x5 x6, c1 x4 = true → c1 x5 = true → c1 x6 = true → E 5 0 0 Y_Ta_isWord 2 [some (.ref 220), some (.int (nI p)), some (.int (nI j)), some (.int (nI t)), x4, x5, x6] [] G M (QI G fun r M' => r = pI (celA l p e j 6 = true) ∧ M' = M) := by
    intro k
    induction k with
    | zero =>
      intro t ht h x4 x5 x6 c4 c5 c6
      have e6 : t = 6 := by omega
      subst e6
      have ok : nI 1 = pI (celA l p e j 6 = true) := (pI_t ((celA_iff 6).mpr h)).symm
      refine E_iload_n d_Ta_isWord_2 rfl ?_
      refine E_bipush (v := nI 6) d_Ta_isWord_3 (by decide) ?_
      first | (with_reducible refine E_isN2 ?_; refine E_icmp_ge 82 d_Ta_isWord_5 rfl (nb_le (by omega) (by omega) fun h5 => ?_) (nb_nle (by omega) (by omega) fun h5 => ?_)) | refine E_icmp_ge 82 d_Ta_isWord_5 rfl (fun h5 => ?_) (fun h5 => ?_)
      rotate_left
      · exfalso; omega
      refine E_iconst (v := nI 1) d_Ta_isWord_82 rfl ?_
      refine E_retZ d_Ta_isWord_83 rfl (by decide) ?_
      exact ⟨ok, rfl⟩
    | succ k ih =>
      intro t ht h x4 x5 x6 c4 c5 c6
      have hw := chW_lt (j * 6 + t) (by omega)
      have no : cel l p e t ≠ chW (j * 6 + t) → nI 0 = pI (celA l p e j 6 = true) := fun q => (pI_f (fun r => q ((celA_iff 6).mp r t (by omega)))).symm
      have go : cel l p e t = chW (j * 6 + t) → ∀ s, s < t + 1 → cel l p e s = chW (j * 6 + s) := fun q s hs => by
        rcases Nat.lt_or_ge s t with z | z
        · exact h s z
        · rw [show s = t by omega]; exact q
      by_cases hpe : p + t < e
      · have hil : p + t < l.length := by omega
        have hb := hT.b hil
        have hbv := hT.2.2.1 (p + t) hil
        have ec : cel l p e t = l.getD (p + t) 0 := if_pos hpe
        rw [ec] at no go
        generalize hbb : l.getD (p + t) 0 = b at *
        generalize hcc : chW (j * 6 + t) = c9 at *
        refine E_iload_n d_Ta_isWord_2 rfl ?_
        refine E_bipush (v := nI 6) d_Ta_isWord_3 (by decide) ?_
        first | (with_reducible refine E_isN2 ?_; refine E_icmp_ge 82 d_Ta_isWord_5 rfl (nb_le (by omega) (by omega) fun h5 => ?_) (nb_nle (by omega) (by omega) fun h5 => ?_)) | refine E_icmp_ge 82 d_Ta_isWord_5 rfl (fun h5 => ?_) (fun h5 => ?_)
        · exfalso; omega
        refine E_iload_n d_Ta_isWord_8 rfl ?_
        refine E_bipush (v := nI 6) d_Ta_isWord_9 (by decide) ?_
        first | (with_reducible refine E_isN2 ?_; refine E_imulN d_Ta_isWord_11 ?_) | refine E_imul d_Ta_isWord_11 ?_
        refine E_iload_n d_Ta_isWord_12 rfl ?_
        first | (with_reducible refine E_isN2 ?_; refine E_iaddN d_Ta_isWord_13 ?_) | refine E_iadd d_Ta_isWord_13 ?_
        refine E_istore_4 d_Ta_isWord_14 rfl ?_
        refine E_iload d_Ta_isWord_16 rfl ?_
        refine E_ldcS (i := 0) d_Ta_isWord_18 rfl (by decide) ?_
        refine E_VS0 (by decide) (sp_JS_lengthW) d_Ta_isWord_20 ml_Ta_78 cb_JS_length cv_JS_length rfl ⟨by decide, by decide⟩ rfl (Nat.le_of_ble_eq_true rfl) (Nat.le_of_ble_eq_true rfl) (kI fun r1 M1 hc => ?_)
        obtain ⟨rfl, rfl⟩ := hc
        first | (with_reducible refine E_isN2 ?_; refine E_icmp_ge 36 d_Ta_isWord_23 rfl (nb_le (by omega) (by omega) fun h23 => ?_) (nb_nle (by omega) (by omega) fun h23 => ?_)) | refine E_icmp_ge 36 d_Ta_isWord_23 rfl (fun h23 => ?_) (fun h23 => ?_)
        · exfalso; omega
        refine E_ldcS (i := 0) d_Ta_isWord_26 rfl (by decide) ?_
        refine E_iload d_Ta_isWord_28 rfl ?_
        refine E_VS1 (by decide) (sp_JS_charAt (show j * 6 + t < 156 by omega)) d_Ta_isWord_30 ml_Ta_83 cb_JS_charAt cv_JS_charAt rfl ⟨by decide, by decide⟩ rfl (Nat.le_of_ble_eq_true rfl) (Nat.le_of_ble_eq_true rfl) (kI fun r1 M1 hc => ?_)
        obtain ⟨rfl, rfl⟩ := hc
        refine E_goto 38 d_Ta_isWord_33 rfl ?_
        rw [hcc]
        refine E_istore_5 d_Ta_isWord_38 rfl ?_
        refine E_iload_n d_Ta_isWord_40 rfl ?_
        refine E_iload_n d_Ta_isWord_41 rfl ?_
        first | (with_reducible refine E_isN2 ?_; refine E_iaddN d_Ta_isWord_42 ?_) | refine E_iadd d_Ta_isWord_42 ?_
        first | refine E_aload_n d_Ta_isWord_43 rfl ?_ | refine E_aload_nN d_Ta_isWord_43 rfl ?_
        refine E_getI d_Ta_isWord_44 gf_Ta_32 (by exact hG.s (by decide) rfl) (by exact h5) ?_
        first | (with_reducible refine E_isN2 ?_; refine E_icmp_ge 63 d_Ta_isWord_47 rfl (nb_le (by omega) (by omega) fun h47 => ?_) (nb_nle (by omega) (by omega) fun h47 => ?_)) | refine E_icmp_ge 63 d_Ta_isWord_47 rfl (fun h47 => ?_) (fun h47 => ?_)
        · exfalso; omega
        first | refine E_aload_n d_Ta_isWord_50 rfl ?_ | refine E_aload_nN d_Ta_isWord_50 rfl ?_
        refine E_getR d_Ta_isWord_51 gf_Ta_9 (by exact hG.s (by decide) rfl) (by exact hR.o rfl) ?_
        refine E_iload_n d_Ta_isWord_54 rfl ?_
        refine E_iload_n d_Ta_isWord_55 rfl ?_
        first | (with_reducible refine E_isN2 ?_; refine E_iaddN d_Ta_isWord_56 ?_) | refine E_iadd d_Ta_isWord_56 ?_
        refine E_SN2 (sp_TP_at (hG.s (k := 221) (by decide) rfl) (by decide) (by omega) hbv) d_Ta_isWord_57 nl_Ta_41 cb_TP_at cs_TP_at ⟨by decide, by decide⟩ rfl (Nat.le_of_ble_eq_true rfl) (Nat.le_of_ble_eq_true rfl) (kI fun r1 M1 hc => ?_)
        obtain ⟨rfl, rfl⟩ := hc
        refine E_goto 65 d_Ta_isWord_60 rfl ?_
        refine E_istore_6 d_Ta_isWord_65 rfl ?_
        refine E_iload d_Ta_isWord_67 rfl ?_
        refine E_iload d_Ta_isWord_69 rfl ?_
        first | (with_reducible refine E_isN2 ?_; refine E_icmp_eq 76 d_Ta_isWord_71 rfl (nb_eq (by omega) (by omega) fun h71 => ?_) (nb_ne fun h71 => ?_)) | refine E_icmp_eq 76 d_Ta_isWord_71 rfl (fun h71 => ?_) (fun h71 => ?_)
        · first | (with_reducible refine E_isL3 ?_; refine E_iincN3 (m := 1) d_Ta_isWord_76 rfl rfl ?_) | refine E_iinc_3 d_Ta_isWord_76 rfl rfl ?_
          refine E_goto 2 d_Ta_isWord_79 rfl ?_
          exact ih (t + 1) (by omega) (go (by omega)) _ _ _ rfl rfl rfl
        · refine E_iconst (v := nI 0) d_Ta_isWord_74 rfl ?_
          refine E_retZ d_Ta_isWord_75 rfl (by decide) ?_
          exact ⟨no (by omega), rfl⟩
      · have ec : cel l p e t = 32 := if_neg hpe
        rw [ec] at no go
        generalize hcc : chW (j * 6 + t) = c9 at *
        refine E_iload_n d_Ta_isWord_2 rfl ?_
        refine E_bipush (v := nI 6) d_Ta_isWord_3 (by decide) ?_
        first | (with_reducible refine E_isN2 ?_; refine E_icmp_ge 82 d_Ta_isWord_5 rfl (nb_le (by omega) (by omega) fun h5 => ?_) (nb_nle (by omega) (by omega) fun h5 => ?_)) | refine E_icmp_ge 82 d_Ta_isWord_5 rfl (fun h5 => ?_) (fun h5 => ?_)
        · exfalso; omega
        refine E_iload_n d_Ta_isWord_8 rfl ?_
        refine E_bipush (v := nI 6) d_Ta_isWord_9 (by decide) ?_
        first | (with_reducible refine E_isN2 ?_; refine E_imulN d_Ta_isWord_11 ?_) | refine E_imul d_Ta_isWord_11 ?_
        refine E_iload_n d_Ta_isWord_12 rfl ?_
        first | (with_reducible refine E_isN2 ?_; refine E_iaddN d_Ta_isWord_13 ?_) | refine E_iadd d_Ta_isWord_13 ?_
        refine E_istore_4 d_Ta_isWord_14 rfl ?_
        refine E_iload d_Ta_isWord_16 rfl ?_
        refine E_ldcS (i := 0) d_Ta_isWord_18 rfl (by decide) ?_
        refine E_VS0 (by decide) (sp_JS_lengthW) d_Ta_isWord_20 ml_Ta_78 cb_JS_length cv_JS_length rfl ⟨by decide, by decide⟩ rfl (Nat.le_of_ble_eq_true rfl) (Nat.le_of_ble_eq_true rfl) (kI fun r1 M1 hc => ?_)
        obtain ⟨rfl, rfl⟩ := hc
        first | (with_reducible refine E_isN2 ?_; refine E_icmp_ge 36 d_Ta_isWord_23 rfl (nb_le (by omega) (by omega) fun h23 => ?_) (nb_nle (by omega) (by omega) fun h23 => ?_)) | refine E_icmp_ge 36 d_Ta_isWord_23 rfl (fun h23 => ?_) (fun h23 => ?_)
        · exfalso; omega
        refine E_ldcS (i := 0) d_Ta_isWord_26 rfl (by decide) ?_
        refine E_iload d_Ta_isWord_28 rfl ?_
        refine E_VS1 (by decide) (sp_JS_charAt (show j * 6 + t < 156 by omega)) d_Ta_isWord_30 ml_Ta_83 cb_JS_charAt cv_JS_charAt rfl ⟨by decide, by decide⟩ rfl (Nat.le_of_ble_eq_true rfl) (Nat.le_of_ble_eq_true rfl) (kI fun r1 M1 hc => ?_)
        obtain ⟨rfl, rfl⟩ := hc
        refine E_goto 38 d_Ta_isWord_33 rfl ?_
        rw [hcc]
        refine E_istore_5 d_Ta_isWord_38 rfl ?_
        refine E_iload_n d_Ta_isWord_40 rfl ?_
        refine E_iload_n d_Ta_isWord_41 rfl ?_
        first | (with_reducible refine E_isN2 ?_; refine E_iaddN d_Ta_isWord_42 ?_) | refine E_iadd d_Ta_isWord_42 ?_
        first | refine E_aload_n d_Ta_isWord_43 rfl ?_ | refine E_aload_nN d_Ta_isWord_43 rfl ?_
        refine E_getI d_Ta_isWord_44 gf_Ta_32 (by exact hG.s (by decide) rfl) (by exact h5) ?_
        first | (with_reducible refine E_isN2 ?_; refine E_icmp_ge 63 d_Ta_isWord_47 rfl (nb_le (by omega) (by omega) fun h47 => ?_) (nb_nle (by omega) (by omega) fun h47 => ?_)) | refine E_icmp_ge 63 d_Ta_isWord_47 rfl (fun h47 => ?_) (fun h47 => ?_)
        rotate_left
        · exfalso; omega
        refine E_bipush (v := nI 32) d_Ta_isWord_63 (by decide) ?_
        refine E_istore_6 d_Ta_isWord_65 rfl ?_
        refine E_iload d_Ta_isWord_67 rfl ?_
        refine E_iload d_Ta_isWord_69 rfl ?_
        first | (with_reducible refine E_isN2 ?_; refine E_icmp_eq 76 d_Ta_isWord_71 rfl (nb_eq (by omega) (by omega) fun h71 => ?_) (nb_ne fun h71 => ?_)) | refine E_icmp_eq 76 d_Ta_isWord_71 rfl (fun h71 => ?_) (fun h71 => ?_)
        · first | (with_reducible refine E_isL3 ?_; refine E_iincN3 (m := 1) d_Ta_isWord_76 rfl rfl ?_) | refine E_iinc_3 d_Ta_isWord_76 rfl rfl ?_
          refine E_goto 2 d_Ta_isWord_79 rfl ?_
          exact ih (t + 1) (by omega) (go (by omega)) _ _ _ rfl rfl rfl
        · refine E_iconst (v := nI 0) d_Ta_isWord_74 rfl ?_
          refine E_retZ d_Ta_isWord_75 rfl (by decide) ?_
          exact ⟨no (by omega), rfl⟩
  refine E_iconst (v := nI 0) d_Ta_isWord_0 rfl ?_
  refine E_istore_3 d_Ta_isWord_1 rfl ?_
  exact L 6 0 (by decide) (fun s hs => absurd hs (Nat.not_lt_zero s)) _ _ _ rfl rfl rfl
end LXc
