section CMq
variable {G : Geo} {M : Mem} {b d : Nat}
theorem GC.c0 {c : Nat} (h : GC G) (hc : CrAd c) : Sh G c (0, 1) := h.c (k := 0) hc (by decide) rfl
def Cpp (b k : Nat) : Prop := b + 4 ≤ k ∧ k ≤ b + 6
def Cpt (b k : Nat) : Prop := k = b ∨ (b + 9 ≤ k ∧ k ≤ b + 13)
theorem ad_ne (hb : CrAd b) (hd : CrAd d) (h : b ≠ d) : (b = 1 ∧ d = 105) ∨ (b = 105 ∧ d = 1) := by unfold CrAd at hb hd; omega
theorem sp_Cr_copyPeople (hG : GC G) (hR : RC M) (hb : CrAd b) (hd : CrAd d) (h : b ≠ d) : E 1 0 0 Y_Cr_copyPeople 0 [some (.ref b), some (.ref d)] [] G M (QV G fun M' => Sc (Cpp b) M M' ∧ ∀ k j, 4 ≤ k → k ≤ 6 → j < 8 → mI M' (b + k) j = mI M (d + k) j) := by
  have hn := ad_ne hb hd h
  have kk : ∀ g4 g5 g6 M', M' = wA (wA (wA M (b + 4) g4) (b + 5) g5) (b + 6) g6 → (∀ j, j < 8 → g4 j = mI M (d + 4) j) → (∀ j, j < 8 → g5 j = mI M (d + 5) j) → (∀ j, j < 8 → g6 j = mI M (d + 6) j) → Sc (Cpp b) M M' ∧ ∀ k j, 4 ≤ k → k ≤ 6 → j < 8 → mI M' (b + k) j = mI M (d + k) j := by
    intro g4 g5 g6 M' e h4 h5 h6
    subst e
    refine ⟨((Sc.rf.wA (P := Cpp b) ⟨by omega, by omega⟩).wA ⟨by omega, by omega⟩).wA ⟨by omega, by omega⟩, fun k j k1 k2 hj => ?_⟩
    rcases (show k = 4 ∨ k = 5 ∨ k = 6 by omega) with rfl | rfl | rfl
    · rw [wA_ne (by omega), wA_ne (by omega), wA_at]; exact h4 j hj
    · rw [wA_ne (by omega), wA_at]; exact h5 j hj
    · rw [wA_at]; exact h6 j hj
  first | refine E_aload_n d_Cr_copyPeople_0 rfl ?_ | refine E_aload_nN d_Cr_copyPeople_0 rfl ?_
  refine E_getR d_Cr_copyPeople_1 gf_Cr_18 (by first | exact hG.c0 hb | exact hG.c0 hd | exact hG.c hb (by decide) rfl | exact hG.c hd (by decide) rfl) (by first | exact hR.c hb rfl | exact hR.c hd rfl) ?_
  refine E_iconst (v := nI 0) d_Cr_copyPeople_4 rfl ?_
  first | refine E_aload_n d_Cr_copyPeople_5 rfl ?_ | refine E_aload_nN d_Cr_copyPeople_5 rfl ?_
  refine E_getR d_Cr_copyPeople_6 gf_Cr_18 (by first | exact hG.c0 hb | exact hG.c0 hd | exact hG.c hb (by decide) rfl | exact hG.c hd (by decide) rfl) (by first | exact hR.c hb rfl | exact hR.c hd rfl) ?_
  refine E_iconst (v := nI 0) d_Cr_copyPeople_9 rfl ?_
  first | refine E_aload_n d_Cr_copyPeople_10 rfl ?_ | refine E_aload_nN d_Cr_copyPeople_10 rfl ?_
  refine E_getR d_Cr_copyPeople_11 gf_Cr_18 (by first | exact hG.c0 hb | exact hG.c0 hd | exact hG.c hb (by decide) rfl | exact hG.c hd (by decide) rfl) (by first | exact hR.c hb rfl | exact hR.c hd rfl) ?_
  refine E_alen d_Cr_copyPeople_14 (by first | exact hG.c0 hb | exact hG.c0 hd | exact hG.c hb (by decide) rfl | exact hG.c hd (by decide) rfl) (by decide) rfl ?_
  refine E_copy d_Cr_copyPeople_15 ml_Cr_81 (by decide) (Nat.le_of_ble_eq_true rfl) (by first | exact hG.c0 hb | exact hG.c0 hd | exact hG.c hb (by decide) rfl | exact hG.c hd (by decide) rfl) (by first | exact hG.c0 hb | exact hG.c0 hd | exact hG.c hb (by decide) rfl | exact hG.c hd (by decide) rfl) rfl rfl rfl (by omega) (by omega) (by decide) (by decide) ?_
  first | refine E_aload_n d_Cr_copyPeople_18 rfl ?_ | refine E_aload_nN d_Cr_copyPeople_18 rfl ?_
  refine E_getR d_Cr_copyPeople_19 gf_Cr_22 (by first | exact hG.c0 hb | exact hG.c0 hd | exact hG.c hb (by decide) rfl | exact hG.c hd (by decide) rfl) (by first | exact hR.c hb rfl | exact hR.c hd rfl) ?_
  refine E_iconst (v := nI 0) d_Cr_copyPeople_22 rfl ?_
  first | refine E_aload_n d_Cr_copyPeople_23 rfl ?_ | refine E_aload_nN d_Cr_copyPeople_23 rfl ?_
  refine E_getR d_Cr_copyPeople_24 gf_Cr_22 (by first | exact hG.c0 hb | exact hG.c0 hd | exact hG.c hb (by decide) rfl | exact hG.c hd (by decide) rfl) (by first | exact hR.c hb rfl | exact hR.c hd rfl) ?_
  refine E_iconst (v := nI 0) d_Cr_copyPeople_27 rfl ?_
  first | refine E_aload_n d_Cr_copyPeople_28 rfl ?_ | refine E_aload_nN d_Cr_copyPeople_28 rfl ?_
  refine E_getR d_Cr_copyPeople_29 gf_Cr_22 (by first | exact hG.c0 hb | exact hG.c0 hd | exact hG.c hb (by decide) rfl | exact hG.c hd (by decide) rfl) (by first | exact hR.c hb rfl | exact hR.c hd rfl) ?_
  refine E_alen d_Cr_copyPeople_32 (by first | exact hG.c0 hb | exact hG.c0 hd | exact hG.c hb (by decide) rfl | exact hG.c hd (by decide) rfl) (by decide) rfl ?_
  refine E_copy d_Cr_copyPeople_33 ml_Cr_81 (by decide) (Nat.le_of_ble_eq_true rfl) (by first | exact hG.c0 hb | exact hG.c0 hd | exact hG.c hb (by decide) rfl | exact hG.c hd (by decide) rfl) (by first | exact hG.c0 hb | exact hG.c0 hd | exact hG.c hb (by decide) rfl | exact hG.c hd (by decide) rfl) rfl rfl rfl (by omega) (by omega) (by decide) (by decide) ?_
  first | refine E_aload_n d_Cr_copyPeople_36 rfl ?_ | refine E_aload_nN d_Cr_copyPeople_36 rfl ?_
  refine E_getR d_Cr_copyPeople_37 gf_Cr_25 (by first | exact hG.c0 hb | exact hG.c0 hd | exact hG.c hb (by decide) rfl | exact hG.c hd (by decide) rfl) (by first | exact hR.c hb rfl | exact hR.c hd rfl) ?_
  refine E_iconst (v := nI 0) d_Cr_copyPeople_40 rfl ?_
  first | refine E_aload_n d_Cr_copyPeople_41 rfl ?_ | refine E_aload_nN d_Cr_copyPeople_41 rfl ?_
  refine E_getR d_Cr_copyPeople_42 gf_Cr_25 (by first | exact hG.c0 hb | exact hG.c0 hd | exact hG.c hb (by decide) rfl | exact hG.c hd (by decide) rfl) (by first | exact hR.c hb rfl | exact hR.c hd rfl) ?_
  refine E_iconst (v := nI 0) d_Cr_copyPeople_45 rfl ?_
  first | refine E_aload_n d_Cr_copyPeople_46 rfl ?_ | refine E_aload_nN d_Cr_copyPeople_46 rfl ?_
  refine E_getR d_Cr_copyPeople_47 gf_Cr_25 (by first | exact hG.c0 hb | exact hG.c0 hd | exact hG.c hb (by decide) rfl | exact hG.c hd (by decide) rfl) (by first | exact hR.c hb rfl | exact hR.c hd rfl) ?_
  refine E_alen d_Cr_copyPeople_50 (by first | exact hG.c0 hb | exact hG.c0 hd | exact hG.c hb (by decide) rfl | exact hG.c hd (by decide) rfl) (by decide) rfl ?_
  refine E_copy d_Cr_copyPeople_51 ml_Cr_81 (by decide) (Nat.le_of_ble_eq_true rfl) (by first | exact hG.c0 hb | exact hG.c0 hd | exact hG.c hb (by decide) rfl | exact hG.c hd (by decide) rfl) (by first | exact hG.c0 hb | exact hG.c0 hd | exact hG.c hb (by decide) rfl | exact hG.c hd (by decide) rfl) rfl rfl rfl (by omega) (by omega) (by decide) (by decide) ?_
  refine E_retV d_Cr_copyPeople_54 rfl ?_
  refine kk _ _ _ _ rfl (fun j hj => cpy_all hj) (fun j hj => (cpy_all hj).trans ?_) (fun j hj => (cpy_all hj).trans ?_)
  · rw [wA_ne (by omega)]
  · rw [wA_ne (by omega), wA_ne (by omega)]
theorem sp_Cr_copyTold (hG : GC G) (hR : RC M) (hb : CrAd b) (hd : CrAd d) (h : b ≠ d) : E 1 0 0 Y_Cr_copyTold 0 [some (.ref b), some (.ref d)] [] G M (QV G fun M' => Sc (Cpt b) M M' ∧ (∀ k j, 9 ≤ k → k ≤ 13 → j < (if k = 13 then 10 else 8) → mI M' (b + k) j = mI M (d + k) j) ∧ (∀ j, j ≠ 12 → j ≠ 15 → mI M' b j = mI M b j) ∧ mI M' b 12 = mI M d 12 ∧ mI M' b 15 = mI M d 15) := by
  have hn := ad_ne hb hd h
  have kk : ∀ g9 g10 v12 g11 g12 v15 g13 M', M' = wA (wI (wA (wA (wI (wA (wA M (b + 9) g9) (b + 10) g10) b 12 v12) (b + 11) g11) (b + 12) g12) b 15 v15) (b + 13) g13 → (∀ j, j < 8 → g9 j = mI M (d + 9) j) → (∀ j, j < 8 → g10 j = mI M (d + 10) j) → v12 = mI M d 12 → (∀ j, j < 8 → g11 j = mI M (d + 11) j) → (∀ j, j < 8 → g12 j = mI M (d + 12) j) → v15 = mI M d 15 → (∀ j, j < 10 → g13 j = mI M (d + 13) j) →
      Sc (Cpt b) M M' ∧ (∀ k j, 9 ≤ k → k ≤ 13 → j < (if k = 13 then 10 else 8) → mI M' (b + k) j = mI M (d + k) j) ∧ (∀ j, j ≠ 12 → j ≠ 15 → mI M' b j = mI M b j) ∧ mI M' b 12 = mI M d 12 ∧ mI M' b 15 = mI M d 15 := by
    intro g9 g10 v12 g11 g12 v15 g13 M' e h9 h10 e12 h11 h12 e15 h13
    subst e
    have q : ∀ k, 9 ≤ k → k ≤ 13 → Cpt b (b + k) := fun k k1 k2 => Or.inr ⟨by omega, by omega⟩
    have q0 : Cpt b b := Or.inl rfl
    refine ⟨((((((Sc.rf.wA (q 9 (by decide) (by decide))).wA (q 10 (by decide) (by decide))).wI q0).wA (q 11 (by decide) (by decide))).wA (q 12 (by decide) (by decide))).wI q0).wA (q 13 (by decide) (by decide)), fun k j k1 k2 hj => ?_, fun j j1 j2 => ?_, ?_, ?_⟩
    · rcases (show k = 9 ∨ k = 10 ∨ k = 11 ∨ k = 12 ∨ k = 13 by omega) with rfl | rfl | rfl | rfl | rfl
      · rw [wA_ne (by omega), mI_ne (by omega), wA_ne (by omega), wA_ne (by omega), mI_ne (by omega), wA_ne (by omega), wA_at]; exact h9 j hj
      · rw [wA_ne (by omega), mI_ne (by omega), wA_ne (by omega), wA_ne (by omega), mI_ne (by omega), wA_at]; exact h10 j hj
      · rw [wA_ne (by omega), mI_ne (by omega), wA_ne (by omega), wA_at]; exact h11 j hj
      · rw [wA_ne (by omega), mI_ne (by omega), wA_at]; exact h12 j hj
      · rw [wA_at]; exact h13 j hj
    · rw [wA_ne (by omega), mI_wa, if_neg j2, wA_ne (by omega), wA_ne (by omega), mI_wa, if_neg j1, wA_ne (by omega), wA_ne (by omega)]
    · rw [wA_ne (by omega), mI_wa, if_neg (by decide), wA_ne (by omega), wA_ne (by omega), mI_wa, if_pos rfl]; exact e12
    · rw [wA_ne (by omega), mI_wa, if_pos rfl]; exact e15
  first | refine E_aload_n d_Cr_copyTold_0 rfl ?_ | refine E_aload_nN d_Cr_copyTold_0 rfl ?_
  refine E_getR d_Cr_copyTold_1 gf_Cr_42 (by first | exact hG.c0 hb | exact hG.c0 hd | exact hG.c hb (by decide) rfl | exact hG.c hd (by decide) rfl) (by first | exact hR.c hb rfl | exact hR.c hd rfl) ?_
  refine E_iconst (v := nI 0) d_Cr_copyTold_4 rfl ?_
  first | refine E_aload_n d_Cr_copyTold_5 rfl ?_ | refine E_aload_nN d_Cr_copyTold_5 rfl ?_
  refine E_getR d_Cr_copyTold_6 gf_Cr_42 (by first | exact hG.c0 hb | exact hG.c0 hd | exact hG.c hb (by decide) rfl | exact hG.c hd (by decide) rfl) (by first | exact hR.c hb rfl | exact hR.c hd rfl) ?_
  refine E_iconst (v := nI 0) d_Cr_copyTold_9 rfl ?_
  first | refine E_aload_n d_Cr_copyTold_10 rfl ?_ | refine E_aload_nN d_Cr_copyTold_10 rfl ?_
  refine E_getR d_Cr_copyTold_11 gf_Cr_42 (by first | exact hG.c0 hb | exact hG.c0 hd | exact hG.c hb (by decide) rfl | exact hG.c hd (by decide) rfl) (by first | exact hR.c hb rfl | exact hR.c hd rfl) ?_
  refine E_alen d_Cr_copyTold_14 (by first | exact hG.c0 hb | exact hG.c0 hd | exact hG.c hb (by decide) rfl | exact hG.c hd (by decide) rfl) (by decide) rfl ?_
  refine E_copy d_Cr_copyTold_15 ml_Cr_81 (by decide) (Nat.le_of_ble_eq_true rfl) (by first | exact hG.c0 hb | exact hG.c0 hd | exact hG.c hb (by decide) rfl | exact hG.c hd (by decide) rfl) (by first | exact hG.c0 hb | exact hG.c0 hd | exact hG.c hb (by decide) rfl | exact hG.c hd (by decide) rfl) rfl rfl rfl (by omega) (by omega) (by decide) (by decide) ?_
  first | refine E_aload_n d_Cr_copyTold_18 rfl ?_ | refine E_aload_nN d_Cr_copyTold_18 rfl ?_
  refine E_getR d_Cr_copyTold_19 gf_Cr_45 (by first | exact hG.c0 hb | exact hG.c0 hd | exact hG.c hb (by decide) rfl | exact hG.c hd (by decide) rfl) (by first | exact hR.c hb rfl | exact hR.c hd rfl) ?_
  refine E_iconst (v := nI 0) d_Cr_copyTold_22 rfl ?_
  first | refine E_aload_n d_Cr_copyTold_23 rfl ?_ | refine E_aload_nN d_Cr_copyTold_23 rfl ?_
  refine E_getR d_Cr_copyTold_24 gf_Cr_45 (by first | exact hG.c0 hb | exact hG.c0 hd | exact hG.c hb (by decide) rfl | exact hG.c hd (by decide) rfl) (by first | exact hR.c hb rfl | exact hR.c hd rfl) ?_
  refine E_iconst (v := nI 0) d_Cr_copyTold_27 rfl ?_
  first | refine E_aload_n d_Cr_copyTold_28 rfl ?_ | refine E_aload_nN d_Cr_copyTold_28 rfl ?_
  refine E_getR d_Cr_copyTold_29 gf_Cr_45 (by first | exact hG.c0 hb | exact hG.c0 hd | exact hG.c hb (by decide) rfl | exact hG.c hd (by decide) rfl) (by first | exact hR.c hb rfl | exact hR.c hd rfl) ?_
  refine E_alen d_Cr_copyTold_32 (by first | exact hG.c0 hb | exact hG.c0 hd | exact hG.c hb (by decide) rfl | exact hG.c hd (by decide) rfl) (by decide) rfl ?_
  refine E_copy d_Cr_copyTold_33 ml_Cr_81 (by decide) (Nat.le_of_ble_eq_true rfl) (by first | exact hG.c0 hb | exact hG.c0 hd | exact hG.c hb (by decide) rfl | exact hG.c hd (by decide) rfl) (by first | exact hG.c0 hb | exact hG.c0 hd | exact hG.c hb (by decide) rfl | exact hG.c hd (by decide) rfl) rfl rfl rfl (by omega) (by omega) (by decide) (by decide) ?_
  first | refine E_aload_n d_Cr_copyTold_36 rfl ?_ | refine E_aload_nN d_Cr_copyTold_36 rfl ?_
  first | refine E_aload_n d_Cr_copyTold_37 rfl ?_ | refine E_aload_nN d_Cr_copyTold_37 rfl ?_
  refine E_getI d_Cr_copyTold_38 gf_Cr_87 (by first | exact hG.c0 hb | exact hG.c0 hd | exact hG.c hb (by decide) rfl | exact hG.c hd (by decide) rfl) (by rfl) ?_
  refine E_putI d_Cr_copyTold_41 gf_Cr_87 (by first | exact hG.c0 hb | exact hG.c0 hd | exact hG.c hb (by decide) rfl | exact hG.c hd (by decide) rfl) rfl rfl ?_
  first | refine E_aload_n d_Cr_copyTold_44 rfl ?_ | refine E_aload_nN d_Cr_copyTold_44 rfl ?_
  refine E_getR d_Cr_copyTold_45 gf_Cr_48 (by first | exact hG.c0 hb | exact hG.c0 hd | exact hG.c hb (by decide) rfl | exact hG.c hd (by decide) rfl) (by first | exact hR.c hb rfl | exact hR.c hd rfl) ?_
  refine E_iconst (v := nI 0) d_Cr_copyTold_48 rfl ?_
  first | refine E_aload_n d_Cr_copyTold_49 rfl ?_ | refine E_aload_nN d_Cr_copyTold_49 rfl ?_
  refine E_getR d_Cr_copyTold_50 gf_Cr_48 (by first | exact hG.c0 hb | exact hG.c0 hd | exact hG.c hb (by decide) rfl | exact hG.c hd (by decide) rfl) (by first | exact hR.c hb rfl | exact hR.c hd rfl) ?_
  refine E_iconst (v := nI 0) d_Cr_copyTold_53 rfl ?_
  first | refine E_aload_n d_Cr_copyTold_54 rfl ?_ | refine E_aload_nN d_Cr_copyTold_54 rfl ?_
  refine E_getR d_Cr_copyTold_55 gf_Cr_48 (by first | exact hG.c0 hb | exact hG.c0 hd | exact hG.c hb (by decide) rfl | exact hG.c hd (by decide) rfl) (by first | exact hR.c hb rfl | exact hR.c hd rfl) ?_
  refine E_alen d_Cr_copyTold_58 (by first | exact hG.c0 hb | exact hG.c0 hd | exact hG.c hb (by decide) rfl | exact hG.c hd (by decide) rfl) (by decide) rfl ?_
  refine E_copy d_Cr_copyTold_59 ml_Cr_81 (by decide) (Nat.le_of_ble_eq_true rfl) (by first | exact hG.c0 hb | exact hG.c0 hd | exact hG.c hb (by decide) rfl | exact hG.c hd (by decide) rfl) (by first | exact hG.c0 hb | exact hG.c0 hd | exact hG.c hb (by decide) rfl | exact hG.c hd (by decide) rfl) rfl rfl rfl (by omega) (by omega) (by decide) (by decide) ?_
  first | refine E_aload_n d_Cr_copyTold_62 rfl ?_ | refine E_aload_nN d_Cr_copyTold_62 rfl ?_
  refine E_getR d_Cr_copyTold_63 gf_Cr_51 (by first | exact hG.c0 hb | exact hG.c0 hd | exact hG.c hb (by decide) rfl | exact hG.c hd (by decide) rfl) (by first | exact hR.c hb rfl | exact hR.c hd rfl) ?_
  refine E_iconst (v := nI 0) d_Cr_copyTold_66 rfl ?_
  first | refine E_aload_n d_Cr_copyTold_67 rfl ?_ | refine E_aload_nN d_Cr_copyTold_67 rfl ?_
  refine E_getR d_Cr_copyTold_68 gf_Cr_51 (by first | exact hG.c0 hb | exact hG.c0 hd | exact hG.c hb (by decide) rfl | exact hG.c hd (by decide) rfl) (by first | exact hR.c hb rfl | exact hR.c hd rfl) ?_
  refine E_iconst (v := nI 0) d_Cr_copyTold_71 rfl ?_
  first | refine E_aload_n d_Cr_copyTold_72 rfl ?_ | refine E_aload_nN d_Cr_copyTold_72 rfl ?_
  refine E_getR d_Cr_copyTold_73 gf_Cr_51 (by first | exact hG.c0 hb | exact hG.c0 hd | exact hG.c hb (by decide) rfl | exact hG.c hd (by decide) rfl) (by first | exact hR.c hb rfl | exact hR.c hd rfl) ?_
  refine E_alen d_Cr_copyTold_76 (by first | exact hG.c0 hb | exact hG.c0 hd | exact hG.c hb (by decide) rfl | exact hG.c hd (by decide) rfl) (by decide) rfl ?_
  refine E_copy d_Cr_copyTold_77 ml_Cr_81 (by decide) (Nat.le_of_ble_eq_true rfl) (by first | exact hG.c0 hb | exact hG.c0 hd | exact hG.c hb (by decide) rfl | exact hG.c hd (by decide) rfl) (by first | exact hG.c0 hb | exact hG.c0 hd | exact hG.c hb (by decide) rfl | exact hG.c hd (by decide) rfl) rfl rfl rfl (by omega) (by omega) (by decide) (by decide) ?_
  first | refine E_aload_n d_Cr_copyTold_80 rfl ?_ | refine E_aload_nN d_Cr_copyTold_80 rfl ?_
  first | refine E_aload_n d_Cr_copyTold_81 rfl ?_ | refine E_aload_nN d_Cr_copyTold_81 rfl ?_
  refine E_getI d_Cr_copyTold_82 gf_Cr_90 (by first | exact hG.c0 hb | exact hG.c0 hd | exact hG.c hb (by decide) rfl | exact hG.c hd (by decide) rfl) (by rfl) ?_
  refine E_putI d_Cr_copyTold_85 gf_Cr_90 (by first | exact hG.c0 hb | exact hG.c0 hd | exact hG.c hb (by decide) rfl | exact hG.c hd (by decide) rfl) rfl rfl ?_
  first | refine E_aload_n d_Cr_copyTold_88 rfl ?_ | refine E_aload_nN d_Cr_copyTold_88 rfl ?_
  refine E_getR d_Cr_copyTold_89 gf_Cr_54 (by first | exact hG.c0 hb | exact hG.c0 hd | exact hG.c hb (by decide) rfl | exact hG.c hd (by decide) rfl) (by first | exact hR.c hb rfl | exact hR.c hd rfl) ?_
  refine E_iconst (v := nI 0) d_Cr_copyTold_92 rfl ?_
  first | refine E_aload_n d_Cr_copyTold_93 rfl ?_ | refine E_aload_nN d_Cr_copyTold_93 rfl ?_
  refine E_getR d_Cr_copyTold_94 gf_Cr_54 (by first | exact hG.c0 hb | exact hG.c0 hd | exact hG.c hb (by decide) rfl | exact hG.c hd (by decide) rfl) (by first | exact hR.c hb rfl | exact hR.c hd rfl) ?_
  refine E_iconst (v := nI 0) d_Cr_copyTold_97 rfl ?_
  first | refine E_aload_n d_Cr_copyTold_98 rfl ?_ | refine E_aload_nN d_Cr_copyTold_98 rfl ?_
  refine E_getR d_Cr_copyTold_99 gf_Cr_54 (by first | exact hG.c0 hb | exact hG.c0 hd | exact hG.c hb (by decide) rfl | exact hG.c hd (by decide) rfl) (by first | exact hR.c hb rfl | exact hR.c hd rfl) ?_
  refine E_alen d_Cr_copyTold_102 (by first | exact hG.c0 hb | exact hG.c0 hd | exact hG.c hb (by decide) rfl | exact hG.c hd (by decide) rfl) (by decide) rfl ?_
  refine E_copy d_Cr_copyTold_103 ml_Cr_81 (by decide) (Nat.le_of_ble_eq_true rfl) (by first | exact hG.c0 hb | exact hG.c0 hd | exact hG.c hb (by decide) rfl | exact hG.c hd (by decide) rfl) (by first | exact hG.c0 hb | exact hG.c0 hd | exact hG.c hb (by decide) rfl | exact hG.c hd (by decide) rfl) rfl rfl rfl (by omega) (by omega) (by decide) (by decide) ?_
  refine E_retV d_Cr_copyTold_106 rfl ?_
  refine kk _ _ _ _ _ _ _ _ rfl (fun j hj => cpy_all hj) (fun j hj => (cpy_all hj).trans ?_) ?_ (fun j hj => (cpy_all hj).trans ?_) (fun j hj => (cpy_all hj).trans ?_) ?_ (fun j hj => (cpy_all hj).trans ?_)
  · rw [wA_ne (by omega)]
  · rw [wA_ne (by omega), wA_ne (by omega)]
  · rw [mI_ne (by omega), wA_ne (by omega), wA_ne (by omega)]
  · rw [wA_ne (by omega), mI_ne (by omega), wA_ne (by omega), wA_ne (by omega)]
  · rw [wA_ne (by omega), wA_ne (by omega), mI_wx (by omega), wA_ne (by omega), wA_ne (by omega)]
  · rw [mI_ne (by omega), wA_ne (by omega), wA_ne (by omega), mI_ne (by omega), wA_ne (by omega), wA_ne (by omega)]
def Sd (b : Nat) (M M' : Mem) : Prop := (∀ a, a ≠ b + 8 → a ≠ 212 → mR M' a = mR M a) ∧ ∀ a, ¬ (b ≤ a ∧ a < b + 104) → mI M' a = mI M a ∧ mL M' a = mL M a
def TO (b : Nat) (G : Geo) (M : Mem) : Prop := ∀ t, t < 4 → mR M (b + 8) t = none ∨ ∃ q, mR M (b + 8) t = some q ∧ Sh G q (0, 7)
def Bs (b k : Nat) : Prop := (b + 1 ≤ k ∧ k ≤ b + 3) ∨ (b + 14 ≤ k ∧ k < b + 104)
theorem HC_copy {c : Cr} {M' : Mem} (hd : CrAd d) (hb : CrAd b) (h1 : ∀ m, Mok m → MoC m (d + 1) M → MoC m (b + 1) M') (h2 : ∀ j, j < 30 → ∀ m, Mok m → MoC m (d + 14 + 3 * j) M → MoC m (b + 14 + 3 * j) M') (h3 : ∀ j, j = 5 ∨ j = 6 ∨ j = 8 ∨ j = 9 ∨ j = 12 ∨ j = 15 → mI M' b j = mI M d j)
    (h4 : ∀ k j, 4 ≤ k → k ≤ 6 → j < 8 → mI M' (b + k) j = mI M (d + k) j) (h5 : ∀ k j, 9 ≤ k → k ≤ 13 → j < (if k = 13 then 10 else 8) → mI M' (b + k) j = mI M (d + k) j) (h6 : ∀ t, t < 4 → mR M' (b + 8) t = mR M (d + 8) t) (h7 : ∀ k, 234 ≤ k → mI M' k = mI M k ∧ mR M' k = mR M k) (h : HC c d G M) : HC c b G M' := by
  have hw := h.w
  have hp8 := hw.p8
  obtain ⟨fs, q1, q2, q3⟩ := h.fs
  refine ⟨h1 _ hw.mo h.now, fun p hp => (h4 4 p (by decide) (by decide) (by omega)).trans (h.sort hp), fun p hp => (h4 5 p (by decide) (by decide) (by omega)).trans (h.begun hp), fun p hp => (h4 6 p (by decide) (by decide) (by omega)).trans (h.hears hp), ⟨fs, q1, (h3 5 (by omega)).trans q2, fun i m hi => h2 _ (Nat.mod_lt _ (by decide)) m (hw.step m (List.mem_of_getElem? hi)).1 (q3 i m hi)⟩, (h3 6 (by omega)).trans h.steps, (h3 8 (by omega)).trans h.texts, fun t ht => ?_, (h3 9 (by omega)).trans h.ruling, (h3 12 (by omega)).trans h.parties, fun i hi => ?_, (h3 15 (by omega)).trans h.saids, fun i hi => ?_, fun v hv => (h5 13 v (by decide) (by decide) hv).trans (h.village hv), hw⟩
  · obtain ⟨a, r1, r2⟩ := h.text ht
    exact ⟨a, (h6 t (by have := hw.texts; omega)).trans r1, r2.cg h7⟩
  · have hl := hw.parties
    have := h.party hi
    exact ⟨(h5 9 i (by decide) (by decide) (show i < 8 by omega)).trans this.1, (h5 10 i (by decide) (by decide) (show i < 8 by omega)).trans this.2⟩
  · have hl := hw.saids
    have := h.said hi
    exact ⟨(h5 11 i (by decide) (by decide) (show i < 8 by omega)).trans this.1, (h5 12 i (by decide) (by decide) (show i < 8 by omega)).trans this.2⟩
def Inv1 (b d n : Nat) (M M1 : Mem) : Prop := Sc (Bs b) M M1 ∧ (∀ m, Mok m → MoC m (d + 1) M → MoC m (b + 1) M1) ∧ ∀ j, j < n → ∀ m, Mok m → MoC m (d + 14 + 3 * j) M → MoC m (b + 14 + 3 * j) M1
theorem Inv1.st {n : Nat} {M1 M2 : Mem} (hn : (b = 1 ∧ d = 105) ∨ (b = 105 ∧ d = 1)) (h30 : n < 30) (h : Inv1 b d n M M1) (hS : Sc (Bk (b + 14 + 3 * n)) M1 M2) (hm : ∀ m, Mok m → MoC m (d + 14 + 3 * n) M1 → MoC m (b + 14 + 3 * n) M2) : Inv1 b d (n + 1) M M2 := by
  obtain ⟨h1, h2, h3⟩ := h
  have e2 : ∀ k, ¬ Bk (b + 14 + 3 * n) k → mI M2 k = mI M1 k := fun k q => (hS.2 k q).1
  have e1 : ∀ k, ¬ Bs b k → mI M1 k = mI M k := fun k q => (h1.2 k q).1
  refine ⟨h1.tr (hS.wk fun k q => Or.inr (by unfold Bk at q; omega)), fun m hk q => (h2 m hk q).cg (e2 _ (by unfold Bk; omega)) (e2 _ (by unfold Bk; omega)) (e2 _ (by unfold Bk; omega)), fun j hj m hk q => ?_⟩
  by_cases e : j = n
  · subst e
    exact hm m hk (q.cg (e1 _ (by unfold Bs; omega)) (e1 _ (by unfold Bs; omega)) (e1 _ (by unfold Bs; omega)))
  · exact (h3 j (by omega) m hk q).cg (e2 _ (by unfold Bk; omega)) (e2 _ (by unfold Bk; omega)) (e2 _ (by unfold Bk; omega))
theorem lp_Cr_copyAll1 {M0 : Mem} {Q : Option Value → Geo → Mem → Prop} (hG : GC G) (hR0 : RC M0) (hb : CrAd b) (hd : CrAd d) (h : b ≠ d) (K : ∀ M, Inv1 b d 30 M0 M → E 3 0 0 Y_Cr_copyAll 56 [some (.ref b), some (.ref d), none] [] G M Q) : ∀ k i, i + k = 30 → ∀ M, Inv1 b d i M0 M → E 3 0 0 Y_Cr_copyAll 13 [some (.ref b), some (.ref d), some (.int (nI i))] [] G M Q := by
  have hn := ad_ne hb hd h
  intro k
  induction k with
  | zero =>
    intro i hi M hI
    have hR := hR0.sc hI.1
    have hi2 : i = 30 := by omega
    subst hi2
    refine E_iload_n d_Cr_copyAll_13 rfl ?_
    first | refine E_aload_n d_Cr_copyAll_14 rfl ?_ | refine E_aload_nN d_Cr_copyAll_14 rfl ?_
    refine E_getR d_Cr_copyAll_15 gf_Cr_28 (by first | exact hG.c0 hb | exact hG.c0 hd | exact hG.c hb (by decide) rfl | exact hG.c hd (by decide) rfl) (by first | exact hR.c hb rfl | exact hR.c hd rfl) ?_
    refine E_alen d_Cr_copyAll_18 (by first | exact hG.c0 hb | exact hG.c0 hd | exact hG.c hb (by decide) rfl | exact hG.c hd (by decide) rfl) (by decide) rfl ?_
    first | (with_reducible refine E_isN2 ?_; refine E_icmp_ge 56 d_Cr_copyAll_19 rfl (nb_le (by omega) (by omega) fun h19 => ?_) (nb_nle (by omega) (by omega) fun h19 => ?_)) | refine E_icmp_ge 56 d_Cr_copyAll_19 rfl (fun h19 => ?_) (fun h19 => ?_)
    rotate_left
    · exfalso; omega
    exact E_wk (ls' := [some (.ref b), some (.ref d), none]) ⟨Or.inl rfl, Or.inl rfl, Or.inr rfl, trivial⟩ (K M hI)
  | succ k ih =>
    intro i hi M hI
    have hR := hR0.sc hI.1
    have e1 : mR M (b + 7) i = some (b + 14 + 3 * i) := hR.b hb (by omega)
    have e2 : mR M (d + 7) i = some (d + 14 + 3 * i) := hR.b hd (by omega)
    refine E_iload_n d_Cr_copyAll_13 rfl ?_
    first | refine E_aload_n d_Cr_copyAll_14 rfl ?_ | refine E_aload_nN d_Cr_copyAll_14 rfl ?_
    refine E_getR d_Cr_copyAll_15 gf_Cr_28 (by first | exact hG.c0 hb | exact hG.c0 hd | exact hG.c hb (by decide) rfl | exact hG.c hd (by decide) rfl) (by first | exact hR.c hb rfl | exact hR.c hd rfl) ?_
    refine E_alen d_Cr_copyAll_18 (by first | exact hG.c0 hb | exact hG.c0 hd | exact hG.c hb (by decide) rfl | exact hG.c hd (by decide) rfl) (by decide) rfl ?_
    first | (with_reducible refine E_isN2 ?_; refine E_icmp_ge 56 d_Cr_copyAll_19 rfl (nb_le (by omega) (by omega) fun h19 => ?_) (nb_nle (by omega) (by omega) fun h19 => ?_)) | refine E_icmp_ge 56 d_Cr_copyAll_19 rfl (fun h19 => ?_) (fun h19 => ?_)
    · exfalso; omega
    first | refine E_aload_n d_Cr_copyAll_22 rfl ?_ | refine E_aload_nN d_Cr_copyAll_22 rfl ?_
    refine E_getR d_Cr_copyAll_23 gf_Cr_28 (by first | exact hG.c0 hb | exact hG.c0 hd | exact hG.c hb (by decide) rfl | exact hG.c hd (by decide) rfl) (by first | exact hR.c hb rfl | exact hR.c hd rfl) ?_
    refine E_iload_n d_Cr_copyAll_26 rfl ?_
    first | refine E_aald4 d_Cr_copyAll_27 (by first | exact hG.c0 hb | exact hG.c0 hd | exact hG.c hb (by decide) rfl | exact hG.c hd (by decide) rfl) (by exact ⟨by with_reducible rfl, by omega, by decide⟩) (by exact e1) ?_ | refine E_aald5 d_Cr_copyAll_27 (by first | exact hG.c0 hb | exact hG.c0 hd | exact hG.c hb (by decide) rfl | exact hG.c hd (by decide) rfl) (by exact ⟨by with_reducible rfl, by omega, by decide⟩) (by exact e1) ?_
    refine E_iload_n d_Cr_copyAll_28 rfl ?_
    first | refine E_aload_n d_Cr_copyAll_29 rfl ?_ | refine E_aload_nN d_Cr_copyAll_29 rfl ?_
    refine E_getR d_Cr_copyAll_30 gf_Cr_28 (by first | exact hG.c0 hb | exact hG.c0 hd | exact hG.c hb (by decide) rfl | exact hG.c hd (by decide) rfl) (by first | exact hR.c hb rfl | exact hR.c hd rfl) ?_
    refine E_alen d_Cr_copyAll_33 (by first | exact hG.c0 hb | exact hG.c0 hd | exact hG.c hb (by decide) rfl | exact hG.c hd (by decide) rfl) (by decide) rfl ?_
    first | (with_reducible refine E_isN2 ?_; refine E_icmp_ge 46 d_Cr_copyAll_34 rfl (nb_le (by omega) (by omega) fun h34 => ?_) (nb_nle (by omega) (by omega) fun h34 => ?_)) | refine E_icmp_ge 46 d_Cr_copyAll_34 rfl (fun h34 => ?_) (fun h34 => ?_)
    · exfalso; omega
    first | refine E_aload_n d_Cr_copyAll_37 rfl ?_ | refine E_aload_nN d_Cr_copyAll_37 rfl ?_
    refine E_getR d_Cr_copyAll_38 gf_Cr_28 (by first | exact hG.c0 hb | exact hG.c0 hd | exact hG.c hb (by decide) rfl | exact hG.c hd (by decide) rfl) (by first | exact hR.c hb rfl | exact hR.c hd rfl) ?_
    refine E_iload_n d_Cr_copyAll_41 rfl ?_
    first | refine E_aald4 d_Cr_copyAll_42 (by first | exact hG.c0 hb | exact hG.c0 hd | exact hG.c hb (by decide) rfl | exact hG.c hd (by decide) rfl) (by exact ⟨by with_reducible rfl, by omega, by decide⟩) (by assumption) ?_ | refine E_aald5 d_Cr_copyAll_42 (by first | exact hG.c0 hb | exact hG.c0 hd | exact hG.c hb (by decide) rfl | exact hG.c hd (by decide) rfl) (by exact ⟨by with_reducible rfl, by omega, by decide⟩) (by assumption) ?_
    refine E_goto 47 d_Cr_copyAll_43 rfl ?_
    refine E_S2 (sp_Cr_copyStep hG hR (MoAd.b hb (by omega)) (MoAd.b hd (by omega)) (by omega)) d_Cr_copyAll_47 ml_Cr_61 cb_Cr_copyStep cs_Cr_copyStep ⟨by decide, by decide⟩ rfl (Nat.le_of_ble_eq_true rfl) (Nat.le_of_ble_eq_true rfl) (kV fun M1 hc => ?_)
    obtain ⟨hS, hm⟩ := hc
    first | (with_reducible refine E_isL2 ?_; refine E_iincN2 (m := 1) d_Cr_copyAll_50 rfl rfl ?_) | refine E_iinc_2 d_Cr_copyAll_50 rfl rfl ?_
    refine E_goto 13 d_Cr_copyAll_53 rfl ?_
    exact ih (i + 1) (by omega) _ (hI.st hn (by omega) hS hm)
def Sr (b : Nat) (M M' : Mem) : Prop := (∀ a, a ≠ b + 8 → mR M' a = mR M a) ∧ ∀ a, mI M' a = mI M a ∧ mL M' a = mL M a
theorem RC.sr {M' : Mem} (h : RC M) (hb : CrAd b) (g : Sr b M M') : RC M' := by
  have hb2 : b = 1 ∨ b = 105 := hb
  refine ⟨fun a j q e => ?_, fun a ha => ?_, fun c hc j q e => ?_, fun c hc i hi => ?_⟩
  · by_cases ea : a = b + 8
    · rcases hb2 with rfl | rfl <;> (subst ea; have e3 : (none : Option Nat) = some q := e; cases e3)
    · rw [g.1 a ea]; exact h.1 a j q e
  · rw [g.1 a (by unfold MoAd at ha; omega)]
    exact h.2.1 a ha
  · rw [g.1 c (by unfold CrAd at hc; omega)]
    exact h.2.2.1 c hc j q e
  · rw [g.1 (c + 7) (by unfold CrAd at hc; omega)]
    exact h.2.2.2 c hc i hi
theorem lp_Cr_copyAll2 {M0 : Mem} {Q : Option Value → Geo → Mem → Prop} (hG : GC G) (hR0 : RC M0) (hb : CrAd b) (hd : CrAd d) (h : b ≠ d) (hT : TO d G M0) (K : ∀ M, Sr b M0 M → (∀ t, t < 4 → mR M (b + 8) t = mR M0 (d + 8) t) → E 3 0 0 Y_Cr_copyAll 115 [some (.ref b), some (.ref d), none] [] G M Q) : ∀ k i, i + k = 4 → ∀ M, Sr b M0 M → (∀ t, t < i → mR M (b + 8) t = mR M0 (d + 8) t) → E 3 0 0 Y_Cr_copyAll 79 [some (.ref b), some (.ref d), some (.int (nI i))] [] G M Q := by
  have hn := ad_ne hb hd h
  intro k
  induction k with
  | zero =>
    intro i hi M hS hI
    have hR := hR0.sr hb hS
    have hi2 : i = 4 := by omega
    subst hi2
    refine E_iload_n d_Cr_copyAll_79 rfl ?_
    first | refine E_aload_n d_Cr_copyAll_80 rfl ?_ | refine E_aload_nN d_Cr_copyAll_80 rfl ?_
    refine E_getR d_Cr_copyAll_81 gf_Cr_34 (by first | exact hG.c0 hb | exact hG.c0 hd | exact hG.c hb (by decide) rfl | exact hG.c hd (by decide) rfl) (by first | exact hR.c hb rfl | exact hR.c hd rfl) ?_
    refine E_alen d_Cr_copyAll_84 (by first | exact hG.c0 hb | exact hG.c0 hd | exact hG.c hb (by decide) rfl | exact hG.c hd (by decide) rfl) (by decide) rfl ?_
    first | (with_reducible refine E_isN2 ?_; refine E_icmp_ge 115 d_Cr_copyAll_85 rfl (nb_le (by omega) (by omega) fun h85 => ?_) (nb_nle (by omega) (by omega) fun h85 => ?_)) | refine E_icmp_ge 115 d_Cr_copyAll_85 rfl (fun h85 => ?_) (fun h85 => ?_)
    rotate_left
    · exfalso; omega
    exact E_wk (ls' := [some (.ref b), some (.ref d), none]) ⟨Or.inl rfl, Or.inl rfl, Or.inr rfl, trivial⟩ (K M hS hI)
  | succ k ih =>
    intro i hi M hS hI
    have hR := hR0.sr hb hS
    have e : mR M (d + 8) i = mR M0 (d + 8) i := by rw [hS.1 _ (by omega)]
    have F : ∀ r, r = mR M0 (d + 8) i → E 3 0 0 Y_Cr_copyAll 79 [some (.ref b), some (.ref d), some (.int (nI (i + 1)))] [] G (wR M (b + 8) i r) Q := fun r hr => by
      refine ih (i + 1) (by omega) _ ⟨fun a ha => funext fun j => ?_, fun a => hS.2 a⟩ (fun t ht => ?_)
      · rw [mR_wR, if_neg (fun q => ha q.1), hS.1 a ha]
      · rw [mR_wR]
        by_cases q : t = i
        · rw [if_pos ⟨rfl, q⟩, q]; exact hr
        · rw [if_neg (fun z => q z.2)]; exact hI t (by omega)
    have S2 : ∀ a, (mI M a = mI M0 a ∧ mL M a = mL M0 a) := hS.2
    have K2 : ∀ r, r = mR M0 (d + 8) i → E 3 0 0 Y_Cr_copyAll 108 [some (.ref b), some (.ref d), some (.int (nI i))] [oV r, .int (nI i), .ref (b + 8)] G M Q := by
      intro r hr
      have F := F r hr
      rcases hT i (by omega) with q | ⟨a, q, hs⟩
      · rw [q] at hr
        subst hr
        rw [show oV none = .null from rfl]
        refine E_aastN d_Cr_copyAll_108 (hG.c hb (by decide) rfl) ⟨by with_reducible rfl, by omega, by decide⟩ ?_
        first | (with_reducible refine E_isL2 ?_; refine E_iincN2 (m := 1) d_Cr_copyAll_109 rfl rfl ?_) | refine E_iinc_2 d_Cr_copyAll_109 rfl rfl ?_
        refine E_goto 79 d_Cr_copyAll_112 rfl ?_
        exact F
      · rw [q] at hr
        subst hr
        rw [show oV (some a) = .ref a from rfl]
        refine E_aastT d_Cr_copyAll_108 (t := 5) (n := 4) (hG.c hb (by decide) rfl) (Or.inr ⟨rfl, rfl⟩) ⟨by with_reducible rfl, by omega, by decide⟩ hs ?_
        first | (with_reducible refine E_isL2 ?_; refine E_iincN2 (m := 1) d_Cr_copyAll_109 rfl rfl ?_) | refine E_iinc_2 d_Cr_copyAll_109 rfl rfl ?_
        refine E_goto 79 d_Cr_copyAll_112 rfl ?_
        exact F
    refine E_iload_n d_Cr_copyAll_79 rfl ?_
    first | refine E_aload_n d_Cr_copyAll_80 rfl ?_ | refine E_aload_nN d_Cr_copyAll_80 rfl ?_
    refine E_getR d_Cr_copyAll_81 gf_Cr_34 (by first | exact hG.c0 hb | exact hG.c0 hd | exact hG.c hb (by decide) rfl | exact hG.c hd (by decide) rfl) (by first | exact hR.c hb rfl | exact hR.c hd rfl) ?_
    refine E_alen d_Cr_copyAll_84 (by first | exact hG.c0 hb | exact hG.c0 hd | exact hG.c hb (by decide) rfl | exact hG.c hd (by decide) rfl) (by decide) rfl ?_
    first | (with_reducible refine E_isN2 ?_; refine E_icmp_ge 115 d_Cr_copyAll_85 rfl (nb_le (by omega) (by omega) fun h85 => ?_) (nb_nle (by omega) (by omega) fun h85 => ?_)) | refine E_icmp_ge 115 d_Cr_copyAll_85 rfl (fun h85 => ?_) (fun h85 => ?_)
    · exfalso; omega
    refine E_iload_n d_Cr_copyAll_88 rfl ?_
    first | refine E_aload_n d_Cr_copyAll_89 rfl ?_ | refine E_aload_nN d_Cr_copyAll_89 rfl ?_
    refine E_getR d_Cr_copyAll_90 gf_Cr_34 (by first | exact hG.c0 hb | exact hG.c0 hd | exact hG.c hb (by decide) rfl | exact hG.c hd (by decide) rfl) (by first | exact hR.c hb rfl | exact hR.c hd rfl) ?_
    refine E_alen d_Cr_copyAll_93 (by first | exact hG.c0 hb | exact hG.c0 hd | exact hG.c hb (by decide) rfl | exact hG.c hd (by decide) rfl) (by decide) rfl ?_
    first | (with_reducible refine E_isN2 ?_; refine E_icmp_ge 115 d_Cr_copyAll_94 rfl (nb_le (by omega) (by omega) fun h94 => ?_) (nb_nle (by omega) (by omega) fun h94 => ?_)) | refine E_icmp_ge 115 d_Cr_copyAll_94 rfl (fun h94 => ?_) (fun h94 => ?_)
    · exfalso; omega
    first | refine E_aload_n d_Cr_copyAll_97 rfl ?_ | refine E_aload_nN d_Cr_copyAll_97 rfl ?_
    refine E_getR d_Cr_copyAll_98 gf_Cr_34 (by first | exact hG.c0 hb | exact hG.c0 hd | exact hG.c hb (by decide) rfl | exact hG.c hd (by decide) rfl) (by first | exact hR.c hb rfl | exact hR.c hd rfl) ?_
    refine E_iload_n d_Cr_copyAll_101 rfl ?_
    first | refine E_aload_n d_Cr_copyAll_102 rfl ?_ | refine E_aload_nN d_Cr_copyAll_102 rfl ?_
    refine E_getR d_Cr_copyAll_103 gf_Cr_34 (by first | exact hG.c0 hb | exact hG.c0 hd | exact hG.c hb (by decide) rfl | exact hG.c hd (by decide) rfl) (by first | exact hR.c hb rfl | exact hR.c hd rfl) ?_
    refine E_iload_n d_Cr_copyAll_106 rfl ?_
    first | refine E_aald4 d_Cr_copyAll_107 (by first | exact hG.c0 hb | exact hG.c0 hd | exact hG.c hb (by decide) rfl | exact hG.c hd (by decide) rfl) (by exact ⟨by with_reducible rfl, by omega, by decide⟩) (by exact e) ?_ | refine E_aald5 d_Cr_copyAll_107 (by first | exact hG.c0 hb | exact hG.c0 hd | exact hG.c hb (by decide) rfl | exact hG.c hd (by decide) rfl) (by exact ⟨by with_reducible rfl, by omega, by decide⟩) (by exact e) ?_
    exact K2 _ rfl
theorem cp_fin {M2 M3 M4 M5 M6 M7 : Mem} {v5 v6 v8 v9 : Int32} (hR : RC M) (hb : CrAd b) (hd : CrAd d) (h : b ≠ d) (hT : TO d G M) (hI : Inv1 b d 30 M M2) (m3 : M3 = wI (wI M2 b 5 v5) b 6 v6) (w5 : v5 = mI M2 d 5) (w6 : v6 = mI (wI M2 b 5 v5) d 6) (s4 : Sc (Cpp b) M3 M4) (c4 : ∀ k j, 4 ≤ k → k ≤ 6 → j < 8 → mI M4 (b + k) j = mI M3 (d + k) j)
    (s5 : Sr b M4 M5) (c5 : ∀ t, t < 4 → mR M5 (b + 8) t = mR M4 (d + 8) t) (m6 : M6 = wI (wI M5 b 8 v8) b 9 v9) (w8 : v8 = mI M5 d 8) (w9 : v9 = mI (wI M5 b 8 v8) d 9) (s7 : Sc (Cpt b) M6 M7) (c7 : ∀ k j, 9 ≤ k → k ≤ 13 → j < (if k = 13 then 10 else 8) → mI M7 (b + k) j = mI M6 (d + k) j) (c8 : ∀ j, j ≠ 12 → j ≠ 15 → mI M7 b j = mI M6 b j) (c12 : mI M7 b 12 = mI M6 d 12) (c15 : mI M7 b 15 = mI M6 d 15) :
    RC M7 ∧ TO b G M7 ∧ Sd b M M7 ∧ ∀ c, HC c d G M → HC c b G M7 := by
  have hn := ad_ne hb hd h
  have e2 : ∀ k, ¬ Bs b k → mI M2 k = mI M k := fun k q => (hI.1.2 k q).1
  have e3 : ∀ k, k ≠ b → mI M3 k = mI M2 k := fun k q => by rw [m3, mI_ne q, mI_ne q]
  have e4 : ∀ k, ¬ Cpp b k → mI M4 k = mI M3 k := fun k q => (s4.2 k q).1
  have e5 : ∀ k, mI M5 k = mI M4 k := fun k => (s5.2 k).1
  have e6 : ∀ k, k ≠ b → mI M6 k = mI M5 k := fun k q => by rw [m6, mI_ne q, mI_ne q]
  have e7 : ∀ k, ¬ Cpt b k → mI M7 k = mI M6 k := fun k q => (s7.2 k q).1
  have l3 : ∀ k, mL M3 k = mL M2 k := fun k => by rw [m3]; rfl
  have l6 : ∀ k, mL M6 k = mL M5 k := fun k => by rw [m6]; rfl
  have r3 : ∀ k, mR M3 k = mR M2 k := fun k => by rw [m3]; rfl
  have r6 : ∀ k, mR M6 k = mR M5 k := fun k => by rw [m6]; rfl
  have q2 : ∀ a, a ≠ 212 → mR M2 a = mR M a := fun a q => funext fun j => hI.1.1 a j fun z => absurd z q
  have q4 : ∀ a, a ≠ 212 → mR M4 a = mR M3 a := fun a q => funext fun j => s4.1 a j fun z => absurd z q
  have q7 : ∀ a, a ≠ 212 → mR M7 a = mR M6 a := fun a q => funext fun j => s7.1 a j fun z => absurd z q
  have qd : mR M4 (d + 8) = mR M (d + 8) := by rw [q4 _ (by omega), r3, q2 _ (by omega)]
  have q8 : ∀ t, t < 4 → mR M7 (b + 8) t = mR M (d + 8) t := fun t ht => by rw [q7 _ (by omega), r6, c5 t ht, qd]
  have dd : ∀ k, d ≤ k → k ≤ d + 103 → mI M3 k = mI M k := fun k k1 k2 => by rw [e3 k (by omega), e2 k (by unfold Bs; omega)]
  have d6 : ∀ k, d ≤ k → k ≤ d + 103 → mI M6 k = mI M k := fun k k1 k2 => by rw [e6 k (by omega), e5, e4 k (by unfold Cpp; omega), dd k k1 k2]
  have bb : ∀ k, Bs b k → mI M7 k = mI M2 k := fun k q => by
    unfold Bs at q
    rw [e7 k (by unfold Cpt; omega), e6 k (by omega), e5, e4 k (by unfold Cpp; omega), e3 k (by omega)]
  have f5 : ∀ j, mI M5 b j = mI M3 b j := fun j => by rw [e5, e4 b (by unfold Cpp; omega)]
  have hX : Sd b M M7 := by
    refine ⟨fun a a1 a2 => by rw [q7 a a2, r6, s5.1 a a1, q4 a a2, r3, q2 a a2], fun a ha => ?_⟩
    have n2 : ¬ Bs b a := by unfold Bs; omega
    have n4 : ¬ Cpp b a := by unfold Cpp; omega
    have n7 : ¬ Cpt b a := by unfold Cpt; omega
    exact ⟨by rw [e7 a n7, e6 a (by omega), e5, e4 a n4, e3 a (by omega), e2 a n2], by rw [(s7.2 a n7).2, l6, (s5.2 a).2, (s4.2 a n4).2, l3, (hI.1.2 a n2).2]⟩
  have hR3 : RC M3 := by rw [m3]; exact hR.sc ((hI.1.wk (P' := fun _ => True) fun _ _ => trivial).wI trivial |>.wI trivial)
  have hR5 : RC M5 := (hR3.sc s4).sr hb s5
  have hR6 : RC M6 := by rw [m6]; exact hR5.sc ((Sc.rf.wI (P := fun _ => True) trivial).wI trivial)
  refine ⟨hR6.sc s7, fun t ht => by rw [q8 t ht]; exact hT t ht, hX, fun c hc => HC_copy hd hb (fun m hk q => ?_) (fun j hj m hk q => ?_) (fun j hj => ?_) (fun k j k1 k2 hj => ?_) (fun k j k1 k2 hj => ?_) q8 (fun k hk => ⟨(hX.2 k (by omega)).1, hX.1 k (by omega) (by omega)⟩) hc⟩
  · exact (hI.2.1 m hk q).cg (bb _ (by unfold Bs; omega)) (bb _ (by unfold Bs; omega)) (bb _ (by unfold Bs; omega))
  · exact (hI.2.2 j hj m hk q).cg (bb _ (by unfold Bs; omega)) (bb _ (by unfold Bs; omega)) (bb _ (by unfold Bs; omega))
  · have ed : mI M2 d = mI M d := e2 d (by unfold Bs; omega)
    have ed5 : mI M5 d = mI M d := by rw [e5, e4 d (by unfold Cpp; omega), e3 d (by omega), ed]
    rcases hj with rfl | rfl | rfl | rfl | rfl | rfl
    · rw [c8 _ (by decide) (by decide), m6, mI_wa, if_neg (by decide), mI_wa, if_neg (by decide), f5, m3, mI_wa, if_neg (by decide), mI_wa, if_pos rfl, w5, ed]
    · rw [c8 _ (by decide) (by decide), m6, mI_wa, if_neg (by decide), mI_wa, if_neg (by decide), f5, m3, mI_wa, if_pos rfl, w6, mI_wx (by omega), ed]
    · rw [c8 _ (by decide) (by decide), m6, mI_wa, if_neg (by decide), mI_wa, if_pos rfl, w8, ed5]
    · rw [c8 _ (by decide) (by decide), m6, mI_wa, if_pos rfl, w9, mI_wx (by omega), ed5]
    · rw [c12, d6 d (by omega) (by omega)]
    · rw [c15, d6 d (by omega) (by omega)]
  · rw [e7 _ (by unfold Cpt; omega), e6 _ (by omega), e5, c4 k j k1 k2 hj, dd _ (by omega) (by omega)]
  · rw [c7 k j k1 k2 hj, d6 _ (by omega) (by omega)]
theorem sp_Cr_copyAll (hG : GC G) (hR : RC M) (hb : CrAd b) (hd : CrAd d) (h : b ≠ d) (hT : TO d G M) : E 3 0 0 Y_Cr_copyAll 0 [some (.ref b), some (.ref d), none] [] G M (QV G fun M' => RC M' ∧ TO b G M' ∧ Sd b M M' ∧ ∀ c, HC c d G M → HC c b G M') := by
  have hn := ad_ne hb hd h
  have Kb : ∀ M2, Inv1 b d 30 M M2 → E 3 0 0 Y_Cr_copyAll 56 [some (.ref b), some (.ref d), none] [] G M2 (QV G fun M' => RC M' ∧ TO b G M' ∧ Sd b M M' ∧ ∀ c, HC c d G M → HC c b G M') := by
    intro M2 hI
    have hR2 := hR.sc hI.1
    have hR3 : ∀ v5 v6, RC (wI (wI M2 b 5 v5) b 6 v6) := fun v5 v6 => hR2.sc ((Sc.rf.wI (P := fun _ => True) trivial).wI trivial)
    have hp := sp_Cr_copyPeople hG (hR3 (mI M2 d 5) (mI (wI M2 b 5 (mI M2 d 5)) d 6)) hb hd h
    have Kc : ∀ M4, Sc (Cpp b) (wI (wI M2 b 5 (mI M2 d 5)) b 6 (mI (wI M2 b 5 (mI M2 d 5)) d 6)) M4 → (∀ k j, 4 ≤ k → k ≤ 6 → j < 8 → mI M4 (b + k) j = mI (wI (wI M2 b 5 (mI M2 d 5)) b 6 (mI (wI M2 b 5 (mI M2 d 5)) d 6)) (d + k) j) → E 3 0 0 Y_Cr_copyAll 79 [some (.ref b), some (.ref d), some (.int (nI 0))] [] G M4 (QV G fun M' => RC M' ∧ TO b G M' ∧ Sd b M M' ∧ ∀ c, HC c d G M → HC c b G M') := by
      intro M4 s4 c4
      have hR4 := (hR3 _ _).sc s4
      have q4 : mR M4 (d + 8) = mR M (d + 8) := by
        refine funext fun j => (s4.1 (d + 8) j (fun z => absurd z (by omega))).trans ?_
        exact hI.1.1 (d + 8) j (fun z => absurd z (by omega))
      refine lp_Cr_copyAll2 hG hR4 hb hd h (fun t ht => by rw [q4]; exact hT t ht) (fun M5 s5 c5 => ?_) 4 0 rfl M4 ⟨fun _ _ => rfl, fun _ => ⟨rfl, rfl⟩⟩ (fun t ht => absurd ht (Nat.not_lt_zero t))
      have hR5 := hR4.sr hb s5
      have hR6 : ∀ v8 v9, RC (wI (wI M5 b 8 v8) b 9 v9) := fun v8 v9 => hR5.sc ((Sc.rf.wI (P := fun _ => True) trivial).wI trivial)
      have ht := sp_Cr_copyTold hG (hR6 (mI M5 d 8) (mI (wI M5 b 8 (mI M5 d 8)) d 9)) hb hd h
      first | refine E_aload_n d_Cr_copyAll_115 rfl ?_ | refine E_aload_nN d_Cr_copyAll_115 rfl ?_
      first | refine E_aload_n d_Cr_copyAll_116 rfl ?_ | refine E_aload_nN d_Cr_copyAll_116 rfl ?_
      refine E_getI d_Cr_copyAll_117 gf_Cr_75 (by first | exact hG.c0 hb | exact hG.c0 hd | exact hG.c hb (by decide) rfl | exact hG.c hd (by decide) rfl) (by rfl) ?_
      refine E_putI d_Cr_copyAll_120 gf_Cr_75 (by first | exact hG.c0 hb | exact hG.c0 hd | exact hG.c hb (by decide) rfl | exact hG.c hd (by decide) rfl) rfl rfl ?_
      first | refine E_aload_n d_Cr_copyAll_123 rfl ?_ | refine E_aload_nN d_Cr_copyAll_123 rfl ?_
      first | refine E_aload_n d_Cr_copyAll_124 rfl ?_ | refine E_aload_nN d_Cr_copyAll_124 rfl ?_
      refine E_getI d_Cr_copyAll_125 gf_Cr_38 (by first | exact hG.c0 hb | exact hG.c0 hd | exact hG.c hb (by decide) rfl | exact hG.c hd (by decide) rfl) (by rfl) ?_
      refine E_putI d_Cr_copyAll_128 gf_Cr_38 (by first | exact hG.c0 hb | exact hG.c0 hd | exact hG.c hb (by decide) rfl | exact hG.c hd (by decide) rfl) rfl rfl ?_
      first | refine E_aload_n d_Cr_copyAll_131 rfl ?_ | refine E_aload_nN d_Cr_copyAll_131 rfl ?_
      first | refine E_aload_n d_Cr_copyAll_132 rfl ?_ | refine E_aload_nN d_Cr_copyAll_132 rfl ?_
      refine E_V1 (ht) d_Cr_copyAll_133 ml_Cr_78 cb_Cr_copyTold cv_Cr_copyTold (by first | exact hG.c0 hb | exact hG.c0 hd | exact hG.c hb (by decide) rfl | exact hG.c hd (by decide) rfl) ⟨by decide, rfl⟩ ⟨by decide, by decide⟩ rfl (Nat.le_of_ble_eq_true rfl) (Nat.le_of_ble_eq_true rfl) (kV fun M1 hc => ?_)
      obtain ⟨s7, c7, c8, c12, c15⟩ := hc
      refine E_retV d_Cr_copyAll_136 rfl ?_
      exact cp_fin hR hb hd h hT hI rfl rfl rfl s4 c4 s5 c5 rfl rfl rfl s7 c7 c8 c12 c15
    first | refine E_aload_n d_Cr_copyAll_56 rfl ?_ | refine E_aload_nN d_Cr_copyAll_56 rfl ?_
    first | refine E_aload_n d_Cr_copyAll_57 rfl ?_ | refine E_aload_nN d_Cr_copyAll_57 rfl ?_
    refine E_getI d_Cr_copyAll_58 gf_Cr_65 (by first | exact hG.c0 hb | exact hG.c0 hd | exact hG.c hb (by decide) rfl | exact hG.c hd (by decide) rfl) (by rfl) ?_
    refine E_putI d_Cr_copyAll_61 gf_Cr_65 (by first | exact hG.c0 hb | exact hG.c0 hd | exact hG.c hb (by decide) rfl | exact hG.c hd (by decide) rfl) rfl rfl ?_
    first | refine E_aload_n d_Cr_copyAll_64 rfl ?_ | refine E_aload_nN d_Cr_copyAll_64 rfl ?_
    first | refine E_aload_n d_Cr_copyAll_65 rfl ?_ | refine E_aload_nN d_Cr_copyAll_65 rfl ?_
    refine E_getI d_Cr_copyAll_66 gf_Cr_68 (by first | exact hG.c0 hb | exact hG.c0 hd | exact hG.c hb (by decide) rfl | exact hG.c hd (by decide) rfl) (by rfl) ?_
    refine E_putI d_Cr_copyAll_69 gf_Cr_68 (by first | exact hG.c0 hb | exact hG.c0 hd | exact hG.c hb (by decide) rfl | exact hG.c hd (by decide) rfl) rfl rfl ?_
    first | refine E_aload_n d_Cr_copyAll_72 rfl ?_ | refine E_aload_nN d_Cr_copyAll_72 rfl ?_
    first | refine E_aload_n d_Cr_copyAll_73 rfl ?_ | refine E_aload_nN d_Cr_copyAll_73 rfl ?_
    refine E_V1 (hp) d_Cr_copyAll_74 ml_Cr_71 cb_Cr_copyPeople cv_Cr_copyPeople (by first | exact hG.c0 hb | exact hG.c0 hd | exact hG.c hb (by decide) rfl | exact hG.c hd (by decide) rfl) ⟨by decide, rfl⟩ ⟨by decide, by decide⟩ rfl (Nat.le_of_ble_eq_true rfl) (Nat.le_of_ble_eq_true rfl) (kV fun M1 hc => ?_)
    obtain ⟨s4, c4⟩ := hc
    refine E_iconst (v := nI 0) d_Cr_copyAll_77 rfl ?_
    refine E_istore_2 d_Cr_copyAll_78 rfl ?_
    exact Kc _ s4 c4
  have hc0 := sp_Mo_copyFrom hG hR (MoAd.n hb) (MoAd.n hd) (show b + 1 ≠ d + 1 by omega)
  first | refine E_aload_n d_Cr_copyAll_0 rfl ?_ | refine E_aload_nN d_Cr_copyAll_0 rfl ?_
  refine E_getR d_Cr_copyAll_1 gf_Cr_12 (by first | exact hG.c0 hb | exact hG.c0 hd | exact hG.c hb (by decide) rfl | exact hG.c hd (by decide) rfl) (by first | exact hR.c hb rfl | exact hR.c hd rfl) ?_
  first | refine E_aload_n d_Cr_copyAll_4 rfl ?_ | refine E_aload_nN d_Cr_copyAll_4 rfl ?_
  refine E_getR d_Cr_copyAll_5 gf_Cr_12 (by first | exact hG.c0 hb | exact hG.c0 hd | exact hG.c hb (by decide) rfl | exact hG.c hd (by decide) rfl) (by first | exact hR.c hb rfl | exact hR.c hd rfl) ?_
  refine E_V1 (hc0) d_Cr_copyAll_8 ml_Cr_57 cb_Mo_copyFrom cv_Mo_copyFrom (by first | exact hG.c0 hb | exact hG.c0 hd | exact hG.c hb (by decide) rfl | exact hG.c hd (by decide) rfl) ⟨by decide, rfl⟩ ⟨by decide, by decide⟩ rfl (Nat.le_of_ble_eq_true rfl) (Nat.le_of_ble_eq_true rfl) (kV fun M1 hc => ?_)
  obtain ⟨hS, hm⟩ := hc
  refine E_iconst (v := nI 0) d_Cr_copyAll_11 rfl ?_
  refine E_istore_2 d_Cr_copyAll_12 rfl ?_
  exact lp_Cr_copyAll1 hG hR hb hd h Kb 30 0 rfl _ ⟨hS.wk fun k q => Or.inl (by unfold Bk at q; omega), hm, fun j hj => absurd hj (Nat.not_lt_zero j)⟩
end CMq
section CMq2
variable {G : Geo} {M : Mem}
theorem HC.sd {c : Cr} {b d : Nat} {M' : Mem} (h : HC c d G M) (hb : CrAd b) (hd : CrAd d) (hbd : b ≠ d) (g : Sd b M M') : HC c d G M' := by
  have hn := ad_ne hb hd hbd
  exact h.cg fun k hk => ⟨(g.2 k (by omega)).1, g.1 k (by omega) (by omega)⟩
theorem sp_TP_image {c : Cr} (hG : GC G) (hR : RC M) (hC : HC c 1 G M) (hT : TO 1 G M) : E 4 0 0 Y_TP_image 0 [some (.ref 0)] [] G M (QI G fun r M' => r = nI c.now.round ∧ RC M' ∧ TO 105 G M' ∧ Sd 105 M M' ∧ HC c 105 G M' ∧ HC c 1 G M') := by
  first | refine E_aload_n d_TP_image_0 rfl ?_ | refine E_aload_nN d_TP_image_0 rfl ?_
  refine E_getR d_TP_image_1 gf_TP_16 (by first | exact hG.s (by decide) rfl) (by first | exact hR.o rfl | exact hR.c cr1 rfl) ?_
  first | refine E_aload_n d_TP_image_4 rfl ?_ | refine E_aload_nN d_TP_image_4 rfl ?_
  refine E_getR d_TP_image_5 gf_TP_10 (by first | exact hG.s (by decide) rfl) (by first | exact hR.o rfl | exact hR.c cr1 rfl) ?_
  refine E_V1 (sp_Cr_copyAll hG hR cr105 cr1 (by decide) hT) d_TP_image_8 ml_TP_371 cb_Cr_copyAll cv_Cr_copyAll (by first | exact hG.s (by decide) rfl) ⟨by decide, rfl⟩ ⟨by decide, by decide⟩ rfl (Nat.le_of_ble_eq_true rfl) (Nat.le_of_ble_eq_true rfl) (kV fun M1 hc => ?_)
  obtain ⟨hR1, hT1, hS1, hK⟩ := hc; clear hR; have hR := hR1; have hC2 := hC.sd cr105 cr1 (by decide) hS1
  first | refine E_aload_n d_TP_image_11 rfl ?_ | refine E_aload_nN d_TP_image_11 rfl ?_
  refine E_getR d_TP_image_12 gf_TP_10 (by first | exact hG.s (by decide) rfl) (by first | exact hR.o rfl | exact hR.c cr1 rfl) ?_
  refine E_getR d_TP_image_15 gf_TP_128 (by first | exact hG.s (by decide) rfl) (by first | exact hR.o rfl | exact hR.c cr1 rfl) ?_
  refine E_getI d_TP_image_18 gf_TP_137 (by first | exact hG.s (by decide) rfl) (by exact hC2.now.round) ?_
  refine E_retI d_TP_image_21 rfl ?_
  exact ⟨rfl, hR1, hT1, hS1, hK c hC, hC2⟩
theorem sp_TP_back {c : Cr} (hG : GC G) (hR : RC M) (hC : HC c 105 G M) (hT : TO 105 G M) : E 4 0 0 Y_TP_back 0 [some (.ref 0)] [] G M (QI G fun r M' => r = nI c.now.round ∧ RC M' ∧ TO 1 G M' ∧ Sd 1 M M' ∧ HC c 1 G M' ∧ HC c 105 G M') := by
  first | refine E_aload_n d_TP_back_0 rfl ?_ | refine E_aload_nN d_TP_back_0 rfl ?_
  refine E_getR d_TP_back_1 gf_TP_10 (by first | exact hG.s (by decide) rfl) (by first | exact hR.o rfl | exact hR.c cr1 rfl) ?_
  first | refine E_aload_n d_TP_back_4 rfl ?_ | refine E_aload_nN d_TP_back_4 rfl ?_
  refine E_getR d_TP_back_5 gf_TP_16 (by first | exact hG.s (by decide) rfl) (by first | exact hR.o rfl | exact hR.c cr1 rfl) ?_
  refine E_V1 (sp_Cr_copyAll hG hR cr1 cr105 (by decide) hT) d_TP_back_8 ml_TP_371 cb_Cr_copyAll cv_Cr_copyAll (by first | exact hG.s (by decide) rfl) ⟨by decide, rfl⟩ ⟨by decide, by decide⟩ rfl (Nat.le_of_ble_eq_true rfl) (Nat.le_of_ble_eq_true rfl) (kV fun M1 hc => ?_)
  obtain ⟨hR1, hT1, hS1, hK⟩ := hc; clear hR; have hR := hR1; have hC2 := hC.sd cr1 cr105 (by decide) hS1; have hC3 := hK c hC
  first | refine E_aload_n d_TP_back_11 rfl ?_ | refine E_aload_nN d_TP_back_11 rfl ?_
  refine E_getR d_TP_back_12 gf_TP_10 (by first | exact hG.s (by decide) rfl) (by first | exact hR.o rfl | exact hR.c cr1 rfl) ?_
  refine E_getR d_TP_back_15 gf_TP_128 (by first | exact hG.s (by decide) rfl) (by first | exact hR.o rfl | exact hR.c cr1 rfl) ?_
  refine E_getI d_TP_back_18 gf_TP_137 (by first | exact hG.s (by decide) rfl) (by exact hC3.now.round) ?_
  refine E_retI d_TP_back_21 rfl ?_
  exact ⟨rfl, hR1, hT1, hS1, hC3, hC2⟩
end CMq2
