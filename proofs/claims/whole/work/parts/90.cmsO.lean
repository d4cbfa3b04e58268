section CMo
variable {G : Geo} {M : Mem}
theorem sp_TP_feed {l : List Nat} (hG : GC G) (hR : RC M) (hT : TapeC l M) (a b c d e : Int32) : E 2 0 0 Y_TP_feed 0 [some (.ref 0), some (.int a), some (.int b), some (.int c), some (.int d), some (.int e)] [] G M (QI G fun r M' => r = ans_feed l ∧ RC M' ∧ TapeC (st_feed l a b c d e) M' ∧ Sc STp M M') := by
  have e4 := hT.2.1
  have hl := hT.1
  by_cases h : 300 < l.length + 20
  · rw [ans_feed, st_feed, if_pos h, if_pos h]
    first | refine E_aload_n d_TP_feed_0 rfl ?_ | refine E_aload_nN d_TP_feed_0 rfl ?_
    refine E_getR d_TP_feed_1 gf_TP_54 (by first | exact hG.s (by decide) rfl) (by first | exact hR.o rfl) ?_
    refine E_getI d_TP_feed_4 gf_TP_93 (by first | exact hG.s (by decide) rfl) (by exact e4) ?_
    refine E_bipush (v := nI 20) d_TP_feed_7 (by decide) ?_
    first | (with_reducible refine E_isN2 ?_; refine E_iaddN d_TP_feed_9 ?_) | refine E_iadd d_TP_feed_9 ?_
    refine E_sipush (v := nI 300) d_TP_feed_10 (by decide) ?_
    first | (with_reducible refine E_isN2 ?_; refine E_icmp_le 18 d_TP_feed_13 rfl (nb_le (by omega) (by omega) fun h13 => ?_) (nb_nle (by omega) (by omega) fun h13 => ?_)) | refine E_icmp_le 18 d_TP_feed_13 rfl (fun h13 => ?_) (fun h13 => ?_)
    · exfalso; omega
    refine E_iconst (v := (-1)) d_TP_feed_16 rfl ?_
    refine E_retI d_TP_feed_17 rfl ?_
    exact ⟨rfl, hR, hT, Sc.rf⟩
  · rw [ans_feed, st_feed, if_neg h, if_neg h]
    have el : (l ++ fourB a ++ fourB b ++ fourB c ++ fourB d ++ fourB e).length = l.length + 20 := by simp [fourB]
    first | refine E_aload_n d_TP_feed_0 rfl ?_ | refine E_aload_nN d_TP_feed_0 rfl ?_
    refine E_getR d_TP_feed_1 gf_TP_54 (by first | exact hG.s (by decide) rfl) (by first | exact hR.o rfl) ?_
    refine E_getI d_TP_feed_4 gf_TP_93 (by first | exact hG.s (by decide) rfl) (by exact e4) ?_
    refine E_bipush (v := nI 20) d_TP_feed_7 (by decide) ?_
    first | (with_reducible refine E_isN2 ?_; refine E_iaddN d_TP_feed_9 ?_) | refine E_iadd d_TP_feed_9 ?_
    refine E_sipush (v := nI 300) d_TP_feed_10 (by decide) ?_
    first | (with_reducible refine E_isN2 ?_; refine E_icmp_le 18 d_TP_feed_13 rfl (nb_le (by omega) (by omega) fun h13 => ?_) (nb_nle (by omega) (by omega) fun h13 => ?_)) | refine E_icmp_le 18 d_TP_feed_13 rfl (fun h13 => ?_) (fun h13 => ?_)
    rotate_left
    · exfalso; omega
    first | refine E_aload_n d_TP_feed_18 rfl ?_ | refine E_aload_nN d_TP_feed_18 rfl ?_
    refine E_getR d_TP_feed_19 gf_TP_54 (by first | exact hG.s (by decide) rfl) (by first | exact hR.o rfl) ?_
    refine E_iload_n d_TP_feed_22 rfl ?_
    refine E_V1 (sp_Ta_addFour hG hR hT (by omega) a) d_TP_feed_23 ml_TP_96 cb_Ta_addFour cv_Ta_addFour (by first | exact hG.s (by decide) rfl) ⟨by decide, rfl⟩ ⟨by decide, by decide⟩ rfl (Nat.le_of_ble_eq_true rfl) (Nat.le_of_ble_eq_true rfl) (kV fun M1 hc => ?_)
    obtain ⟨hR1, hT1, hS1⟩ := hc; clear hR; have hR := hR1; clear hR1
    first | refine E_aload_n d_TP_feed_26 rfl ?_ | refine E_aload_nN d_TP_feed_26 rfl ?_
    refine E_getR d_TP_feed_27 gf_TP_54 (by first | exact hG.s (by decide) rfl) (by first | exact hR.o rfl) ?_
    refine E_iload_n d_TP_feed_30 rfl ?_
    refine E_V1 (sp_Ta_addFour hG hR hT1 (by simp [fourB]; omega) b) d_TP_feed_31 ml_TP_96 cb_Ta_addFour cv_Ta_addFour (by first | exact hG.s (by decide) rfl) ⟨by decide, rfl⟩ ⟨by decide, by decide⟩ rfl (Nat.le_of_ble_eq_true rfl) (Nat.le_of_ble_eq_true rfl) (kV fun M1 hc => ?_)
    obtain ⟨hR2, hT2, hS2⟩ := hc; clear hR; have hR := hR2; clear hR2
    first | refine E_aload_n d_TP_feed_34 rfl ?_ | refine E_aload_nN d_TP_feed_34 rfl ?_
    refine E_getR d_TP_feed_35 gf_TP_54 (by first | exact hG.s (by decide) rfl) (by first | exact hR.o rfl) ?_
    refine E_iload_n d_TP_feed_38 rfl ?_
    refine E_V1 (sp_Ta_addFour hG hR hT2 (by simp [fourB]; omega) c) d_TP_feed_39 ml_TP_96 cb_Ta_addFour cv_Ta_addFour (by first | exact hG.s (by decide) rfl) ⟨by decide, rfl⟩ ⟨by decide, by decide⟩ rfl (Nat.le_of_ble_eq_true rfl) (Nat.le_of_ble_eq_true rfl) (kV fun M1 hc => ?_)
    obtain ⟨hR3, hT3, hS3⟩ := hc; clear hR; have hR := hR3; clear hR3
    first | refine E_aload_n d_TP_feed_42 rfl ?_ | refine E_aload_nN d_TP_feed_42 rfl ?_
    refine E_getR d_TP_feed_43 gf_TP_54 (by first | exact hG.s (by decide) rfl) (by first | exact hR.o rfl) ?_
    refine E_iload d_TP_feed_46 rfl ?_
    refine E_V1 (sp_Ta_addFour hG hR hT3 (by simp [fourB]; omega) d) d_TP_feed_48 ml_TP_96 cb_Ta_addFour cv_Ta_addFour (by first | exact hG.s (by decide) rfl) ⟨by decide, rfl⟩ ⟨by decide, by decide⟩ rfl (Nat.le_of_ble_eq_true rfl) (Nat.le_of_ble_eq_true rfl) (kV fun M1 hc => ?_)
    obtain ⟨hR4, hT4, hS4⟩ := hc; clear hR; have hR := hR4; clear hR4
    first | refine E_aload_n d_TP_feed_51 rfl ?_ | refine E_aload_nN d_TP_feed_51 rfl ?_
    refine E_getR d_TP_feed_52 gf_TP_54 (by first | exact hG.s (by decide) rfl) (by first | exact hR.o rfl) ?_
    refine E_iload d_TP_feed_55 rfl ?_
    refine E_V1 (sp_Ta_addFour hG hR hT4 (by simp [fourB]; omega) e) d_TP_feed_57 ml_TP_96 cb_Ta_addFour cv_Ta_addFour (by first | exact hG.s (by decide) rfl) ⟨by decide, rfl⟩ ⟨by decide, by decide⟩ rfl (Nat.le_of_ble_eq_true rfl) (Nat.le_of_ble_eq_true rfl) (kV fun M1 hc => ?_)
    obtain ⟨hR5, hT5, hS5⟩ := hc; clear hR; have hR := hR5; clear hR5; have e9 := hT5.2.1; rw [el] at e9
    first | refine E_aload_n d_TP_feed_60 rfl ?_ | refine E_aload_nN d_TP_feed_60 rfl ?_
    refine E_getR d_TP_feed_61 gf_TP_54 (by first | exact hG.s (by decide) rfl) (by first | exact hR.o rfl) ?_
    refine E_getI d_TP_feed_64 gf_TP_93 (by first | exact hG.s (by decide) rfl) (by exact e9) ?_
    refine E_retI d_TP_feed_67 rfl ?_
    exact ⟨rfl, hR, hT5, (((hS1.tr hS2).tr hS3).tr hS4).tr hS5⟩
theorem sp_TP_end {l : List Nat} (hG : GC G) (hR : RC M) (hT : TapeC l M) (x : Int32) : E 0 0 0 Y_TP_end 0 [some (.ref 0), some (.int x)] [] G M (QI G fun r M' => r = ans_end l x ∧ RC M' ∧ TapeC (st_end l x) M' ∧ Sc STp M M') := by
  have e4 := hT.2.1
  have hl := hT.1
  revert x
  refine args1 (l.length + 1) (fun n hn hx ht => ?_) (fun x hx => ?_)
  · rw [ans_end, st_end, if_pos hx, if_pos hx, ht]
    have s : Sc STp M (wI M 220 1 (nI n)) := Sc.rf.wI (Or.inl rfl)
    have t2 : TapeC (l.take n) (wI M 220 1 (nI n)) := by
      obtain ⟨h1, h2, h3, h4⟩ := hT
      have e : (l.take n).length = n := by rw [List.length_take]; omega
      refine ⟨by rw [e]; omega, by rw [mI_wa, if_pos rfl, e], fun i hi => ?_, fun b hb => h4 b (List.mem_of_mem_take hb)⟩
      rw [e] at hi
      rw [mI_wx (by decide), h3 i (by omega), List.getD_eq_getElem?_getD, List.getD_eq_getElem?_getD, List.getElem?_take, if_pos hi]
    refine E_iload_n d_TP_end_0 rfl ?_
    first | (with_reducible refine E_isN1 ?_; refine E_if_lt 15 d_TP_end_1 rfl (nz_lt (by omega) fun h1 => ?_) (nz_nlt (by omega) fun h1 => ?_)) | refine E_if_lt 15 d_TP_end_1 rfl (fun h1 => ?_) (fun h1 => ?_)
    · exfalso; exact absurd h1 (Nat.not_lt_zero n)
    refine E_iload_n d_TP_end_4 rfl ?_
    first | refine E_aload_n d_TP_end_5 rfl ?_ | refine E_aload_nN d_TP_end_5 rfl ?_
    refine E_getR d_TP_end_6 gf_TP_54 (by first | exact hG.s (by decide) rfl) (by first | exact hR.o rfl) ?_
    refine E_getI d_TP_end_9 gf_TP_93 (by first | exact hG.s (by decide) rfl) (by exact e4) ?_
    first | (with_reducible refine E_isN2 ?_; refine E_icmp_le 17 d_TP_end_12 rfl (nb_le (by omega) (by omega) fun h12 => ?_) (nb_nle (by omega) (by omega) fun h12 => ?_)) | refine E_icmp_le 17 d_TP_end_12 rfl (fun h12 => ?_) (fun h12 => ?_)
    rotate_left
    · exfalso; omega
    first | refine E_aload_n d_TP_end_17 rfl ?_ | refine E_aload_nN d_TP_end_17 rfl ?_
    refine E_getR d_TP_end_18 gf_TP_54 (by first | exact hG.s (by decide) rfl) (by first | exact hR.o rfl) ?_
    refine E_iload_n d_TP_end_21 rfl ?_
    refine E_putI d_TP_end_22 gf_TP_93 (by first | exact hG.s (by decide) rfl) rfl rfl ?_
    refine E_iload_n d_TP_end_25 rfl ?_
    refine E_retI d_TP_end_26 rfl ?_
    exact ⟨rfl, hR.sc s, t2, s⟩
  · have no := out_le (n := l.length) (by omega) hx
    rw [ans_end, st_end, if_neg hx, if_neg hx]
    refine E_iload_n d_TP_end_0 rfl ?_
    first | (with_reducible refine E_isN1 ?_; refine E_if_lt 15 d_TP_end_1 rfl (nz_lt (by omega) fun h1 => ?_) (nz_nlt (by omega) fun h1 => ?_)) | refine E_if_lt 15 d_TP_end_1 rfl (fun h1 => ?_) (fun h1 => ?_)
    · refine E_iconst (v := (-1)) d_TP_end_15 rfl ?_
      refine E_retI d_TP_end_16 rfl ?_
      exact ⟨rfl, hR, hT, Sc.rf⟩
    · refine E_iload_n d_TP_end_4 rfl ?_
      first | refine E_aload_n d_TP_end_5 rfl ?_ | refine E_aload_nN d_TP_end_5 rfl ?_
      refine E_getR d_TP_end_6 gf_TP_54 (by first | exact hG.s (by decide) rfl) (by first | exact hR.o rfl) ?_
      refine E_getI d_TP_end_9 gf_TP_93 (by first | exact hG.s (by decide) rfl) (by exact e4) ?_
      first | (with_reducible refine E_isN2 ?_; refine E_icmp_le 17 d_TP_end_12 rfl (nb_le (by omega) (by omega) fun h12 => ?_) (nb_nle (by omega) (by omega) fun h12 => ?_)) | refine E_icmp_le 17 d_TP_end_12 rfl (fun h12 => ?_) (fun h12 => ?_)
      · exfalso; exact no h1 h12
      refine E_iconst (v := (-1)) d_TP_end_15 rfl ?_
      refine E_retI d_TP_end_16 rfl ?_
      exact ⟨rfl, hR, hT, Sc.rf⟩
end CMo
