section CMi
variable {c : Cr} {G : Geo} {M : Mem}
theorem SR2.w {k : Nat} (h : SR 2 k) : CW k := by unfold SR Bk at h; unfold CW CQ; omega
theorem sp_Ro_passNow (hC : CM c G M) {f : Nat} (hf : f ≤ 8) (hr : c.now.round < 9999) : E 4 0 0 Y_Ro_pass 0 [some (.ref 214), some (.ref 2), some (.int (nI f)), none, none, none, none, none] [] G M (QV G fun M' => CM (passS true c f) G M' ∧ Sc CW M M') :=
  E_mono (sp_Ro_pass (AB.now hC) (Or.inl rfl) (fun _ => rfl) hf hr) (fun _ _ _ h => ⟨h.1, h.2.1, h.2.2.1.1, h.2.2.2.wk fun _ => SR2.w⟩)
abbrev telP (c : Cr) (x : Int32) : Prop := inN x (c.now.people + 1) ∧ c.now.round ≠ 9999
theorem sp_Ro_tellByHand (hC : CM c G M) (x : Int32) : E 5 0 0 Y_Ro_tellByHand 0 [some (.ref 214), some (.int x)] [] G M (QI G fun r M' => r = pI (telP c x) ∧ CM (st_tell c x) G M' ∧ Sc CW M M') := by
  have hG := hC.G
  have hR := hC.R
  have hm := hC.now
  have hw := hC.w
  have hp8 := hw.p8
  have hr9 := hw.mo.round
  have hct := sp_Mo_canTell hG ad2 hm hw.mo x
  rw [pI_congr (show (inN x (c.now.people + 1) ∧ c.now.round < 9999) ↔ telP c x from ⟨fun q => ⟨q.1, by have := q.2; omega⟩, fun q => ⟨q.1, by have := q.2; omega⟩⟩)] at hct
  by_cases hn : telP c x
  · have e := (in_nI hn.1).1
    have hl := (in_nI hn.1).2
    have hr2 := hn.2
    rw [pI_t hn, st_tell, if_pos hn]
    generalize hy : tN x = f at hl e ⊢
    subst e
    first | refine E_aload_n d_Ro_tellByHand_0 rfl ?_ | refine E_aload_nN d_Ro_tellByHand_0 rfl ?_
    refine E_getR d_Ro_tellByHand_1 gf_Ro_15 (by first | exact hG.s (by decide) rfl) (by first | exact hR.o rfl | exact hR.c cr1 rfl | exact hR.m0 ad2) ?_
    refine E_getR d_Ro_tellByHand_4 gf_Ro_93 (by first | exact hG.s (by decide) rfl) (by first | exact hR.o rfl | exact hR.c cr1 rfl | exact hR.m0 ad2) ?_
    refine E_iload_n d_Ro_tellByHand_7 rfl ?_
    refine E_V1 (hct) d_Ro_tellByHand_8 ml_Ro_100 cb_Mo_canTell cv_Mo_canTell (by first | exact hG.s (by decide) rfl) ⟨by decide, rfl⟩ ⟨by decide, by decide⟩ rfl (Nat.le_of_ble_eq_true rfl) (Nat.le_of_ble_eq_true rfl) (kI fun r1 M1 hc => ?_)
    obtain ⟨rfl, rfl⟩ := hc
    first | (with_reducible refine E_isP ?_; refine E_if_ne 16 d_Ro_tellByHand_11 rfl (pb_1 fun h11 => ?_) (pb_0 fun h11 => ?_)) | (with_reducible refine E_isN1 ?_; refine E_if_ne 16 d_Ro_tellByHand_11 rfl (nz_ne fun h11 => ?_) (nz_eq (by omega) fun h11 => ?_)) | refine E_if_ne 16 d_Ro_tellByHand_11 rfl (fun h11 => ?_) (fun h11 => ?_)
    rotate_left
    · exfalso; exact h11 hn
    first | refine E_aload_n d_Ro_tellByHand_16 rfl ?_ | refine E_aload_nN d_Ro_tellByHand_16 rfl ?_
    refine E_getR d_Ro_tellByHand_17 gf_Ro_15 (by first | exact hG.s (by decide) rfl) (by first | exact hR.o rfl | exact hR.c cr1 rfl | exact hR.m0 ad2) ?_
    refine E_V0 (sp_Cr_keepStep hC) d_Ro_tellByHand_20 ml_Ro_97 cb_Cr_keepStep cv_Cr_keepStep (by first | exact hG.s (by decide) rfl) ⟨by decide, rfl⟩ ⟨by decide, by decide⟩ rfl (Nat.le_of_ble_eq_true rfl) (Nat.le_of_ble_eq_true rfl) (kV fun M1 hc => ?_)
    obtain ⟨hC1, hS1⟩ := hc; have hR := hC1.R
    first | refine E_aload_n d_Ro_tellByHand_23 rfl ?_ | refine E_aload_nN d_Ro_tellByHand_23 rfl ?_
    first | refine E_aload_n d_Ro_tellByHand_24 rfl ?_ | refine E_aload_nN d_Ro_tellByHand_24 rfl ?_
    refine E_getR d_Ro_tellByHand_25 gf_Ro_15 (by first | exact hG.s (by decide) rfl) (by first | exact hR.o rfl | exact hR.c cr1 rfl | exact hR.m0 ad2) ?_
    refine E_getR d_Ro_tellByHand_28 gf_Ro_93 (by first | exact hG.s (by decide) rfl) (by first | exact hR.o rfl | exact hR.c cr1 rfl | exact hR.m0 ad2) ?_
    refine E_iload_n d_Ro_tellByHand_31 rfl ?_
    refine E_V2 (sp_Ro_passNow hC1 (by omega) (by show c.now.round < 9999; omega)) d_Ro_tellByHand_32 ml_Ro_89 cb_Ro_pass cv_Ro_pass (by first | exact hG.s (by decide) rfl) ⟨by decide, rfl⟩ ⟨by decide, by decide⟩ rfl (Nat.le_of_ble_eq_true rfl) (Nat.le_of_ble_eq_true rfl) (kV fun M1 hc => ?_)
    obtain ⟨hC2, hS2⟩ := hc
    refine E_iconst (v := nI 1) d_Ro_tellByHand_35 rfl ?_
    refine E_retZ d_Ro_tellByHand_36 rfl (by decide) ?_
    exact ⟨rfl, hC2, hS1.tr hS2⟩
  · rw [pI_f hn, st_tell, if_neg hn]
    first | refine E_aload_n d_Ro_tellByHand_0 rfl ?_ | refine E_aload_nN d_Ro_tellByHand_0 rfl ?_
    refine E_getR d_Ro_tellByHand_1 gf_Ro_15 (by first | exact hG.s (by decide) rfl) (by first | exact hR.o rfl | exact hR.c cr1 rfl | exact hR.m0 ad2) ?_
    refine E_getR d_Ro_tellByHand_4 gf_Ro_93 (by first | exact hG.s (by decide) rfl) (by first | exact hR.o rfl | exact hR.c cr1 rfl | exact hR.m0 ad2) ?_
    refine E_iload_n d_Ro_tellByHand_7 rfl ?_
    refine E_V1 (hct) d_Ro_tellByHand_8 ml_Ro_100 cb_Mo_canTell cv_Mo_canTell (by first | exact hG.s (by decide) rfl) ⟨by decide, rfl⟩ ⟨by decide, by decide⟩ rfl (Nat.le_of_ble_eq_true rfl) (Nat.le_of_ble_eq_true rfl) (kI fun r1 M1 hc => ?_)
    obtain ⟨rfl, rfl⟩ := hc
    first | (with_reducible refine E_isP ?_; refine E_if_ne 16 d_Ro_tellByHand_11 rfl (pb_1 fun h11 => ?_) (pb_0 fun h11 => ?_)) | (with_reducible refine E_isN1 ?_; refine E_if_ne 16 d_Ro_tellByHand_11 rfl (nz_ne fun h11 => ?_) (nz_eq (by omega) fun h11 => ?_)) | refine E_if_ne 16 d_Ro_tellByHand_11 rfl (fun h11 => ?_) (fun h11 => ?_)
    · exfalso; exact hn h11
    refine E_iconst (v := nI 0) d_Ro_tellByHand_14 rfl ?_
    refine E_retZ d_Ro_tellByHand_15 rfl (by decide) ?_
    exact ⟨rfl, hC, Sc.rf⟩
theorem sp_TP_tell (hC : CM c G M) (x : Int32) : E 6 0 0 Y_TP_tell 0 [some (.ref 0), some (.int x)] [] G M (QI G fun r M' => r = ans_tell c x ∧ CM (st_tell c x) G M' ∧ Sc CW M M') := by
  have hG := hC.G
  have hR := hC.R
  have hs := sp_Ro_tellByHand hC x
  by_cases hn : telP c x
  · rw [ans_tell, if_pos hn]
    rw [st_tell, if_pos hn, pI_t hn] at *
    first | refine E_aload_n d_TP_tell_0 rfl ?_ | refine E_aload_nN d_TP_tell_0 rfl ?_
    refine E_getR d_TP_tell_1 gf_TP_40 (by first | exact hG.s (by decide) rfl) (by first | exact hR.o rfl | exact hR.c cr1 rfl | exact hR.m0 ad2) ?_
    refine E_iload_n d_TP_tell_4 rfl ?_
    refine E_V1 (hs) d_TP_tell_5 ml_TP_124 cb_Ro_tellByHand cv_Ro_tellByHand (by first | exact hG.s (by decide) rfl) ⟨by decide, rfl⟩ ⟨by decide, by decide⟩ rfl (Nat.le_of_ble_eq_true rfl) (Nat.le_of_ble_eq_true rfl) (kI fun r1 M1 hc => ?_)
    obtain ⟨rfl, hC1, hS1⟩ := hc; have hR := hC1.R; have hm := hC1.now
    first | (with_reducible refine E_isP ?_; refine E_if_eq 24 d_TP_tell_8 rfl (pb_0 fun h8 => ?_) (pb_1 fun h8 => ?_)) | (with_reducible refine E_isN1 ?_; refine E_if_eq 24 d_TP_tell_8 rfl (nz_eq (by omega) fun h8 => ?_) (nz_ne fun h8 => ?_)) | refine E_if_eq 24 d_TP_tell_8 rfl (fun h8 => ?_) (fun h8 => ?_)
    · exfalso; exact absurd h8 (by decide)
    first | refine E_aload_n d_TP_tell_11 rfl ?_ | refine E_aload_nN d_TP_tell_11 rfl ?_
    refine E_getR d_TP_tell_12 gf_TP_10 (by first | exact hG.s (by decide) rfl) (by first | exact hR.o rfl | exact hR.c cr1 rfl | exact hR.m0 ad2) ?_
    refine E_getR d_TP_tell_15 gf_TP_128 (by first | exact hG.s (by decide) rfl) (by first | exact hR.o rfl | exact hR.c cr1 rfl | exact hR.m0 ad2) ?_
    refine E_getI d_TP_tell_18 gf_TP_131 (by first | exact hG.s (by decide) rfl) (by first | exact hm.people | exact hm.figure | exact hm.round | rfl) ?_
    refine E_goto 25 d_TP_tell_21 rfl ?_
    refine E_retI d_TP_tell_25 rfl ?_
    exact ⟨rfl, hC1, hS1⟩
  · rw [ans_tell, if_neg hn]
    rw [st_tell, if_neg hn, pI_f hn] at *
    first | refine E_aload_n d_TP_tell_0 rfl ?_ | refine E_aload_nN d_TP_tell_0 rfl ?_
    refine E_getR d_TP_tell_1 gf_TP_40 (by first | exact hG.s (by decide) rfl) (by first | exact hR.o rfl | exact hR.c cr1 rfl | exact hR.m0 ad2) ?_
    refine E_iload_n d_TP_tell_4 rfl ?_
    refine E_V1 (hs) d_TP_tell_5 ml_TP_124 cb_Ro_tellByHand cv_Ro_tellByHand (by first | exact hG.s (by decide) rfl) ⟨by decide, rfl⟩ ⟨by decide, by decide⟩ rfl (Nat.le_of_ble_eq_true rfl) (Nat.le_of_ble_eq_true rfl) (kI fun r1 M1 hc => ?_)
    obtain ⟨rfl, hC1, hS1⟩ := hc; have hR := hC1.R; have hm := hC1.now
    first | (with_reducible refine E_isP ?_; refine E_if_eq 24 d_TP_tell_8 rfl (pb_0 fun h8 => ?_) (pb_1 fun h8 => ?_)) | (with_reducible refine E_isN1 ?_; refine E_if_eq 24 d_TP_tell_8 rfl (nz_eq (by omega) fun h8 => ?_) (nz_ne fun h8 => ?_)) | refine E_if_eq 24 d_TP_tell_8 rfl (fun h8 => ?_) (fun h8 => ?_)
    rotate_left
    · exfalso; exact absurd rfl h8
    refine E_iconst (v := (-1)) d_TP_tell_24 rfl ?_
    refine E_retI d_TP_tell_25 rfl ?_
    exact ⟨rfl, hC1, hS1⟩
end CMi
