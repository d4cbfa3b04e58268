section TPb
variable {c : Cr} {G : Geo} {M : Mem}
theorem sp_TP_is (hC : CM c G M) (x : Int32) : E 2 0 0 Y_TP_is 0 [some (.ref 0), some (.int x), none] [] G M (QI G fun r M' => r = ans_is c x ∧ Sc CQ M M') := by
  have hG := hC.G
  have hR := hC.R
  have hm := hC.now
  revert x
  refine args1 5 (fun k hk hx ht => ?_) (fun x hx => ?_)
  · rcases (show k = 0 ∨ k = 1 ∨ k = 2 ∨ k = 3 ∨ k = 4 by omega) with rfl | rfl | rfl | rfl | rfl
    · first | refine E_aload_n d_TP_is_0 rfl ?_ | refine E_aload_nN d_TP_is_0 rfl ?_
      refine E_getR d_TP_is_1 gf_TP_10 (by first | exact hG.s (by decide) rfl | exact hG.m1 ad2) (by first | exact hR.o rfl | exact hR.c cr1 rfl | exact hR.m0 ad2) ?_
      refine E_getR d_TP_is_4 gf_TP_128 (by first | exact hG.s (by decide) rfl | exact hG.m1 ad2) (by first | exact hR.o rfl | exact hR.c cr1 rfl | exact hR.m0 ad2) ?_
      first | refine E_astore_2 d_TP_is_7 rfl ?_ | refine E_astoreN_2 d_TP_is_7 rfl ?_
      refine E_iload_n d_TP_is_8 rfl ?_
      refine E_tableIn 44 d_TP_is_9 (by decide) (by decide) (by first | rfl | decide) rfl ?_
      first | refine E_aload_n d_TP_is_44 rfl ?_ | refine E_aload_nN d_TP_is_44 rfl ?_
      refine E_getI d_TP_is_45 gf_TP_137 (by first | exact hG.s (by decide) rfl | exact hG.m1 ad2) (by first | exact hm.people | exact hm.answers | exact hm.figure | exact hm.round | exact hm.x | exact hm.written | rfl) ?_
      refine E_retI d_TP_is_48 rfl ?_
      exact ⟨rfl, Sc.rf⟩
    · first | refine E_aload_n d_TP_is_0 rfl ?_ | refine E_aload_nN d_TP_is_0 rfl ?_
      refine E_getR d_TP_is_1 gf_TP_10 (by first | exact hG.s (by decide) rfl | exact hG.m1 ad2) (by first | exact hR.o rfl | exact hR.c cr1 rfl | exact hR.m0 ad2) ?_
      refine E_getR d_TP_is_4 gf_TP_128 (by first | exact hG.s (by decide) rfl | exact hG.m1 ad2) (by first | exact hR.o rfl | exact hR.c cr1 rfl | exact hR.m0 ad2) ?_
      first | refine E_astore_2 d_TP_is_7 rfl ?_ | refine E_astoreN_2 d_TP_is_7 rfl ?_
      refine E_iload_n d_TP_is_8 rfl ?_
      refine E_tableIn 49 d_TP_is_9 (by decide) (by decide) (by first | rfl | decide) rfl ?_
      first | refine E_aload_n d_TP_is_49 rfl ?_ | refine E_aload_nN d_TP_is_49 rfl ?_
      refine E_getI d_TP_is_50 gf_TP_193 (by first | exact hG.s (by decide) rfl | exact hG.m1 ad2) (by first | exact hm.people | exact hm.answers | exact hm.figure | exact hm.round | exact hm.x | exact hm.written | rfl) ?_
      refine E_retI d_TP_is_53 rfl ?_
      exact ⟨rfl, Sc.rf⟩
    · first | refine E_aload_n d_TP_is_0 rfl ?_ | refine E_aload_nN d_TP_is_0 rfl ?_
      refine E_getR d_TP_is_1 gf_TP_10 (by first | exact hG.s (by decide) rfl | exact hG.m1 ad2) (by first | exact hR.o rfl | exact hR.c cr1 rfl | exact hR.m0 ad2) ?_
      refine E_getR d_TP_is_4 gf_TP_128 (by first | exact hG.s (by decide) rfl | exact hG.m1 ad2) (by first | exact hR.o rfl | exact hR.c cr1 rfl | exact hR.m0 ad2) ?_
      first | refine E_astore_2 d_TP_is_7 rfl ?_ | refine E_astoreN_2 d_TP_is_7 rfl ?_
      refine E_iload_n d_TP_is_8 rfl ?_
      refine E_tableIn 54 d_TP_is_9 (by decide) (by decide) (by first | rfl | decide) rfl ?_
      first | refine E_aload_n d_TP_is_54 rfl ?_ | refine E_aload_nN d_TP_is_54 rfl ?_
      refine E_getI d_TP_is_55 gf_TP_131 (by first | exact hG.s (by decide) rfl | exact hG.m1 ad2) (by first | exact hm.people | exact hm.answers | exact hm.figure | exact hm.round | exact hm.x | exact hm.written | rfl) ?_
      refine E_retI d_TP_is_58 rfl ?_
      exact ⟨rfl, Sc.rf⟩
    · first | refine E_aload_n d_TP_is_0 rfl ?_ | refine E_aload_nN d_TP_is_0 rfl ?_
      refine E_getR d_TP_is_1 gf_TP_10 (by first | exact hG.s (by decide) rfl | exact hG.m1 ad2) (by first | exact hR.o rfl | exact hR.c cr1 rfl | exact hR.m0 ad2) ?_
      refine E_getR d_TP_is_4 gf_TP_128 (by first | exact hG.s (by decide) rfl | exact hG.m1 ad2) (by first | exact hR.o rfl | exact hR.c cr1 rfl | exact hR.m0 ad2) ?_
      first | refine E_astore_2 d_TP_is_7 rfl ?_ | refine E_astoreN_2 d_TP_is_7 rfl ?_
      refine E_iload_n d_TP_is_8 rfl ?_
      refine E_tableIn 59 d_TP_is_9 (by decide) (by decide) (by first | rfl | decide) rfl ?_
      first | refine E_aload_n d_TP_is_59 rfl ?_ | refine E_aload_nN d_TP_is_59 rfl ?_
      refine E_getI d_TP_is_60 gf_TP_179 (by first | exact hG.s (by decide) rfl | exact hG.m1 ad2) (by first | exact hm.people | exact hm.answers | exact hm.figure | exact hm.round | exact hm.x | exact hm.written | rfl) ?_
      refine E_retI d_TP_is_63 rfl ?_
      exact ⟨rfl, Sc.rf⟩
    · first | refine E_aload_n d_TP_is_0 rfl ?_ | refine E_aload_nN d_TP_is_0 rfl ?_
      refine E_getR d_TP_is_1 gf_TP_10 (by first | exact hG.s (by decide) rfl | exact hG.m1 ad2) (by first | exact hR.o rfl | exact hR.c cr1 rfl | exact hR.m0 ad2) ?_
      refine E_getR d_TP_is_4 gf_TP_128 (by first | exact hG.s (by decide) rfl | exact hG.m1 ad2) (by first | exact hR.o rfl | exact hR.c cr1 rfl | exact hR.m0 ad2) ?_
      first | refine E_astore_2 d_TP_is_7 rfl ?_ | refine E_astoreN_2 d_TP_is_7 rfl ?_
      refine E_iload_n d_TP_is_8 rfl ?_
      refine E_tableIn 64 d_TP_is_9 (by decide) (by decide) (by first | rfl | decide) rfl ?_
      first | refine E_aload_n d_TP_is_64 rfl ?_ | refine E_aload_nN d_TP_is_64 rfl ?_
      refine E_V0 (sp_Mo_allLeans hG hR ad2 hm hC.w.mo) d_TP_is_65 ml_TP_196 cb_Mo_allLeans cv_Mo_allLeans (by first | exact hG.s (by decide) rfl | exact hG.m1 ad2) ⟨by decide, rfl⟩ ⟨by decide, by decide⟩ rfl (Nat.le_of_ble_eq_true rfl) (Nat.le_of_ble_eq_true rfl) (kI fun r1 M1 hc => ?_)
      obtain ⟨rfl, rfl⟩ := hc
      refine E_retI d_TP_is_68 rfl ?_
      exact ⟨rfl, Sc.rf⟩
  · have n0 : ¬ x = nI 0 := fun q => hx (by rw [q]; decide)
    have n1 : ¬ x = nI 1 := fun q => hx (by rw [q]; decide)
    have n2 : ¬ x = nI 2 := fun q => hx (by rw [q]; decide)
    have n3 : ¬ x = nI 3 := fun q => hx (by rw [q]; decide)
    have n4 : ¬ x = nI 4 := fun q => hx (by rw [q]; decide)
    first | refine E_aload_n d_TP_is_0 rfl ?_ | refine E_aload_nN d_TP_is_0 rfl ?_
    refine E_getR d_TP_is_1 gf_TP_10 (by first | exact hG.s (by decide) rfl | exact hG.m1 ad2) (by first | exact hR.o rfl | exact hR.c cr1 rfl | exact hR.m0 ad2) ?_
    refine E_getR d_TP_is_4 gf_TP_128 (by first | exact hG.s (by decide) rfl | exact hG.m1 ad2) (by first | exact hR.o rfl | exact hR.c cr1 rfl | exact hR.m0 ad2) ?_
    first | refine E_astore_2 d_TP_is_7 rfl ?_ | refine E_astoreN_2 d_TP_is_7 rfl ?_
    refine E_iload_n d_TP_is_8 rfl ?_
    refine E_tableOut 69 d_TP_is_9 (by exact sw_out hx) rfl ?_
    refine E_bipush (v := (-2)) d_TP_is_69 (by decide) ?_
    refine E_retI d_TP_is_71 rfl ?_
    exact ⟨by rw [ans_is, if_neg n0, if_neg n1, if_neg n2, if_neg n3, if_neg n4], Sc.rf⟩
theorem sp_TP_of (hC : CM c G M) (x y : Int32) : E 4 0 0 Y_TP_of 0 [some (.ref 0), some (.int x), some (.int y), none] [] G M (QI G fun r M' => r = ans_of c x y ∧ Sc CQ M M') := by
  have hG := hC.G
  have hR := hC.R
  have hm := hC.now
  have hmk := hC.w.mo
  have hp8 := hC.w.p8
  have hf := hC.w.fig8
  have ha := hC.w.ans8
  revert x y
  refine args2 c.now.people 6 (fun p j hp hx ht hj hy ht2 => ?_) (fun x y hx => ?_) (fun x y hx hy => ?_)
  · have e : ans_of c (nI p) (nI j) = ofW c p j := by rw [ans_of, if_pos ⟨hx, hy⟩, ht, ht2]
    rw [e]
    rcases (show j = 0 ∨ j = 1 ∨ j = 2 ∨ j = 3 ∨ j = 4 ∨ j = 5 by omega) with rfl | rfl | rfl | rfl | rfl | rfl
    · first | refine E_aload_n d_TP_of_0 rfl ?_ | refine E_aload_nN d_TP_of_0 rfl ?_
      refine E_getR d_TP_of_1 gf_TP_10 (by first | exact hG.s (by decide) rfl | exact hG.m1 ad2) (by first | exact hR.o rfl | exact hR.c cr1 rfl | exact hR.m0 ad2) ?_
      refine E_getR d_TP_of_4 gf_TP_128 (by first | exact hG.s (by decide) rfl | exact hG.m1 ad2) (by first | exact hR.o rfl | exact hR.c cr1 rfl | exact hR.m0 ad2) ?_
      first | refine E_astore_3 d_TP_of_7 rfl ?_ | refine E_astoreN_3 d_TP_of_7 rfl ?_
      first | refine E_aload_n d_TP_of_8 rfl ?_ | refine E_aload_nN d_TP_of_8 rfl ?_
      refine E_iload_n d_TP_of_9 rfl ?_
      refine E_V1 (sp_Mo_hasPerson hG ad2 hm hmk _) d_TP_of_10 ml_TP_163 cb_Mo_hasPerson cv_Mo_hasPerson (by first | exact hG.s (by decide) rfl | exact hG.m1 ad2) ⟨by decide, rfl⟩ ⟨by decide, by decide⟩ rfl (Nat.le_of_ble_eq_true rfl) (Nat.le_of_ble_eq_true rfl) (kI fun r1 M1 hc => ?_)
      obtain ⟨rfl, rfl⟩ := hc
      first | (with_reducible refine E_isP ?_; refine E_if_ne 19 d_TP_of_13 rfl (pb_1 fun h13 => ?_) (pb_0 fun h13 => ?_)) | (with_reducible refine E_isN1 ?_; refine E_if_ne 19 d_TP_of_13 rfl (nz_ne fun h13 => ?_) (nz_eq (by omega) fun h13 => ?_)) | refine E_if_ne 19 d_TP_of_13 rfl (fun h13 => ?_) (fun h13 => ?_)
      rotate_left
      · exfalso; exact h13 hx
      refine E_iload_n d_TP_of_19 rfl ?_
      refine E_tableIn 60 d_TP_of_20 (by decide) (by decide) (by first | rfl | decide) rfl ?_
      first | refine E_aload_n d_TP_of_60 rfl ?_ | refine E_aload_nN d_TP_of_60 rfl ?_
      refine E_getR d_TP_of_61 gf_TP_166 (by first | exact hG.s (by decide) rfl | exact hG.m1 ad2) (by first | exact hR.o rfl | exact hR.c cr1 rfl | exact hR.m0 ad2) ?_
      refine E_iload_n d_TP_of_64 rfl ?_
      refine E_S2 (sp_TP_at (hG.m1 ad2) (by decide) (by omega) (hm.lean hp)) d_TP_of_65 ml_TP_169 cb_TP_at cs_TP_at ⟨by decide, by decide⟩ rfl (Nat.le_of_ble_eq_true rfl) (Nat.le_of_ble_eq_true rfl) (kI fun r1 M1 hc => ?_)
      obtain ⟨rfl, rfl⟩ := hc
      refine E_retI d_TP_of_68 rfl ?_
      exact ⟨rfl, Sc.rf⟩
    · first | refine E_aload_n d_TP_of_0 rfl ?_ | refine E_aload_nN d_TP_of_0 rfl ?_
      refine E_getR d_TP_of_1 gf_TP_10 (by first | exact hG.s (by decide) rfl | exact hG.m1 ad2) (by first | exact hR.o rfl | exact hR.c cr1 rfl | exact hR.m0 ad2) ?_
      refine E_getR d_TP_of_4 gf_TP_128 (by first | exact hG.s (by decide) rfl | exact hG.m1 ad2) (by first | exact hR.o rfl | exact hR.c cr1 rfl | exact hR.m0 ad2) ?_
      first | refine E_astore_3 d_TP_of_7 rfl ?_ | refine E_astoreN_3 d_TP_of_7 rfl ?_
      first | refine E_aload_n d_TP_of_8 rfl ?_ | refine E_aload_nN d_TP_of_8 rfl ?_
      refine E_iload_n d_TP_of_9 rfl ?_
      refine E_V1 (sp_Mo_hasPerson hG ad2 hm hmk _) d_TP_of_10 ml_TP_163 cb_Mo_hasPerson cv_Mo_hasPerson (by first | exact hG.s (by decide) rfl | exact hG.m1 ad2) ⟨by decide, rfl⟩ ⟨by decide, by decide⟩ rfl (Nat.le_of_ble_eq_true rfl) (Nat.le_of_ble_eq_true rfl) (kI fun r1 M1 hc => ?_)
      obtain ⟨rfl, rfl⟩ := hc
      first | (with_reducible refine E_isP ?_; refine E_if_ne 19 d_TP_of_13 rfl (pb_1 fun h13 => ?_) (pb_0 fun h13 => ?_)) | (with_reducible refine E_isN1 ?_; refine E_if_ne 19 d_TP_of_13 rfl (nz_ne fun h13 => ?_) (nz_eq (by omega) fun h13 => ?_)) | refine E_if_ne 19 d_TP_of_13 rfl (fun h13 => ?_) (fun h13 => ?_)
      rotate_left
      · exfalso; exact h13 hx
      refine E_iload_n d_TP_of_19 rfl ?_
      refine E_tableIn 69 d_TP_of_20 (by decide) (by decide) (by first | rfl | decide) rfl ?_
      first | refine E_aload_n d_TP_of_69 rfl ?_ | refine E_aload_nN d_TP_of_69 rfl ?_
      refine E_getR d_TP_of_70 gf_TP_10 (by first | exact hG.s (by decide) rfl | exact hG.m1 ad2) (by first | exact hR.o rfl | exact hR.c cr1 rfl | exact hR.m0 ad2) ?_
      refine E_getR d_TP_of_73 gf_TP_173 (by first | exact hG.s (by decide) rfl | exact hG.m1 ad2) (by first | exact hR.o rfl | exact hR.c cr1 rfl | exact hR.m0 ad2) ?_
      refine E_iload_n d_TP_of_76 rfl ?_
      refine E_S2 (sp_TP_at (hG.s (k := 1 + 4) (by decide) rfl) (by decide) (by omega) (hC.H.sort hp)) d_TP_of_77 ml_TP_169 cb_TP_at cs_TP_at ⟨by decide, by decide⟩ rfl (Nat.le_of_ble_eq_true rfl) (Nat.le_of_ble_eq_true rfl) (kI fun r1 M1 hc => ?_)
      obtain ⟨rfl, rfl⟩ := hc
      refine E_retI d_TP_of_80 rfl ?_
      exact ⟨rfl, Sc.rf⟩
    · first | refine E_aload_n d_TP_of_0 rfl ?_ | refine E_aload_nN d_TP_of_0 rfl ?_
      refine E_getR d_TP_of_1 gf_TP_10 (by first | exact hG.s (by decide) rfl | exact hG.m1 ad2) (by first | exact hR.o rfl | exact hR.c cr1 rfl | exact hR.m0 ad2) ?_
      refine E_getR d_TP_of_4 gf_TP_128 (by first | exact hG.s (by decide) rfl | exact hG.m1 ad2) (by first | exact hR.o rfl | exact hR.c cr1 rfl | exact hR.m0 ad2) ?_
      first | refine E_astore_3 d_TP_of_7 rfl ?_ | refine E_astoreN_3 d_TP_of_7 rfl ?_
      first | refine E_aload_n d_TP_of_8 rfl ?_ | refine E_aload_nN d_TP_of_8 rfl ?_
      refine E_iload_n d_TP_of_9 rfl ?_
      refine E_V1 (sp_Mo_hasPerson hG ad2 hm hmk _) d_TP_of_10 ml_TP_163 cb_Mo_hasPerson cv_Mo_hasPerson (by first | exact hG.s (by decide) rfl | exact hG.m1 ad2) ⟨by decide, rfl⟩ ⟨by decide, by decide⟩ rfl (Nat.le_of_ble_eq_true rfl) (Nat.le_of_ble_eq_true rfl) (kI fun r1 M1 hc => ?_)
      obtain ⟨rfl, rfl⟩ := hc
      first | (with_reducible refine E_isP ?_; refine E_if_ne 19 d_TP_of_13 rfl (pb_1 fun h13 => ?_) (pb_0 fun h13 => ?_)) | (with_reducible refine E_isN1 ?_; refine E_if_ne 19 d_TP_of_13 rfl (nz_ne fun h13 => ?_) (nz_eq (by omega) fun h13 => ?_)) | refine E_if_ne 19 d_TP_of_13 rfl (fun h13 => ?_) (fun h13 => ?_)
      rotate_left
      · exfalso; exact h13 hx
      refine E_iload_n d_TP_of_19 rfl ?_
      refine E_tableIn 81 d_TP_of_20 (by decide) (by decide) (by first | rfl | decide) rfl ?_
      first | refine E_aload_n d_TP_of_81 rfl ?_ | refine E_aload_nN d_TP_of_81 rfl ?_
      refine E_getR d_TP_of_82 gf_TP_10 (by first | exact hG.s (by decide) rfl | exact hG.m1 ad2) (by first | exact hR.o rfl | exact hR.c cr1 rfl | exact hR.m0 ad2) ?_
      refine E_getR d_TP_of_85 gf_TP_176 (by first | exact hG.s (by decide) rfl | exact hG.m1 ad2) (by first | exact hR.o rfl | exact hR.c cr1 rfl | exact hR.m0 ad2) ?_
      refine E_iload_n d_TP_of_88 rfl ?_
      refine E_S2 (sp_TP_at (hG.s (k := 1 + 6) (by decide) rfl) (by decide) (by omega) (hC.H.hears (by omega))) d_TP_of_89 ml_TP_169 cb_TP_at cs_TP_at ⟨by decide, by decide⟩ rfl (Nat.le_of_ble_eq_true rfl) (Nat.le_of_ble_eq_true rfl) (kI fun r1 M1 hc => ?_)
      obtain ⟨rfl, rfl⟩ := hc
      refine E_retI d_TP_of_92 rfl ?_
      exact ⟨rfl, Sc.rf⟩
    · first | refine E_aload_n d_TP_of_0 rfl ?_ | refine E_aload_nN d_TP_of_0 rfl ?_
      refine E_getR d_TP_of_1 gf_TP_10 (by first | exact hG.s (by decide) rfl | exact hG.m1 ad2) (by first | exact hR.o rfl | exact hR.c cr1 rfl | exact hR.m0 ad2) ?_
      refine E_getR d_TP_of_4 gf_TP_128 (by first | exact hG.s (by decide) rfl | exact hG.m1 ad2) (by first | exact hR.o rfl | exact hR.c cr1 rfl | exact hR.m0 ad2) ?_
      first | refine E_astore_3 d_TP_of_7 rfl ?_ | refine E_astoreN_3 d_TP_of_7 rfl ?_
      first | refine E_aload_n d_TP_of_8 rfl ?_ | refine E_aload_nN d_TP_of_8 rfl ?_
      refine E_iload_n d_TP_of_9 rfl ?_
      refine E_V1 (sp_Mo_hasPerson hG ad2 hm hmk _) d_TP_of_10 ml_TP_163 cb_Mo_hasPerson cv_Mo_hasPerson (by first | exact hG.s (by decide) rfl | exact hG.m1 ad2) ⟨by decide, rfl⟩ ⟨by decide, by decide⟩ rfl (Nat.le_of_ble_eq_true rfl) (Nat.le_of_ble_eq_true rfl) (kI fun r1 M1 hc => ?_)
      obtain ⟨rfl, rfl⟩ := hc
      first | (with_reducible refine E_isP ?_; refine E_if_ne 19 d_TP_of_13 rfl (pb_1 fun h13 => ?_) (pb_0 fun h13 => ?_)) | (with_reducible refine E_isN1 ?_; refine E_if_ne 19 d_TP_of_13 rfl (nz_ne fun h13 => ?_) (nz_eq (by omega) fun h13 => ?_)) | refine E_if_ne 19 d_TP_of_13 rfl (fun h13 => ?_) (fun h13 => ?_)
      rotate_left
      · exfalso; exact h13 hx
      refine E_iload_n d_TP_of_19 rfl ?_
      refine E_tableIn 93 d_TP_of_20 (by decide) (by decide) (by first | rfl | decide) rfl ?_
      first | refine E_aload_n d_TP_of_93 rfl ?_ | refine E_aload_nN d_TP_of_93 rfl ?_
      refine E_getI d_TP_of_94 gf_TP_179 (by first | exact hG.s (by decide) rfl | exact hG.m1 ad2) (by first | exact hm.people | exact hm.answers | exact hm.figure | exact hm.round | exact hm.x | exact hm.written | rfl) ?_
      refine E_iload_n d_TP_of_97 rfl ?_
      first | (with_reducible refine E_isN2 ?_; refine E_ishrN d_TP_of_98 (by omega) (by omega) ?_) | refine E_ishr d_TP_of_98 ?_
      refine E_iconst (v := nI 1) d_TP_of_99 rfl ?_
      first | (with_reducible refine E_isN2 ?_; refine E_iandN d_TP_of_100 ?_) | refine E_iand d_TP_of_100 ?_
      refine E_retI d_TP_of_101 rfl ?_
      exact ⟨by rw [tb_and]; rfl, Sc.rf⟩
    · first | refine E_aload_n d_TP_of_0 rfl ?_ | refine E_aload_nN d_TP_of_0 rfl ?_
      refine E_getR d_TP_of_1 gf_TP_10 (by first | exact hG.s (by decide) rfl | exact hG.m1 ad2) (by first | exact hR.o rfl | exact hR.c cr1 rfl | exact hR.m0 ad2) ?_
      refine E_getR d_TP_of_4 gf_TP_128 (by first | exact hG.s (by decide) rfl | exact hG.m1 ad2) (by first | exact hR.o rfl | exact hR.c cr1 rfl | exact hR.m0 ad2) ?_
      first | refine E_astore_3 d_TP_of_7 rfl ?_ | refine E_astoreN_3 d_TP_of_7 rfl ?_
      first | refine E_aload_n d_TP_of_8 rfl ?_ | refine E_aload_nN d_TP_of_8 rfl ?_
      refine E_iload_n d_TP_of_9 rfl ?_
      refine E_V1 (sp_Mo_hasPerson hG ad2 hm hmk _) d_TP_of_10 ml_TP_163 cb_Mo_hasPerson cv_Mo_hasPerson (by first | exact hG.s (by decide) rfl | exact hG.m1 ad2) ⟨by decide, rfl⟩ ⟨by decide, by decide⟩ rfl (Nat.le_of_ble_eq_true rfl) (Nat.le_of_ble_eq_true rfl) (kI fun r1 M1 hc => ?_)
      obtain ⟨rfl, rfl⟩ := hc
      first | (with_reducible refine E_isP ?_; refine E_if_ne 19 d_TP_of_13 rfl (pb_1 fun h13 => ?_) (pb_0 fun h13 => ?_)) | (with_reducible refine E_isN1 ?_; refine E_if_ne 19 d_TP_of_13 rfl (nz_ne fun h13 => ?_) (nz_eq (by omega) fun h13 => ?_)) | refine E_if_ne 19 d_TP_of_13 rfl (fun h13 => ?_) (fun h13 => ?_)
      rotate_left
      · exfalso; exact h13 hx
      refine E_iload_n d_TP_of_19 rfl ?_
      refine E_tableIn 102 d_TP_of_20 (by decide) (by decide) (by first | rfl | decide) rfl ?_
      first | refine E_aload_n d_TP_of_102 rfl ?_ | refine E_aload_nN d_TP_of_102 rfl ?_
      refine E_getR d_TP_of_103 gf_TP_31 (by first | exact hG.s (by decide) rfl | exact hG.m1 ad2) (by first | exact hR.o rfl | exact hR.c cr1 rfl | exact hR.m0 ad2) ?_
      first | refine E_aload_n d_TP_of_106 rfl ?_ | refine E_aload_nN d_TP_of_106 rfl ?_
      refine E_iload_n d_TP_of_107 rfl ?_
      first | refine E_aload_n d_TP_of_108 rfl ?_ | refine E_aload_nN d_TP_of_108 rfl ?_
      refine E_getI d_TP_of_109 gf_TP_131 (by first | exact hG.s (by decide) rfl | exact hG.m1 ad2) (by first | exact hm.people | exact hm.answers | exact hm.figure | exact hm.round | exact hm.x | exact hm.written | rfl) ?_
      refine E_iconst (v := nI 1) d_TP_of_112 rfl ?_
      refine E_V4 (sp_As_swayOf (AB.now hC) hp hf (by decide)) d_TP_of_113 ml_TP_182 cb_As_swayOf cv_As_swayOf (by first | exact hG.s (by decide) rfl | exact hG.m1 ad2) ⟨by decide, rfl⟩ ⟨by decide, by decide⟩ rfl (Nat.le_of_ble_eq_true rfl) (Nat.le_of_ble_eq_true rfl) (kI fun r1 M1 hc => ?_)
      obtain ⟨rfl, hS1⟩ := hc
      refine E_retI d_TP_of_116 rfl ?_
      exact ⟨rfl, hS1.wk fun _ => SA.q⟩
    · first | refine E_aload_n d_TP_of_0 rfl ?_ | refine E_aload_nN d_TP_of_0 rfl ?_
      refine E_getR d_TP_of_1 gf_TP_10 (by first | exact hG.s (by decide) rfl | exact hG.m1 ad2) (by first | exact hR.o rfl | exact hR.c cr1 rfl | exact hR.m0 ad2) ?_
      refine E_getR d_TP_of_4 gf_TP_128 (by first | exact hG.s (by decide) rfl | exact hG.m1 ad2) (by first | exact hR.o rfl | exact hR.c cr1 rfl | exact hR.m0 ad2) ?_
      first | refine E_astore_3 d_TP_of_7 rfl ?_ | refine E_astoreN_3 d_TP_of_7 rfl ?_
      first | refine E_aload_n d_TP_of_8 rfl ?_ | refine E_aload_nN d_TP_of_8 rfl ?_
      refine E_iload_n d_TP_of_9 rfl ?_
      refine E_V1 (sp_Mo_hasPerson hG ad2 hm hmk _) d_TP_of_10 ml_TP_163 cb_Mo_hasPerson cv_Mo_hasPerson (by first | exact hG.s (by decide) rfl | exact hG.m1 ad2) ⟨by decide, rfl⟩ ⟨by decide, by decide⟩ rfl (Nat.le_of_ble_eq_true rfl) (Nat.le_of_ble_eq_true rfl) (kI fun r1 M1 hc => ?_)
      obtain ⟨rfl, rfl⟩ := hc
      first | (with_reducible refine E_isP ?_; refine E_if_ne 19 d_TP_of_13 rfl (pb_1 fun h13 => ?_) (pb_0 fun h13 => ?_)) | (with_reducible refine E_isN1 ?_; refine E_if_ne 19 d_TP_of_13 rfl (nz_ne fun h13 => ?_) (nz_eq (by omega) fun h13 => ?_)) | refine E_if_ne 19 d_TP_of_13 rfl (fun h13 => ?_) (fun h13 => ?_)
      rotate_left
      · exfalso; exact h13 hx
      refine E_iload_n d_TP_of_19 rfl ?_
      refine E_tableIn 117 d_TP_of_20 (by decide) (by decide) (by first | rfl | decide) rfl ?_
      first | refine E_aload_n d_TP_of_117 rfl ?_ | refine E_aload_nN d_TP_of_117 rfl ?_
      refine E_getR d_TP_of_118 gf_TP_31 (by first | exact hG.s (by decide) rfl | exact hG.m1 ad2) (by first | exact hR.o rfl | exact hR.c cr1 rfl | exact hR.m0 ad2) ?_
      first | refine E_aload_n d_TP_of_121 rfl ?_ | refine E_aload_nN d_TP_of_121 rfl ?_
      refine E_iload_n d_TP_of_122 rfl ?_
      first | refine E_aload_n d_TP_of_123 rfl ?_ | refine E_aload_nN d_TP_of_123 rfl ?_
      refine E_getI d_TP_of_124 gf_TP_131 (by first | exact hG.s (by decide) rfl | exact hG.m1 ad2) (by first | exact hm.people | exact hm.answers | exact hm.figure | exact hm.round | exact hm.x | exact hm.written | rfl) ?_
      refine E_iconst (v := nI 0) d_TP_of_127 rfl ?_
      refine E_V4 (sp_As_swayOf (AB.now hC) hp hf (by decide)) d_TP_of_128 ml_TP_182 cb_As_swayOf cv_As_swayOf (by first | exact hG.s (by decide) rfl | exact hG.m1 ad2) ⟨by decide, rfl⟩ ⟨by decide, by decide⟩ rfl (Nat.le_of_ble_eq_true rfl) (Nat.le_of_ble_eq_true rfl) (kI fun r1 M1 hc => ?_)
      obtain ⟨rfl, hS1⟩ := hc
      refine E_retI d_TP_of_131 rfl ?_
      exact ⟨rfl, hS1.wk fun _ => SA.q⟩
  · first | refine E_aload_n d_TP_of_0 rfl ?_ | refine E_aload_nN d_TP_of_0 rfl ?_
    refine E_getR d_TP_of_1 gf_TP_10 (by first | exact hG.s (by decide) rfl | exact hG.m1 ad2) (by first | exact hR.o rfl | exact hR.c cr1 rfl | exact hR.m0 ad2) ?_
    refine E_getR d_TP_of_4 gf_TP_128 (by first | exact hG.s (by decide) rfl | exact hG.m1 ad2) (by first | exact hR.o rfl | exact hR.c cr1 rfl | exact hR.m0 ad2) ?_
    first | refine E_astore_3 d_TP_of_7 rfl ?_ | refine E_astoreN_3 d_TP_of_7 rfl ?_
    first | refine E_aload_n d_TP_of_8 rfl ?_ | refine E_aload_nN d_TP_of_8 rfl ?_
    refine E_iload_n d_TP_of_9 rfl ?_
    refine E_V1 (sp_Mo_hasPerson hG ad2 hm hmk _) d_TP_of_10 ml_TP_163 cb_Mo_hasPerson cv_Mo_hasPerson (by first | exact hG.s (by decide) rfl | exact hG.m1 ad2) ⟨by decide, rfl⟩ ⟨by decide, by decide⟩ rfl (Nat.le_of_ble_eq_true rfl) (Nat.le_of_ble_eq_true rfl) (kI fun r1 M1 hc => ?_)
    obtain ⟨rfl, rfl⟩ := hc
    first | (with_reducible refine E_isP ?_; refine E_if_ne 19 d_TP_of_13 rfl (pb_1 fun h13 => ?_) (pb_0 fun h13 => ?_)) | (with_reducible refine E_isN1 ?_; refine E_if_ne 19 d_TP_of_13 rfl (nz_ne fun h13 => ?_) (nz_eq (by omega) fun h13 => ?_)) | refine E_if_ne 19 d_TP_of_13 rfl (fun h13 => ?_) (fun h13 => ?_)
    · exfalso; exact hx h13
    refine E_bipush (v := (-10)) d_TP_of_16 (by decide) ?_
    refine E_retI d_TP_of_18 rfl ?_
    exact ⟨by rw [ans_of, if_neg (fun q => hx q.1)], Sc.rf⟩
  · first | refine E_aload_n d_TP_of_0 rfl ?_ | refine E_aload_nN d_TP_of_0 rfl ?_
    refine E_getR d_TP_of_1 gf_TP_10 (by first | exact hG.s (by decide) rfl | exact hG.m1 ad2) (by first | exact hR.o rfl | exact hR.c cr1 rfl | exact hR.m0 ad2) ?_
    refine E_getR d_TP_of_4 gf_TP_128 (by first | exact hG.s (by decide) rfl | exact hG.m1 ad2) (by first | exact hR.o rfl | exact hR.c cr1 rfl | exact hR.m0 ad2) ?_
    first | refine E_astore_3 d_TP_of_7 rfl ?_ | refine E_astoreN_3 d_TP_of_7 rfl ?_
    first | refine E_aload_n d_TP_of_8 rfl ?_ | refine E_aload_nN d_TP_of_8 rfl ?_
    refine E_iload_n d_TP_of_9 rfl ?_
    refine E_V1 (sp_Mo_hasPerson hG ad2 hm hmk _) d_TP_of_10 ml_TP_163 cb_Mo_hasPerson cv_Mo_hasPerson (by first | exact hG.s (by decide) rfl | exact hG.m1 ad2) ⟨by decide, rfl⟩ ⟨by decide, by decide⟩ rfl (Nat.le_of_ble_eq_true rfl) (Nat.le_of_ble_eq_true rfl) (kI fun r1 M1 hc => ?_)
    obtain ⟨rfl, rfl⟩ := hc
    first | (with_reducible refine E_isP ?_; refine E_if_ne 19 d_TP_of_13 rfl (pb_1 fun h13 => ?_) (pb_0 fun h13 => ?_)) | (with_reducible refine E_isN1 ?_; refine E_if_ne 19 d_TP_of_13 rfl (nz_ne fun h13 => ?_) (nz_eq (by omega) fun h13 => ?_)) | refine E_if_ne 19 d_TP_of_13 rfl (fun h13 => ?_) (fun h13 => ?_)
    rotate_left
    · exfalso; exact h13 hx
    refine E_iload_n d_TP_of_19 rfl ?_
    refine E_tableOut 132 d_TP_of_20 (by exact sw_out hy) rfl ?_
    refine E_bipush (v := (-10)) d_TP_of_132 (by decide) ?_
    refine E_retI d_TP_of_134 rfl ?_
    exact ⟨by rw [ans_of, if_neg (fun q => hy q.2)], Sc.rf⟩
theorem sp_TP_says (hC : CM c G M) (x y : Int32) : E 4 0 0 Y_TP_says 0 [some (.ref 0), some (.int x), some (.int y)] [] G M (QI G fun r M' => r = ans_says c x y ∧ Sc CQ M M') := by
  have hG := hC.G
  have hR := hC.R
  have hm := hC.now
  have hmk := hC.w.mo
  have hp8 := hC.w.p8
  by_cases hy : inN y 9
  · obtain ⟨ey, ly⟩ := in_nI hy
    by_cases hx : inN x c.now.people
    · obtain ⟨ex, lx⟩ := in_nI hx
      have e : ans_says c x y = pI (isYes c c.now (ruler c) (tN x) (tN y) = true) := pI_congr ⟨fun q => q.2.2, fun q => ⟨hx, hy, q⟩⟩
      rw [e]
      revert hx hy
      rw [ex, ey]
      generalize tN x = p at lx ⊢
      generalize tN y = f at ly ⊢
      rw [tN_nI (show p < 2147483648 by omega), tN_nI (show f < 2147483648 by omega)]
      intro hy hx
      have K : ∀ r, LawV (ruler c) r G M → E 4 0 0 Y_TP_says 42 [some (.ref 0), some (.int (nI p)), some (.int (nI f))] [oV r, .ref 2, .ref 212] G M (QI G fun r M' => r = pI (isYes c c.now (ruler c) p f = true) ∧ Sc CQ M M') := by
        intro r hL
        have hs := sp_As_saysYes (AB.now hC) hL lx (show f ≤ 8 by omega)
        revert hs
        cases r with
        | none =>
          intro hs
          refine E_iload_n d_TP_says_42 rfl ?_
          refine E_iload_n d_TP_says_43 rfl ?_
          refine E_V4 (hs) d_TP_says_44 ml_TP_189 cb_As_saysYes cv_As_saysYes (by first | exact hG.s (by decide) rfl | exact hG.m1 ad2) ⟨by decide, rfl⟩ ⟨by decide, by decide⟩ rfl (Nat.le_of_ble_eq_true rfl) (Nat.le_of_ble_eq_true rfl) (kI fun r1 M1 hc => ?_)
          obtain ⟨rfl, hS1⟩ := hc
          first | (with_reducible refine E_isP ?_; refine E_if_eq 54 d_TP_says_47 rfl (pb_0 fun h47 => ?_) (pb_1 fun h47 => ?_)) | (with_reducible refine E_isN1 ?_; refine E_if_eq 54 d_TP_says_47 rfl (nz_eq (by omega) fun h47 => ?_) (nz_ne fun h47 => ?_)) | refine E_if_eq 54 d_TP_says_47 rfl (fun h47 => ?_) (fun h47 => ?_)
          · refine E_iconst (v := nI 0) d_TP_says_54 rfl ?_
            refine E_retZ d_TP_says_55 rfl (by decide) ?_
            first | exact ⟨(pI_t h47).symm, hS1.wk fun _ => SA.q⟩ | exact ⟨(pI_f h47).symm, hS1.wk fun _ => SA.q⟩
          · refine E_iconst (v := nI 1) d_TP_says_50 rfl ?_
            refine E_goto 55 d_TP_says_51 rfl ?_
            refine E_retZ d_TP_says_55 rfl (by decide) ?_
            first | exact ⟨(pI_t h47).symm, hS1.wk fun _ => SA.q⟩ | exact ⟨(pI_f h47).symm, hS1.wk fun _ => SA.q⟩
        | some la =>
          intro hs
          refine E_iload_n d_TP_says_42 rfl ?_
          refine E_iload_n d_TP_says_43 rfl ?_
          refine E_V4 (hs) d_TP_says_44 ml_TP_189 cb_As_saysYes cv_As_saysYes (by first | exact hG.s (by decide) rfl | exact hG.m1 ad2) ⟨by decide, rfl⟩ ⟨by decide, by decide⟩ rfl (Nat.le_of_ble_eq_true rfl) (Nat.le_of_ble_eq_true rfl) (kI fun r1 M1 hc => ?_)
          obtain ⟨rfl, hS1⟩ := hc
          first | (with_reducible refine E_isP ?_; refine E_if_eq 54 d_TP_says_47 rfl (pb_0 fun h47 => ?_) (pb_1 fun h47 => ?_)) | (with_reducible refine E_isN1 ?_; refine E_if_eq 54 d_TP_says_47 rfl (nz_eq (by omega) fun h47 => ?_) (nz_ne fun h47 => ?_)) | refine E_if_eq 54 d_TP_says_47 rfl (fun h47 => ?_) (fun h47 => ?_)
          · refine E_iconst (v := nI 0) d_TP_says_54 rfl ?_
            refine E_retZ d_TP_says_55 rfl (by decide) ?_
            first | exact ⟨(pI_t h47).symm, hS1.wk fun _ => SA.q⟩ | exact ⟨(pI_f h47).symm, hS1.wk fun _ => SA.q⟩
          · refine E_iconst (v := nI 1) d_TP_says_50 rfl ?_
            refine E_goto 55 d_TP_says_51 rfl ?_
            refine E_retZ d_TP_says_55 rfl (by decide) ?_
            first | exact ⟨(pI_t h47).symm, hS1.wk fun _ => SA.q⟩ | exact ⟨(pI_f h47).symm, hS1.wk fun _ => SA.q⟩
      first | refine E_aload_n d_TP_says_0 rfl ?_ | refine E_aload_nN d_TP_says_0 rfl ?_
      refine E_getR d_TP_says_1 gf_TP_10 (by first | exact hG.s (by decide) rfl | exact hG.m1 ad2) (by first | exact hR.o rfl | exact hR.c cr1 rfl | exact hR.m0 ad2) ?_
      refine E_getR d_TP_says_4 gf_TP_128 (by first | exact hG.s (by decide) rfl | exact hG.m1 ad2) (by first | exact hR.o rfl | exact hR.c cr1 rfl | exact hR.m0 ad2) ?_
      refine E_iload_n d_TP_says_7 rfl ?_
      refine E_V1 (sp_Mo_hasPerson hG ad2 hm hmk _) d_TP_says_8 ml_TP_163 cb_Mo_hasPerson cv_Mo_hasPerson (by first | exact hG.s (by decide) rfl | exact hG.m1 ad2) ⟨by decide, rfl⟩ ⟨by decide, by decide⟩ rfl (Nat.le_of_ble_eq_true rfl) (Nat.le_of_ble_eq_true rfl) (kI fun r1 M1 hc => ?_)
      obtain ⟨rfl, rfl⟩ := hc
      first | (with_reducible refine E_isP ?_; refine E_if_eq 54 d_TP_says_11 rfl (pb_0 fun h11 => ?_) (pb_1 fun h11 => ?_)) | (with_reducible refine E_isN1 ?_; refine E_if_eq 54 d_TP_says_11 rfl (nz_eq (by omega) fun h11 => ?_) (nz_ne fun h11 => ?_)) | refine E_if_eq 54 d_TP_says_11 rfl (fun h11 => ?_) (fun h11 => ?_)
      · exfalso; exact h11 hx
      refine E_iload_n d_TP_says_14 rfl ?_
      first | (with_reducible refine E_isN1 ?_; refine E_if_lt 54 d_TP_says_15 rfl (nz_lt (by omega) fun h15 => ?_) (nz_nlt (by omega) fun h15 => ?_)) | refine E_if_lt 54 d_TP_says_15 rfl (fun h15 => ?_) (fun h15 => ?_)
      · exfalso; exact absurd h15 (Nat.not_lt_zero f)
      refine E_iload_n d_TP_says_18 rfl ?_
      refine E_bipush (v := nI 8) d_TP_says_19 (by decide) ?_
      first | (with_reducible refine E_isN2 ?_; refine E_icmp_gt 54 d_TP_says_21 rfl (nb_lt (by omega) (by omega) fun h21 => ?_) (nb_nlt (by omega) (by omega) fun h21 => ?_)) | refine E_icmp_gt 54 d_TP_says_21 rfl (fun h21 => ?_) (fun h21 => ?_)
      · exfalso; omega
      first | refine E_aload_n d_TP_says_24 rfl ?_ | refine E_aload_nN d_TP_says_24 rfl ?_
      refine E_getR d_TP_says_25 gf_TP_31 (by first | exact hG.s (by decide) rfl | exact hG.m1 ad2) (by first | exact hR.o rfl | exact hR.c cr1 rfl | exact hR.m0 ad2) ?_
      first | refine E_aload_n d_TP_says_28 rfl ?_ | refine E_aload_nN d_TP_says_28 rfl ?_
      refine E_getR d_TP_says_29 gf_TP_10 (by first | exact hG.s (by decide) rfl | exact hG.m1 ad2) (by first | exact hR.o rfl | exact hR.c cr1 rfl | exact hR.m0 ad2) ?_
      refine E_getR d_TP_says_32 gf_TP_128 (by first | exact hG.s (by decide) rfl | exact hG.m1 ad2) (by first | exact hR.o rfl | exact hR.c cr1 rfl | exact hR.m0 ad2) ?_
      first | refine E_aload_n d_TP_says_35 rfl ?_ | refine E_aload_nN d_TP_says_35 rfl ?_
      refine E_getR d_TP_says_36 gf_TP_10 (by first | exact hG.s (by decide) rfl | exact hG.m1 ad2) (by first | exact hR.o rfl | exact hR.c cr1 rfl | exact hR.m0 ad2) ?_
      refine E_V0 (sp_Cr_rulingText hC) d_TP_says_39 ml_TP_186 cb_Cr_rulingText cv_Cr_rulingText (by first | exact hG.s (by decide) rfl | exact hG.m1 ad2) ⟨by decide, rfl⟩ ⟨by decide, by decide⟩ rfl (Nat.le_of_ble_eq_true rfl) (Nat.le_of_ble_eq_true rfl) (kR fun r1 M1 hc => ?_)
      obtain ⟨hL, rfl⟩ := hc
      exact K r1 hL
    · first | refine E_aload_n d_TP_says_0 rfl ?_ | refine E_aload_nN d_TP_says_0 rfl ?_
      refine E_getR d_TP_says_1 gf_TP_10 (by first | exact hG.s (by decide) rfl | exact hG.m1 ad2) (by first | exact hR.o rfl | exact hR.c cr1 rfl | exact hR.m0 ad2) ?_
      refine E_getR d_TP_says_4 gf_TP_128 (by first | exact hG.s (by decide) rfl | exact hG.m1 ad2) (by first | exact hR.o rfl | exact hR.c cr1 rfl | exact hR.m0 ad2) ?_
      refine E_iload_n d_TP_says_7 rfl ?_
      refine E_V1 (sp_Mo_hasPerson hG ad2 hm hmk _) d_TP_says_8 ml_TP_163 cb_Mo_hasPerson cv_Mo_hasPerson (by first | exact hG.s (by decide) rfl | exact hG.m1 ad2) ⟨by decide, rfl⟩ ⟨by decide, by decide⟩ rfl (Nat.le_of_ble_eq_true rfl) (Nat.le_of_ble_eq_true rfl) (kI fun r1 M1 hc => ?_)
      obtain ⟨rfl, rfl⟩ := hc
      first | (with_reducible refine E_isP ?_; refine E_if_eq 54 d_TP_says_11 rfl (pb_0 fun h11 => ?_) (pb_1 fun h11 => ?_)) | (with_reducible refine E_isN1 ?_; refine E_if_eq 54 d_TP_says_11 rfl (nz_eq (by omega) fun h11 => ?_) (nz_ne fun h11 => ?_)) | refine E_if_eq 54 d_TP_says_11 rfl (fun h11 => ?_) (fun h11 => ?_)
      rotate_left
      · exfalso; exact hx h11
      refine E_iconst (v := nI 0) d_TP_says_54 rfl ?_
      refine E_retZ d_TP_says_55 rfl (by decide) ?_
      exact ⟨(pI_f (fun q => hx q.1)).symm, Sc.rf⟩
  · have ho := out_gt (n := 8) (by decide) hy
    first | refine E_aload_n d_TP_says_0 rfl ?_ | refine E_aload_nN d_TP_says_0 rfl ?_
    refine E_getR d_TP_says_1 gf_TP_10 (by first | exact hG.s (by decide) rfl | exact hG.m1 ad2) (by first | exact hR.o rfl | exact hR.c cr1 rfl | exact hR.m0 ad2) ?_
    refine E_getR d_TP_says_4 gf_TP_128 (by first | exact hG.s (by decide) rfl | exact hG.m1 ad2) (by first | exact hR.o rfl | exact hR.c cr1 rfl | exact hR.m0 ad2) ?_
    refine E_iload_n d_TP_says_7 rfl ?_
    refine E_V1 (sp_Mo_hasPerson hG ad2 hm hmk _) d_TP_says_8 ml_TP_163 cb_Mo_hasPerson cv_Mo_hasPerson (by first | exact hG.s (by decide) rfl | exact hG.m1 ad2) ⟨by decide, rfl⟩ ⟨by decide, by decide⟩ rfl (Nat.le_of_ble_eq_true rfl) (Nat.le_of_ble_eq_true rfl) (kI fun r1 M1 hc => ?_)
    obtain ⟨rfl, rfl⟩ := hc
    first | (with_reducible refine E_isP ?_; refine E_if_eq 54 d_TP_says_11 rfl (pb_0 fun h11 => ?_) (pb_1 fun h11 => ?_)) | (with_reducible refine E_isN1 ?_; refine E_if_eq 54 d_TP_says_11 rfl (nz_eq (by omega) fun h11 => ?_) (nz_ne fun h11 => ?_)) | refine E_if_eq 54 d_TP_says_11 rfl (fun h11 => ?_) (fun h11 => ?_)
    · refine E_iconst (v := nI 0) d_TP_says_54 rfl ?_
      refine E_retZ d_TP_says_55 rfl (by decide) ?_
      exact ⟨(pI_f (fun q => hy q.2.1)).symm, Sc.rf⟩
    · refine E_iload_n d_TP_says_14 rfl ?_
      first | (with_reducible refine E_isN1 ?_; refine E_if_lt 54 d_TP_says_15 rfl (nz_lt (by omega) fun h15 => ?_) (nz_nlt (by omega) fun h15 => ?_)) | refine E_if_lt 54 d_TP_says_15 rfl (fun h15 => ?_) (fun h15 => ?_)
      · refine E_iconst (v := nI 0) d_TP_says_54 rfl ?_
        refine E_retZ d_TP_says_55 rfl (by decide) ?_
        exact ⟨(pI_f (fun q => hy q.2.1)).symm, Sc.rf⟩
      · refine E_iload_n d_TP_says_18 rfl ?_
        refine E_bipush (v := nI 8) d_TP_says_19 (by decide) ?_
        first | (with_reducible refine E_isN2 ?_; refine E_icmp_gt 54 d_TP_says_21 rfl (nb_lt (by omega) (by omega) fun h21 => ?_) (nb_nlt (by omega) (by omega) fun h21 => ?_)) | refine E_icmp_gt 54 d_TP_says_21 rfl (fun h21 => ?_) (fun h21 => ?_)
        rotate_left
        · exfalso; exact ho h15 h21
        refine E_iconst (v := nI 0) d_TP_says_54 rfl ?_
        refine E_retZ d_TP_says_55 rfl (by decide) ?_
        exact ⟨(pI_f (fun q => hy q.2.1)).symm, Sc.rf⟩
theorem bk0 {i : Nat} (hC : CM c G M) (hi : i < c.now.book.length) {w : Nat} (hw : w ≤ 2) : mI M (2 + 2) (i * 3 + w) = nI (colN w (bkAt c i)) := by
  have hb := hC.now.book hi
  rw [Nat.mul_comm]
  rcases (show w = 0 ∨ w = 1 ∨ w = 2 by omega) with rfl | rfl | rfl
  · exact hb.1
  · exact hb.2.1
  · exact hb.2.2
theorem sp_TP_book (hC : CM c G M) (x y : Int32) : E 2 0 0 Y_TP_book 0 [some (.ref 0), some (.int x), some (.int y), none] [] G M (QI G fun r M' => r = ans_book c x y ∧ Sc CQ M M') := by
  have hG := hC.G
  have hR := hC.R
  have hm := hC.now
  have hmk := hC.w.mo
  have hb30 := hC.w.book
  by_cases h1 : x = -1
  · rw [ans_book, if_pos h1]
    first | refine E_aload_n d_TP_book_0 rfl ?_ | refine E_aload_nN d_TP_book_0 rfl ?_
    refine E_getR d_TP_book_1 gf_TP_10 (by first | exact hG.s (by decide) rfl | exact hG.m1 ad2) (by first | exact hR.o rfl | exact hR.c cr1 rfl | exact hR.m0 ad2) ?_
    refine E_getR d_TP_book_4 gf_TP_128 (by first | exact hG.s (by decide) rfl | exact hG.m1 ad2) (by first | exact hR.o rfl | exact hR.c cr1 rfl | exact hR.m0 ad2) ?_
    first | refine E_astore_3 d_TP_book_7 rfl ?_ | refine E_astoreN_3 d_TP_book_7 rfl ?_
    refine E_iload_n d_TP_book_8 rfl ?_
    refine E_iconst (v := (-1)) d_TP_book_9 rfl ?_
    first | (with_reducible refine E_isN2 ?_; refine E_icmp_ne 18 d_TP_book_10 rfl (nb_ne fun h10 => ?_) (nb_eq (by omega) (by omega) fun h10 => ?_)) | refine E_icmp_ne 18 d_TP_book_10 rfl (fun h10 => ?_) (fun h10 => ?_)
    · exfalso; exact h10 h1
    first | refine E_aload_n d_TP_book_13 rfl ?_ | refine E_aload_nN d_TP_book_13 rfl ?_
    refine E_getI d_TP_book_14 gf_TP_200 (by first | exact hG.s (by decide) rfl | exact hG.m1 ad2) (by first | exact hm.people | exact hm.answers | exact hm.figure | exact hm.round | exact hm.x | exact hm.written | rfl) ?_
    refine E_retI d_TP_book_17 rfl ?_
    exact ⟨rfl, Sc.rf⟩
  · rw [ans_book, if_neg h1]
    revert h1
    revert x y
    refine args2 c.now.book.length 3 (fun i w hi hx ht hw hy ht2 h1 => ?_) (fun x y hx h1 => ?_) (fun x y hx hy h1 => ?_)
    · rw [if_pos ⟨hx, hy⟩, ht, ht2]
      first | refine E_aload_n d_TP_book_0 rfl ?_ | refine E_aload_nN d_TP_book_0 rfl ?_
      refine E_getR d_TP_book_1 gf_TP_10 (by first | exact hG.s (by decide) rfl | exact hG.m1 ad2) (by first | exact hR.o rfl | exact hR.c cr1 rfl | exact hR.m0 ad2) ?_
      refine E_getR d_TP_book_4 gf_TP_128 (by first | exact hG.s (by decide) rfl | exact hG.m1 ad2) (by first | exact hR.o rfl | exact hR.c cr1 rfl | exact hR.m0 ad2) ?_
      first | refine E_astore_3 d_TP_book_7 rfl ?_ | refine E_astoreN_3 d_TP_book_7 rfl ?_
      refine E_iload_n d_TP_book_8 rfl ?_
      refine E_iconst (v := (-1)) d_TP_book_9 rfl ?_
      first | (with_reducible refine E_isN2 ?_; refine E_icmp_ne 18 d_TP_book_10 rfl (nb_ne fun h10 => ?_) (nb_eq (by omega) (by omega) fun h10 => ?_)) | refine E_icmp_ne 18 d_TP_book_10 rfl (fun h10 => ?_) (fun h10 => ?_)
      rotate_left
      · exfalso; exact h1 h10
      refine E_iload_n d_TP_book_18 rfl ?_
      first | (with_reducible refine E_isN1 ?_; refine E_if_lt 39 d_TP_book_19 rfl (nz_lt (by omega) fun h19 => ?_) (nz_nlt (by omega) fun h19 => ?_)) | refine E_if_lt 39 d_TP_book_19 rfl (fun h19 => ?_) (fun h19 => ?_)
      · exfalso; exact absurd h19 (Nat.not_lt_zero i)
      refine E_iload_n d_TP_book_22 rfl ?_
      first | refine E_aload_n d_TP_book_23 rfl ?_ | refine E_aload_nN d_TP_book_23 rfl ?_
      refine E_getI d_TP_book_24 gf_TP_200 (by first | exact hG.s (by decide) rfl | exact hG.m1 ad2) (by first | exact hm.people | exact hm.answers | exact hm.figure | exact hm.round | exact hm.x | exact hm.written | rfl) ?_
      first | (with_reducible refine E_isN2 ?_; refine E_icmp_ge 39 d_TP_book_27 rfl (nb_le (by omega) (by omega) fun h27 => ?_) (nb_nle (by omega) (by omega) fun h27 => ?_)) | refine E_icmp_ge 39 d_TP_book_27 rfl (fun h27 => ?_) (fun h27 => ?_)
      · exfalso; omega
      refine E_iload_n d_TP_book_30 rfl ?_
      first | (with_reducible refine E_isN1 ?_; refine E_if_lt 39 d_TP_book_31 rfl (nz_lt (by omega) fun h31 => ?_) (nz_nlt (by omega) fun h31 => ?_)) | refine E_if_lt 39 d_TP_book_31 rfl (fun h31 => ?_) (fun h31 => ?_)
      · exfalso; exact absurd h31 (Nat.not_lt_zero w)
      refine E_iload_n d_TP_book_34 rfl ?_
      refine E_iconst (v := nI 3) d_TP_book_35 rfl ?_
      first | (with_reducible refine E_isN2 ?_; refine E_icmp_lt 42 d_TP_book_36 rfl (nb_lt (by omega) (by omega) fun h36 => ?_) (nb_nlt (by omega) (by omega) fun h36 => ?_)) | refine E_icmp_lt 42 d_TP_book_36 rfl (fun h36 => ?_) (fun h36 => ?_)
      rotate_left
      · exfalso; omega
      first | refine E_aload_n d_TP_book_42 rfl ?_ | refine E_aload_nN d_TP_book_42 rfl ?_
      refine E_iload_n d_TP_book_43 rfl ?_
      refine E_iload_n d_TP_book_44 rfl ?_
      refine E_V2 (sp_Mo_bookAt hG hR ad2 hm hmk hi (by omega) (bk0 hC hi (by omega))) d_TP_book_45 ml_TP_203 cb_Mo_bookAt cv_Mo_bookAt (by first | exact hG.s (by decide) rfl | exact hG.m1 ad2) ⟨by decide, rfl⟩ ⟨by decide, by decide⟩ rfl (Nat.le_of_ble_eq_true rfl) (Nat.le_of_ble_eq_true rfl) (kI fun r1 M1 hc => ?_)
      obtain ⟨rfl, rfl⟩ := hc
      refine E_retI d_TP_book_48 rfl ?_
      exact ⟨rfl, Sc.rf⟩
    · rw [if_neg (fun q => hx q.1)]
      have ho := out_ge (by omega) hx
      first | refine E_aload_n d_TP_book_0 rfl ?_ | refine E_aload_nN d_TP_book_0 rfl ?_
      refine E_getR d_TP_book_1 gf_TP_10 (by first | exact hG.s (by decide) rfl | exact hG.m1 ad2) (by first | exact hR.o rfl | exact hR.c cr1 rfl | exact hR.m0 ad2) ?_
      refine E_getR d_TP_book_4 gf_TP_128 (by first | exact hG.s (by decide) rfl | exact hG.m1 ad2) (by first | exact hR.o rfl | exact hR.c cr1 rfl | exact hR.m0 ad2) ?_
      first | refine E_astore_3 d_TP_book_7 rfl ?_ | refine E_astoreN_3 d_TP_book_7 rfl ?_
      refine E_iload_n d_TP_book_8 rfl ?_
      refine E_iconst (v := (-1)) d_TP_book_9 rfl ?_
      first | (with_reducible refine E_isN2 ?_; refine E_icmp_ne 18 d_TP_book_10 rfl (nb_ne fun h10 => ?_) (nb_eq (by omega) (by omega) fun h10 => ?_)) | refine E_icmp_ne 18 d_TP_book_10 rfl (fun h10 => ?_) (fun h10 => ?_)
      rotate_left
      · exfalso; exact h1 h10
      refine E_iload_n d_TP_book_18 rfl ?_
      first | (with_reducible refine E_isN1 ?_; refine E_if_lt 39 d_TP_book_19 rfl (nz_lt (by omega) fun h19 => ?_) (nz_nlt (by omega) fun h19 => ?_)) | refine E_if_lt 39 d_TP_book_19 rfl (fun h19 => ?_) (fun h19 => ?_)
      · refine E_bipush (v := (-2)) d_TP_book_39 (by decide) ?_
        refine E_retI d_TP_book_41 rfl ?_
        exact ⟨rfl, Sc.rf⟩
      · refine E_iload_n d_TP_book_22 rfl ?_
        first | refine E_aload_n d_TP_book_23 rfl ?_ | refine E_aload_nN d_TP_book_23 rfl ?_
        refine E_getI d_TP_book_24 gf_TP_200 (by first | exact hG.s (by decide) rfl | exact hG.m1 ad2) (by first | exact hm.people | exact hm.answers | exact hm.figure | exact hm.round | exact hm.x | exact hm.written | rfl) ?_
        first | (with_reducible refine E_isN2 ?_; refine E_icmp_ge 39 d_TP_book_27 rfl (nb_le (by omega) (by omega) fun h27 => ?_) (nb_nle (by omega) (by omega) fun h27 => ?_)) | refine E_icmp_ge 39 d_TP_book_27 rfl (fun h27 => ?_) (fun h27 => ?_)
        rotate_left
        · exfalso; exact ho h19 h27
        refine E_bipush (v := (-2)) d_TP_book_39 (by decide) ?_
        refine E_retI d_TP_book_41 rfl ?_
        exact ⟨rfl, Sc.rf⟩
    · rw [if_neg (fun q => hy q.2)]
      have ho := out_lt (n := 3) (by decide) hy
      obtain ⟨ex, lx⟩ := in_nI hx
      revert h1 hx
      rw [ex]
      generalize tN x = i at lx ⊢
      intro hx h1
      first | refine E_aload_n d_TP_book_0 rfl ?_ | refine E_aload_nN d_TP_book_0 rfl ?_
      refine E_getR d_TP_book_1 gf_TP_10 (by first | exact hG.s (by decide) rfl | exact hG.m1 ad2) (by first | exact hR.o rfl | exact hR.c cr1 rfl | exact hR.m0 ad2) ?_
      refine E_getR d_TP_book_4 gf_TP_128 (by first | exact hG.s (by decide) rfl | exact hG.m1 ad2) (by first | exact hR.o rfl | exact hR.c cr1 rfl | exact hR.m0 ad2) ?_
      first | refine E_astore_3 d_TP_book_7 rfl ?_ | refine E_astoreN_3 d_TP_book_7 rfl ?_
      refine E_iload_n d_TP_book_8 rfl ?_
      refine E_iconst (v := (-1)) d_TP_book_9 rfl ?_
      first | (with_reducible refine E_isN2 ?_; refine E_icmp_ne 18 d_TP_book_10 rfl (nb_ne fun h10 => ?_) (nb_eq (by omega) (by omega) fun h10 => ?_)) | refine E_icmp_ne 18 d_TP_book_10 rfl (fun h10 => ?_) (fun h10 => ?_)
      rotate_left
      · exfalso; exact h1 h10
      refine E_iload_n d_TP_book_18 rfl ?_
      first | (with_reducible refine E_isN1 ?_; refine E_if_lt 39 d_TP_book_19 rfl (nz_lt (by omega) fun h19 => ?_) (nz_nlt (by omega) fun h19 => ?_)) | refine E_if_lt 39 d_TP_book_19 rfl (fun h19 => ?_) (fun h19 => ?_)
      · refine E_bipush (v := (-2)) d_TP_book_39 (by decide) ?_
        refine E_retI d_TP_book_41 rfl ?_
        exact ⟨rfl, Sc.rf⟩
      · refine E_iload_n d_TP_book_22 rfl ?_
        first | refine E_aload_n d_TP_book_23 rfl ?_ | refine E_aload_nN d_TP_book_23 rfl ?_
        refine E_getI d_TP_book_24 gf_TP_200 (by first | exact hG.s (by decide) rfl | exact hG.m1 ad2) (by first | exact hm.people | exact hm.answers | exact hm.figure | exact hm.round | exact hm.x | exact hm.written | rfl) ?_
        first | (with_reducible refine E_isN2 ?_; refine E_icmp_ge 39 d_TP_book_27 rfl (nb_le (by omega) (by omega) fun h27 => ?_) (nb_nle (by omega) (by omega) fun h27 => ?_)) | refine E_icmp_ge 39 d_TP_book_27 rfl (fun h27 => ?_) (fun h27 => ?_)
        · refine E_bipush (v := (-2)) d_TP_book_39 (by decide) ?_
          refine E_retI d_TP_book_41 rfl ?_
          exact ⟨rfl, Sc.rf⟩
        · refine E_iload_n d_TP_book_30 rfl ?_
          first | (with_reducible refine E_isN1 ?_; refine E_if_lt 39 d_TP_book_31 rfl (nz_lt (by omega) fun h31 => ?_) (nz_nlt (by omega) fun h31 => ?_)) | refine E_if_lt 39 d_TP_book_31 rfl (fun h31 => ?_) (fun h31 => ?_)
          · refine E_bipush (v := (-2)) d_TP_book_39 (by decide) ?_
            refine E_retI d_TP_book_41 rfl ?_
            exact ⟨rfl, Sc.rf⟩
          · refine E_iload_n d_TP_book_34 rfl ?_
            refine E_iconst (v := nI 3) d_TP_book_35 rfl ?_
            first | (with_reducible refine E_isN2 ?_; refine E_icmp_lt 42 d_TP_book_36 rfl (nb_lt (by omega) (by omega) fun h36 => ?_) (nb_nlt (by omega) (by omega) fun h36 => ?_)) | refine E_icmp_lt 42 d_TP_book_36 rfl (fun h36 => ?_) (fun h36 => ?_)
            · exfalso; exact ho h31 h36
            refine E_bipush (v := (-2)) d_TP_book_39 (by decide) ?_
            refine E_retI d_TP_book_41 rfl ?_
            exact ⟨rfl, Sc.rf⟩
theorem sp_TP_changes (hC : CM c G M) : E 2 0 0 Y_TP_changes 0 [some (.ref 0), none, none, none] [] G M (QI G fun r M' => r = ans_changes c ∧ Sc CQ M M') := by
  have hG := hC.G
  have hR := hC.R
  have hm := hC.now
  have hmk := hC.w.mo
  have hb30 := hC.w.book
  have L : ∀ k i, i + k = c.now.book.length → E 2 0 0 Y_TP_changes 12 [some (.ref 0), some (.ref 2), some (.int (nI (cnt (fun i => !decide ((bkAt c i).2.1 = (bkAt c i).2.2)) i))), some (.int (nI i))] [] G M (QI G fun r M' => r = ans_changes c ∧ Sc CQ M M') := by
    intro k
    induction k with
    | zero =>
      intro i hi
      have hi2 : i = c.now.book.length := by omega
      subst hi2
      refine E_iload_n d_TP_changes_12 rfl ?_
      first | refine E_aload_n d_TP_changes_13 rfl ?_ | refine E_aload_nN d_TP_changes_13 rfl ?_
      refine E_getI d_TP_changes_14 gf_TP_200 (by first | exact hG.s (by decide) rfl | exact hG.m1 ad2) (by first | exact hm.people | exact hm.answers | exact hm.figure | exact hm.round | exact hm.x | exact hm.written | rfl) ?_
      first | (with_reducible refine E_isN2 ?_; refine E_icmp_ge 44 d_TP_changes_17 rfl (nb_le (by omega) (by omega) fun h17 => ?_) (nb_nle (by omega) (by omega) fun h17 => ?_)) | refine E_icmp_ge 44 d_TP_changes_17 rfl (fun h17 => ?_) (fun h17 => ?_)
      rotate_left
      · exfalso; omega
      refine E_iload_n d_TP_changes_44 rfl ?_
      refine E_retI d_TP_changes_45 rfl ?_
      exact ⟨rfl, Sc.rf⟩
    | succ k ih =>
      intro i hi
      have hil : i < c.now.book.length := by omega
      have hbd := hC.w.bk hil
      have ih2 := ih (i + 1) (by omega)
      have e : cnt (fun i => !decide ((bkAt c i).2.1 = (bkAt c i).2.2)) (i + 1) = cnt (fun i => !decide ((bkAt c i).2.1 = (bkAt c i).2.2)) i + (if (!decide ((bkAt c i).2.1 = (bkAt c i).2.2)) = true then 1 else 0) := rfl
      rw [e] at ih2
      have i0 : (bkAt c i).2.1 = (bkAt c i).2.2 → (if (!decide ((bkAt c i).2.1 = (bkAt c i).2.2)) = true then 1 else 0) = 0 := fun q => if_neg (by rw [decide_eq_true q]; exact Bool.false_ne_true)
      have i1 : (bkAt c i).2.1 ≠ (bkAt c i).2.2 → (if (!decide ((bkAt c i).2.1 = (bkAt c i).2.2)) = true then 1 else 0) = 1 := fun q => if_pos (by rw [decide_eq_false q]; rfl)
      have s1 : mI M (2 + 2) (i * 3 + 1) = nI (bkAt c i).2.1 := bk0 hC hil (by decide)
      have s2 : mI M (2 + 2) (i * 3 + 2) = nI (bkAt c i).2.2 := bk0 hC hil (by decide)
      refine E_iload_n d_TP_changes_12 rfl ?_
      first | refine E_aload_n d_TP_changes_13 rfl ?_ | refine E_aload_nN d_TP_changes_13 rfl ?_
      refine E_getI d_TP_changes_14 gf_TP_200 (by first | exact hG.s (by decide) rfl | exact hG.m1 ad2) (by first | exact hm.people | exact hm.answers | exact hm.figure | exact hm.round | exact hm.x | exact hm.written | rfl) ?_
      first | (with_reducible refine E_isN2 ?_; refine E_icmp_ge 44 d_TP_changes_17 rfl (nb_le (by omega) (by omega) fun h17 => ?_) (nb_nle (by omega) (by omega) fun h17 => ?_)) | refine E_icmp_ge 44 d_TP_changes_17 rfl (fun h17 => ?_) (fun h17 => ?_)
      · exfalso; omega
      first | refine E_aload_n d_TP_changes_20 rfl ?_ | refine E_aload_nN d_TP_changes_20 rfl ?_
      refine E_iload_n d_TP_changes_21 rfl ?_
      refine E_iconst (v := nI 1) d_TP_changes_22 rfl ?_
      refine E_V2 (sp_Mo_bookAt hG hR ad2 hm hmk hil (by decide) s1) d_TP_changes_23 ml_TP_203 cb_Mo_bookAt cv_Mo_bookAt (by first | exact hG.s (by decide) rfl | exact hG.m1 ad2) ⟨by decide, rfl⟩ ⟨by decide, by decide⟩ rfl (Nat.le_of_ble_eq_true rfl) (Nat.le_of_ble_eq_true rfl) (kI fun r1 M1 hc => ?_)
      obtain ⟨rfl, rfl⟩ := hc
      first | refine E_aload_n d_TP_changes_26 rfl ?_ | refine E_aload_nN d_TP_changes_26 rfl ?_
      refine E_iload_n d_TP_changes_27 rfl ?_
      refine E_iconst (v := nI 2) d_TP_changes_28 rfl ?_
      refine E_V2 (sp_Mo_bookAt hG hR ad2 hm hmk hil (by decide) s2) d_TP_changes_29 ml_TP_203 cb_Mo_bookAt cv_Mo_bookAt (by first | exact hG.s (by decide) rfl | exact hG.m1 ad2) ⟨by decide, rfl⟩ ⟨by decide, by decide⟩ rfl (Nat.le_of_ble_eq_true rfl) (Nat.le_of_ble_eq_true rfl) (kI fun r1 M1 hc => ?_)
      obtain ⟨rfl, rfl⟩ := hc
      first | (with_reducible refine E_isN2 ?_; refine E_icmp_eq 38 d_TP_changes_32 rfl (nb_eq (by omega) (by omega) fun h32 => ?_) (nb_ne fun h32 => ?_)) | refine E_icmp_eq 38 d_TP_changes_32 rfl (fun h32 => ?_) (fun h32 => ?_)
      · first | (with_reducible refine E_isL3 ?_; refine E_iincN3 (m := 1) d_TP_changes_38 rfl rfl ?_) | refine E_iinc_3 d_TP_changes_38 rfl rfl ?_
        refine E_goto 12 d_TP_changes_41 rfl ?_
        first | (rw [i0 h32] at ih2; exact ih2) | (rw [i1 h32] at ih2; exact ih2)
      · first | (with_reducible refine E_isL2 ?_; refine E_iincN2 (m := 1) d_TP_changes_35 rfl rfl ?_) | refine E_iinc_2 d_TP_changes_35 rfl rfl ?_
        first | (with_reducible refine E_isL3 ?_; refine E_iincN3 (m := 1) d_TP_changes_38 rfl rfl ?_) | refine E_iinc_3 d_TP_changes_38 rfl rfl ?_
        refine E_goto 12 d_TP_changes_41 rfl ?_
        first | (rw [i0 h32] at ih2; exact ih2) | (rw [i1 h32] at ih2; exact ih2)
  first | refine E_aload_n d_TP_changes_0 rfl ?_ | refine E_aload_nN d_TP_changes_0 rfl ?_
  refine E_getR d_TP_changes_1 gf_TP_10 (by first | exact hG.s (by decide) rfl | exact hG.m1 ad2) (by first | exact hR.o rfl | exact hR.c cr1 rfl | exact hR.m0 ad2) ?_
  refine E_getR d_TP_changes_4 gf_TP_128 (by first | exact hG.s (by decide) rfl | exact hG.m1 ad2) (by first | exact hR.o rfl | exact hR.c cr1 rfl | exact hR.m0 ad2) ?_
  first | refine E_astore_1 d_TP_changes_7 rfl ?_ | refine E_astoreN_1 d_TP_changes_7 rfl ?_
  refine E_iconst (v := nI 0) d_TP_changes_8 rfl ?_
  refine E_istore_2 d_TP_changes_9 rfl ?_
  refine E_iconst (v := nI 0) d_TP_changes_10 rfl ?_
  refine E_istore_3 d_TP_changes_11 rfl ?_
  exact L c.now.book.length 0 (Nat.zero_add _)
theorem sp_TP_ledger (hC : CM c G M) (x : Int32) : E 2 0 0 Y_TP_ledger 0 [some (.ref 0), some (.int x), none, none, none] [] G M (QI G fun r M' => r = ans_ledger c x ∧ Sc CQ M M') := by
  have hG := hC.G
  have hR := hC.R
  have hm := hC.now
  have hmk := hC.w.mo
  have hb30 := hC.w.book
  revert x
  refine args1 9 (fun f hf hx ht => ?_) (fun x hx => ?_)
  · rw [ans_ledger, if_pos hx, ht]
    have L : ∀ k i, i + k = c.now.book.length → E 2 0 0 Y_TP_ledger 26 [some (.ref 0), some (.int (nI f)), some (.ref 2), some (.int (nI (cnt (fun i => decide ((bkAt c i).2.2 = f)) i))), some (.int (nI i))] [] G M (QI G fun r M' => r = nI (cnt (fun i => decide ((bkAt c i).2.2 = f)) c.now.book.length) ∧ Sc CQ M M') := by
      intro k
      induction k with
      | zero =>
        intro i hi
        have hi2 : i = c.now.book.length := by omega
        subst hi2
        refine E_iload d_TP_ledger_26 rfl ?_
        first | refine E_aload_n d_TP_ledger_28 rfl ?_ | refine E_aload_nN d_TP_ledger_28 rfl ?_
        refine E_getI d_TP_ledger_29 gf_TP_200 (by first | exact hG.s (by decide) rfl | exact hG.m1 ad2) (by first | exact hm.people | exact hm.answers | exact hm.figure | exact hm.round | exact hm.x | exact hm.written | rfl) ?_
        first | (with_reducible refine E_isN2 ?_; refine E_icmp_ge 55 d_TP_ledger_32 rfl (nb_le (by omega) (by omega) fun h32 => ?_) (nb_nle (by omega) (by omega) fun h32 => ?_)) | refine E_icmp_ge 55 d_TP_ledger_32 rfl (fun h32 => ?_) (fun h32 => ?_)
        rotate_left
        · exfalso; omega
        refine E_iload_n d_TP_ledger_55 rfl ?_
        refine E_retI d_TP_ledger_56 rfl ?_
        exact ⟨rfl, Sc.rf⟩
      | succ k ih =>
        intro i hi
        have hil : i < c.now.book.length := by omega
        have hbd := hC.w.bk hil
        have ih2 := ih (i + 1) (by omega)
        have e : cnt (fun i => decide ((bkAt c i).2.2 = f)) (i + 1) = cnt (fun i => decide ((bkAt c i).2.2 = f)) i + (if decide ((bkAt c i).2.2 = f) = true then 1 else 0) := rfl
        rw [e] at ih2
        have i1 : (bkAt c i).2.2 = f → (if decide ((bkAt c i).2.2 = f) = true then 1 else 0) = 1 := fun q => if_pos (decide_eq_true q)
        have i0 : (bkAt c i).2.2 ≠ f → (if decide ((bkAt c i).2.2 = f) = true then 1 else 0) = 0 := fun q => if_neg (by rw [decide_eq_false q]; exact Bool.false_ne_true)
        have s2 : mI M (2 + 2) (i * 3 + 2) = nI (bkAt c i).2.2 := bk0 hC hil (by decide)
        refine E_iload d_TP_ledger_26 rfl ?_
        first | refine E_aload_n d_TP_ledger_28 rfl ?_ | refine E_aload_nN d_TP_ledger_28 rfl ?_
        refine E_getI d_TP_ledger_29 gf_TP_200 (by first | exact hG.s (by decide) rfl | exact hG.m1 ad2) (by first | exact hm.people | exact hm.answers | exact hm.figure | exact hm.round | exact hm.x | exact hm.written | rfl) ?_
        first | (with_reducible refine E_isN2 ?_; refine E_icmp_ge 55 d_TP_ledger_32 rfl (nb_le (by omega) (by omega) fun h32 => ?_) (nb_nle (by omega) (by omega) fun h32 => ?_)) | refine E_icmp_ge 55 d_TP_ledger_32 rfl (fun h32 => ?_) (fun h32 => ?_)
        · exfalso; omega
        first | refine E_aload_n d_TP_ledger_35 rfl ?_ | refine E_aload_nN d_TP_ledger_35 rfl ?_
        refine E_iload d_TP_ledger_36 rfl ?_
        refine E_iconst (v := nI 2) d_TP_ledger_38 rfl ?_
        refine E_V2 (sp_Mo_bookAt hG hR ad2 hm hmk hil (by decide) s2) d_TP_ledger_39 ml_TP_203 cb_Mo_bookAt cv_Mo_bookAt (by first | exact hG.s (by decide) rfl | exact hG.m1 ad2) ⟨by decide, rfl⟩ ⟨by decide, by decide⟩ rfl (Nat.le_of_ble_eq_true rfl) (Nat.le_of_ble_eq_true rfl) (kI fun r1 M1 hc => ?_)
        obtain ⟨rfl, rfl⟩ := hc
        refine E_iload_n d_TP_ledger_42 rfl ?_
        first | (with_reducible refine E_isN2 ?_; refine E_icmp_ne 49 d_TP_ledger_43 rfl (nb_ne fun h43 => ?_) (nb_eq (by omega) (by omega) fun h43 => ?_)) | refine E_icmp_ne 49 d_TP_ledger_43 rfl (fun h43 => ?_) (fun h43 => ?_)
        · first | (with_reducible refine E_isL4 ?_; refine E_iincN4 (m := 1) d_TP_ledger_49 rfl rfl ?_) | refine E_iinc_4 d_TP_ledger_49 rfl rfl ?_
          refine E_goto 26 d_TP_ledger_52 rfl ?_
          first | (rw [i0 h43] at ih2; exact ih2) | (rw [i1 h43] at ih2; exact ih2)
        · first | (with_reducible refine E_isL3 ?_; refine E_iincN3 (m := 1) d_TP_ledger_46 rfl rfl ?_) | refine E_iinc_3 d_TP_ledger_46 rfl rfl ?_
          first | (with_reducible refine E_isL4 ?_; refine E_iincN4 (m := 1) d_TP_ledger_49 rfl rfl ?_) | refine E_iinc_4 d_TP_ledger_49 rfl rfl ?_
          refine E_goto 26 d_TP_ledger_52 rfl ?_
          first | (rw [i0 h43] at ih2; exact ih2) | (rw [i1 h43] at ih2; exact ih2)
    refine E_iload_n d_TP_ledger_0 rfl ?_
    first | (with_reducible refine E_isN1 ?_; refine E_if_lt 10 d_TP_ledger_1 rfl (nz_lt (by omega) fun h1 => ?_) (nz_nlt (by omega) fun h1 => ?_)) | refine E_if_lt 10 d_TP_ledger_1 rfl (fun h1 => ?_) (fun h1 => ?_)
    · exfalso; exact absurd h1 (Nat.not_lt_zero f)
    refine E_iload_n d_TP_ledger_4 rfl ?_
    refine E_bipush (v := nI 8) d_TP_ledger_5 (by decide) ?_
    first | (with_reducible refine E_isN2 ?_; refine E_icmp_le 13 d_TP_ledger_7 rfl (nb_le (by omega) (by omega) fun h7 => ?_) (nb_nle (by omega) (by omega) fun h7 => ?_)) | refine E_icmp_le 13 d_TP_ledger_7 rfl (fun h7 => ?_) (fun h7 => ?_)
    rotate_left
    · exfalso; omega
    first | refine E_aload_n d_TP_ledger_13 rfl ?_ | refine E_aload_nN d_TP_ledger_13 rfl ?_
    refine E_getR d_TP_ledger_14 gf_TP_10 (by first | exact hG.s (by decide) rfl | exact hG.m1 ad2) (by first | exact hR.o rfl | exact hR.c cr1 rfl | exact hR.m0 ad2) ?_
    refine E_getR d_TP_ledger_17 gf_TP_128 (by first | exact hG.s (by decide) rfl | exact hG.m1 ad2) (by first | exact hR.o rfl | exact hR.c cr1 rfl | exact hR.m0 ad2) ?_
    first | refine E_astore_2 d_TP_ledger_20 rfl ?_ | refine E_astoreN_2 d_TP_ledger_20 rfl ?_
    refine E_iconst (v := nI 0) d_TP_ledger_21 rfl ?_
    refine E_istore_3 d_TP_ledger_22 rfl ?_
    refine E_iconst (v := nI 0) d_TP_ledger_23 rfl ?_
    refine E_istore_4 d_TP_ledger_24 rfl ?_
    exact L c.now.book.length 0 (Nat.zero_add _)
  · have ho := out_le (n := 8) (by decide) hx
    refine E_iload_n d_TP_ledger_0 rfl ?_
    first | (with_reducible refine E_isN1 ?_; refine E_if_lt 10 d_TP_ledger_1 rfl (nz_lt (by omega) fun h1 => ?_) (nz_nlt (by omega) fun h1 => ?_)) | refine E_if_lt 10 d_TP_ledger_1 rfl (fun h1 => ?_) (fun h1 => ?_)
    · refine E_bipush (v := (-2)) d_TP_ledger_10 (by decide) ?_
      refine E_retI d_TP_ledger_12 rfl ?_
      exact ⟨by rw [ans_ledger, if_neg hx], Sc.rf⟩
    · refine E_iload_n d_TP_ledger_4 rfl ?_
      refine E_bipush (v := nI 8) d_TP_ledger_5 (by decide) ?_
      first | (with_reducible refine E_isN2 ?_; refine E_icmp_le 13 d_TP_ledger_7 rfl (nb_le (by omega) (by omega) fun h7 => ?_) (nb_nle (by omega) (by omega) fun h7 => ?_)) | refine E_icmp_le 13 d_TP_ledger_7 rfl (fun h7 => ?_) (fun h7 => ?_)
      · exfalso; exact ho h1 h7
      refine E_bipush (v := (-2)) d_TP_ledger_10 (by decide) ?_
      refine E_retI d_TP_ledger_12 rfl ?_
      exact ⟨by rw [ans_ledger, if_neg hx], Sc.rf⟩
theorem sp_TP_fault {f p : Int32} (hG : GC G) (hf : mI M 0 11 = f) (hp : mI M 0 12 = p) (x : Int32) : E 0 0 0 Y_TP_fault 0 [some (.ref 0), some (.int x)] [] G M (QI G fun r M' => r = ans_fault f p x ∧ M' = M) := by
  have k1 : x = 0 → f = ans_fault f p x := fun h => (if_pos h).symm
  have k2 : x = nI 1 → p = ans_fault f p x := fun h => by rw [h]; rfl
  have k3 : ¬ x = 0 → ¬ x = nI 1 → -1 = ans_fault f p x := fun h h' => ((if_neg h).trans (if_neg h')).symm
  by_cases h0 : x = 0
  · subst h0
    refine E_iload_n d_TP_fault_0 rfl ?_
    refine E_lookup (off := 27) 28 d_TP_fault_1 (by decide) (by rfl) rfl ?_
    first | refine E_aload_n d_TP_fault_28 rfl ?_ | refine E_aload_nN d_TP_fault_28 rfl ?_
    refine E_getI d_TP_fault_29 gf_TP_78 (by first | exact hG.s (by decide) rfl | exact hG.m1 ad2) (by exact hf) ?_
    refine E_retI d_TP_fault_32 rfl ?_
    exact ⟨rfl, rfl⟩
  · by_cases h1 : x = nI 1
    · subst h1
      refine E_iload_n d_TP_fault_0 rfl ?_
      refine E_lookup (off := 32) 33 d_TP_fault_1 (by decide) (by rfl) rfl ?_
      first | refine E_aload_n d_TP_fault_33 rfl ?_ | refine E_aload_nN d_TP_fault_33 rfl ?_
      refine E_getI d_TP_fault_34 gf_TP_82 (by first | exact hG.s (by decide) rfl | exact hG.m1 ad2) (by exact hp) ?_
      refine E_retI d_TP_fault_37 rfl ?_
      exact ⟨rfl, rfl⟩
    · have e0 : ¬ x.toInt = 0 := fun q => h0 (by rw [iI_of x, q]; rfl)
      have e1 : ¬ x.toInt = 1 := fun q => h1 (by rw [iI_of x, q]; rfl)
      have hsw : Op.lookupswitch.offset [(0, 27), (1, 32)] 37 x.toInt = 37 := by
        rw [Op.lookupswitch.offset_cons, if_neg (fun q => e0 q.symm), Op.lookupswitch.offset_cons, if_neg (fun q => e1 q.symm)]
        rfl
      refine E_iload_n d_TP_fault_0 rfl ?_
      refine E_lookup (off := 37) 38 d_TP_fault_1 (by decide) (by exact hsw) rfl ?_
      refine E_iconst (v := (-1)) d_TP_fault_38 rfl ?_
      refine E_retI d_TP_fault_39 rfl ?_
      exact ⟨k3 h0 h1, rfl⟩
theorem sp_TP_about {n : Nat} (hC : CM c G M) (hn : mI M 220 1 = nI n) (x : Int32) : E 0 0 0 Y_TP_about 0 [some (.ref 0), some (.int x)] [] G M (QI G fun r M' => r = ans_about c n x ∧ Sc CQ M M') := by
  have hG := hC.G
  have hR := hC.R
  have hm := hC.now
  revert x
  refine args1 6 (fun k hk hx ht => ?_) (fun x hx => ?_)
  · rcases (show k = 0 ∨ k = 1 ∨ k = 2 ∨ k = 3 ∨ k = 4 ∨ k = 5 by omega) with rfl | rfl | rfl | rfl | rfl | rfl
    · refine E_iload_n d_TP_about_0 rfl ?_
      refine E_tableIn 40 d_TP_about_1 (by decide) (by decide) (by first | rfl | decide) rfl ?_
      first | refine E_aload_n d_TP_about_40 rfl ?_ | refine E_aload_nN d_TP_about_40 rfl ?_
      refine E_getR d_TP_about_41 gf_TP_10 (by first | exact hG.s (by decide) rfl | exact hG.m1 ad2) (by first | exact hR.o rfl | exact hR.c cr1 rfl | exact hR.m0 ad2) ?_
      refine E_getR d_TP_about_44 gf_TP_128 (by first | exact hG.s (by decide) rfl | exact hG.m1 ad2) (by first | exact hR.o rfl | exact hR.c cr1 rfl | exact hR.m0 ad2) ?_
      refine E_getI d_TP_about_47 gf_TP_310 (by first | exact hG.s (by decide) rfl | exact hG.m1 ad2) (by first | exact hm.people | exact hm.answers | exact hm.figure | exact hm.round | exact hm.x | exact hm.written | rfl) ?_
      refine E_retI d_TP_about_50 rfl ?_
      exact ⟨rfl, Sc.rf⟩
    · refine E_iload_n d_TP_about_0 rfl ?_
      refine E_tableIn 51 d_TP_about_1 (by decide) (by decide) (by first | rfl | decide) rfl ?_
      first | refine E_aload_n d_TP_about_51 rfl ?_ | refine E_aload_nN d_TP_about_51 rfl ?_
      refine E_getR d_TP_about_52 gf_TP_10 (by first | exact hG.s (by decide) rfl | exact hG.m1 ad2) (by first | exact hR.o rfl | exact hR.c cr1 rfl | exact hR.m0 ad2) ?_
      refine E_getI d_TP_about_55 gf_TP_100 (by first | exact hG.s (by decide) rfl | exact hG.m1 ad2) (by exact hC.H.texts) ?_
      refine E_retI d_TP_about_58 rfl ?_
      exact ⟨rfl, Sc.rf⟩
    · refine E_iload_n d_TP_about_0 rfl ?_
      refine E_tableIn 59 d_TP_about_1 (by decide) (by decide) (by first | rfl | decide) rfl ?_
      first | refine E_aload_n d_TP_about_59 rfl ?_ | refine E_aload_nN d_TP_about_59 rfl ?_
      refine E_getR d_TP_about_60 gf_TP_10 (by first | exact hG.s (by decide) rfl | exact hG.m1 ad2) (by first | exact hR.o rfl | exact hR.c cr1 rfl | exact hR.m0 ad2) ?_
      refine E_getI d_TP_about_63 gf_TP_121 (by first | exact hG.s (by decide) rfl | exact hG.m1 ad2) (by exact hC.H.ruling) ?_
      refine E_retI d_TP_about_66 rfl ?_
      exact ⟨rfl, Sc.rf⟩
    · refine E_iload_n d_TP_about_0 rfl ?_
      refine E_tableIn 67 d_TP_about_1 (by decide) (by decide) (by first | rfl | decide) rfl ?_
      first | refine E_aload_n d_TP_about_67 rfl ?_ | refine E_aload_nN d_TP_about_67 rfl ?_
      refine E_getR d_TP_about_68 gf_TP_10 (by first | exact hG.s (by decide) rfl | exact hG.m1 ad2) (by first | exact hR.o rfl | exact hR.c cr1 rfl | exact hR.m0 ad2) ?_
      refine E_getI d_TP_about_71 gf_TP_160 (by first | exact hG.s (by decide) rfl | exact hG.m1 ad2) (by exact hC.H.steps) ?_
      refine E_retI d_TP_about_74 rfl ?_
      exact ⟨rfl, Sc.rf⟩
    · refine E_iload_n d_TP_about_0 rfl ?_
      refine E_tableIn 75 d_TP_about_1 (by decide) (by decide) (by first | rfl | decide) rfl ?_
      first | refine E_aload_n d_TP_about_75 rfl ?_ | refine E_aload_nN d_TP_about_75 rfl ?_
      refine E_getR d_TP_about_76 gf_TP_10 (by first | exact hG.s (by decide) rfl | exact hG.m1 ad2) (by first | exact hR.o rfl | exact hR.c cr1 rfl | exact hR.m0 ad2) ?_
      refine E_getI d_TP_about_79 gf_TP_361 (by first | exact hG.s (by decide) rfl | exact hG.m1 ad2) (by exact hC.H.saids) ?_
      refine E_retI d_TP_about_82 rfl ?_
      exact ⟨rfl, Sc.rf⟩
    · refine E_iload_n d_TP_about_0 rfl ?_
      refine E_tableIn 83 d_TP_about_1 (by decide) (by decide) (by first | rfl | decide) rfl ?_
      first | refine E_aload_n d_TP_about_83 rfl ?_ | refine E_aload_nN d_TP_about_83 rfl ?_
      refine E_getR d_TP_about_84 gf_TP_54 (by first | exact hG.s (by decide) rfl | exact hG.m1 ad2) (by first | exact hR.o rfl | exact hR.c cr1 rfl | exact hR.m0 ad2) ?_
      refine E_getI d_TP_about_87 gf_TP_93 (by first | exact hG.s (by decide) rfl | exact hG.m1 ad2) (by exact hn) ?_
      refine E_retI d_TP_about_90 rfl ?_
      exact ⟨rfl, Sc.rf⟩
  · have n0 : ¬ x = nI 0 := fun q => hx (by rw [q]; decide)
    have n1 : ¬ x = nI 1 := fun q => hx (by rw [q]; decide)
    have n2 : ¬ x = nI 2 := fun q => hx (by rw [q]; decide)
    have n3 : ¬ x = nI 3 := fun q => hx (by rw [q]; decide)
    have n4 : ¬ x = nI 4 := fun q => hx (by rw [q]; decide)
    have n5 : ¬ x = nI 5 := fun q => hx (by rw [q]; decide)
    refine E_iload_n d_TP_about_0 rfl ?_
    refine E_tableOut 91 d_TP_about_1 (by exact sw_out hx) rfl ?_
    refine E_bipush (v := (-2)) d_TP_about_91 (by decide) ?_
    refine E_retI d_TP_about_93 rfl ?_
    exact ⟨by rw [ans_about, if_neg n0, if_neg n1, if_neg n2, if_neg n3, if_neg n4, if_neg n5], Sc.rf⟩
end TPb
