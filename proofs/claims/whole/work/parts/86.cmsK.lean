section CMk
variable {G : Geo} {M : Mem}
theorem lp_Ro_passYear {c : Cr} {x : Nat} (hC : CM c G M) (hx : x < 31033) : E 5 0 0 Y_Ro_passYear 4 [some (.ref 214), some (.ref 2), none, none, none, none, none] [.int (nI x)] G M (QV G fun M' => CM (happ c x) G M' ∧ Sc CW M M') := by
  have hG := hC.G
  have hR := hC.R
  have hm := hC.now
  have hw := hC.w
  have hp8 := hw.p8
  have hr9 := hw.mo.round
  have hf := hw.fig
  have hf8 := hw.fig8
  have htn : tN (nI (x / 6 % 8)) = x / 6 % 8 := tN_nI (by omega)
  have p1 : nI 1 = (1 : Int32) := rfl
  have sh : ∀ y : Int32, nudP c (nI (x / 6 % 8)) y → E 1 0 0 Y_Ro_shift 0 [some (.ref 214), some (.int (nI (x / 6 % 8))), some (.int y)] [] G M (QV G fun M' => CM (shiftS c (x / 6 % 8) y.toInt) G M' ∧ Sc CW M M') := fun y hn => by
    have := sp_Ro_shift hC hn
    rwa [htn] at this
  have cn := fun y => sp_Mo_canNudge hG hR ad2 hm hw.mo (nI (x / 6 % 8)) y
  by_cases h0 : x % 6 = 0
  · rw [happ, if_pos h0]
    have cn1 := cn 1
    by_cases hn : nudP c (nI (x / 6 % 8)) 1
    · rw [if_pos hn]
      have s1 := sh 1 hn
      refine E_istore_2 d_Ro_passYear_4 rfl ?_
      refine E_iload_n d_Ro_passYear_5 rfl ?_
      refine E_bipush (v := nI 6) d_Ro_passYear_6 (by decide) ?_
      first | (with_reducible refine E_isN2 ?_; refine E_iremN d_Ro_passYear_8 (by omega) (by omega) (by omega) ?_) | refine E_irem d_Ro_passYear_8 (by decide) ?_
      refine E_istore_3 d_Ro_passYear_9 rfl ?_
      refine E_iload_n d_Ro_passYear_10 rfl ?_
      refine E_iconst (v := nI 2) d_Ro_passYear_11 rfl ?_
      first | (with_reducible refine E_isN2 ?_; refine E_icmp_ne 25 d_Ro_passYear_12 rfl (nb_ne fun h12 => ?_) (nb_eq (by omega) (by omega) fun h12 => ?_)) | refine E_icmp_ne 25 d_Ro_passYear_12 rfl (fun h12 => ?_) (fun h12 => ?_)
      rotate_left
      · exfalso; omega
      first | refine E_aload_n d_Ro_passYear_25 rfl ?_ | refine E_aload_nN d_Ro_passYear_25 rfl ?_
      refine E_getI d_Ro_passYear_26 gf_Ro_75 (by first | exact hG.s (by decide) rfl) (by first | exact hm.people | exact hm.figure | exact hm.round | rfl) ?_
      refine E_istore_4 d_Ro_passYear_29 rfl ?_
      refine E_iload_n d_Ro_passYear_31 rfl ?_
      refine E_iconst (v := nI 2) d_Ro_passYear_32 rfl ?_
      first | (with_reducible refine E_isN2 ?_; refine E_icmp_ge 78 d_Ro_passYear_33 rfl (nb_le (by omega) (by omega) fun h33 => ?_) (nb_nle (by omega) (by omega) fun h33 => ?_)) | refine E_icmp_ge 78 d_Ro_passYear_33 rfl (fun h33 => ?_) (fun h33 => ?_)
      · exfalso; omega
      refine E_iload_n d_Ro_passYear_36 rfl ?_
      refine E_bipush (v := nI 6) d_Ro_passYear_37 (by decide) ?_
      first | (with_reducible refine E_isN2 ?_; refine E_idivN d_Ro_passYear_39 (by omega) (by omega) (by omega) ?_) | refine E_idiv d_Ro_passYear_39 (by decide) ?_
      refine E_bipush (v := nI 8) d_Ro_passYear_40 (by decide) ?_
      first | (with_reducible refine E_isN2 ?_; refine E_iremN d_Ro_passYear_42 (by omega) (by omega) (by omega) ?_) | refine E_irem d_Ro_passYear_42 (by decide) ?_
      refine E_istore_5 d_Ro_passYear_43 rfl ?_
      refine E_iload_n d_Ro_passYear_45 rfl ?_
      first | (with_reducible refine E_isP ?_; refine E_if_ne 53 d_Ro_passYear_46 rfl (pb_1 fun h46 => ?_) (pb_0 fun h46 => ?_)) | (with_reducible refine E_isN1 ?_; refine E_if_ne 53 d_Ro_passYear_46 rfl (nz_ne fun h46 => ?_) (nz_eq (by omega) fun h46 => ?_)) | refine E_if_ne 53 d_Ro_passYear_46 rfl (fun h46 => ?_) (fun h46 => ?_)
      · exfalso; omega
      refine E_iconst (v := nI 1) d_Ro_passYear_49 rfl ?_
      refine E_goto 54 d_Ro_passYear_50 rfl ?_
      refine E_istore_6 d_Ro_passYear_54 rfl ?_
      first | refine E_aload_n d_Ro_passYear_56 rfl ?_ | refine E_aload_nN d_Ro_passYear_56 rfl ?_
      refine E_iload d_Ro_passYear_57 rfl ?_
      refine E_iload d_Ro_passYear_59 rfl ?_
      refine E_V2 (cn1) d_Ro_passYear_61 ml_Ro_104 cb_Mo_canNudge cv_Mo_canNudge (by first | exact hG.s (by decide) rfl) ⟨by decide, rfl⟩ ⟨by decide, by decide⟩ rfl (Nat.le_of_ble_eq_true rfl) (Nat.le_of_ble_eq_true rfl) (kI fun r1 M1 hc => ?_)
      obtain ⟨rfl, rfl⟩ := hc
      first | (with_reducible refine E_isP ?_; refine E_if_eq 75 d_Ro_passYear_64 rfl (pb_0 fun h64 => ?_) (pb_1 fun h64 => ?_)) | (with_reducible refine E_isN1 ?_; refine E_if_eq 75 d_Ro_passYear_64 rfl (nz_eq (by omega) fun h64 => ?_) (nz_ne fun h64 => ?_)) | refine E_if_eq 75 d_Ro_passYear_64 rfl (fun h64 => ?_) (fun h64 => ?_)
      · exfalso; exact h64 hn
      first | refine E_aload_n d_Ro_passYear_67 rfl ?_ | refine E_aload_nN d_Ro_passYear_67 rfl ?_
      refine E_iload d_Ro_passYear_68 rfl ?_
      refine E_iload d_Ro_passYear_70 rfl ?_
      refine E_V2 (s1) d_Ro_passYear_72 ml_Ro_108 cb_Ro_shift cv_Ro_shift (by first | exact hG.s (by decide) rfl) ⟨by decide, rfl⟩ ⟨by decide, by decide⟩ rfl (Nat.le_of_ble_eq_true rfl) (Nat.le_of_ble_eq_true rfl) (kV fun M1 hc => ?_)
      obtain ⟨hC1, hS1⟩ := hc
      refine E_goto 106 d_Ro_passYear_75 rfl ?_
      refine E_retV d_Ro_passYear_106 rfl ?_
      exact ⟨hC1, hS1⟩
    · rw [if_neg hn]
      refine E_istore_2 d_Ro_passYear_4 rfl ?_
      refine E_iload_n d_Ro_passYear_5 rfl ?_
      refine E_bipush (v := nI 6) d_Ro_passYear_6 (by decide) ?_
      first | (with_reducible refine E_isN2 ?_; refine E_iremN d_Ro_passYear_8 (by omega) (by omega) (by omega) ?_) | refine E_irem d_Ro_passYear_8 (by decide) ?_
      refine E_istore_3 d_Ro_passYear_9 rfl ?_
      refine E_iload_n d_Ro_passYear_10 rfl ?_
      refine E_iconst (v := nI 2) d_Ro_passYear_11 rfl ?_
      first | (with_reducible refine E_isN2 ?_; refine E_icmp_ne 25 d_Ro_passYear_12 rfl (nb_ne fun h12 => ?_) (nb_eq (by omega) (by omega) fun h12 => ?_)) | refine E_icmp_ne 25 d_Ro_passYear_12 rfl (fun h12 => ?_) (fun h12 => ?_)
      rotate_left
      · exfalso; omega
      first | refine E_aload_n d_Ro_passYear_25 rfl ?_ | refine E_aload_nN d_Ro_passYear_25 rfl ?_
      refine E_getI d_Ro_passYear_26 gf_Ro_75 (by first | exact hG.s (by decide) rfl) (by first | exact hm.people | exact hm.figure | exact hm.round | rfl) ?_
      refine E_istore_4 d_Ro_passYear_29 rfl ?_
      refine E_iload_n d_Ro_passYear_31 rfl ?_
      refine E_iconst (v := nI 2) d_Ro_passYear_32 rfl ?_
      first | (with_reducible refine E_isN2 ?_; refine E_icmp_ge 78 d_Ro_passYear_33 rfl (nb_le (by omega) (by omega) fun h33 => ?_) (nb_nle (by omega) (by omega) fun h33 => ?_)) | refine E_icmp_ge 78 d_Ro_passYear_33 rfl (fun h33 => ?_) (fun h33 => ?_)
      · exfalso; omega
      refine E_iload_n d_Ro_passYear_36 rfl ?_
      refine E_bipush (v := nI 6) d_Ro_passYear_37 (by decide) ?_
      first | (with_reducible refine E_isN2 ?_; refine E_idivN d_Ro_passYear_39 (by omega) (by omega) (by omega) ?_) | refine E_idiv d_Ro_passYear_39 (by decide) ?_
      refine E_bipush (v := nI 8) d_Ro_passYear_40 (by decide) ?_
      first | (with_reducible refine E_isN2 ?_; refine E_iremN d_Ro_passYear_42 (by omega) (by omega) (by omega) ?_) | refine E_irem d_Ro_passYear_42 (by decide) ?_
      refine E_istore_5 d_Ro_passYear_43 rfl ?_
      refine E_iload_n d_Ro_passYear_45 rfl ?_
      first | (with_reducible refine E_isP ?_; refine E_if_ne 53 d_Ro_passYear_46 rfl (pb_1 fun h46 => ?_) (pb_0 fun h46 => ?_)) | (with_reducible refine E_isN1 ?_; refine E_if_ne 53 d_Ro_passYear_46 rfl (nz_ne fun h46 => ?_) (nz_eq (by omega) fun h46 => ?_)) | refine E_if_ne 53 d_Ro_passYear_46 rfl (fun h46 => ?_) (fun h46 => ?_)
      · exfalso; omega
      refine E_iconst (v := nI 1) d_Ro_passYear_49 rfl ?_
      refine E_goto 54 d_Ro_passYear_50 rfl ?_
      refine E_istore_6 d_Ro_passYear_54 rfl ?_
      first | refine E_aload_n d_Ro_passYear_56 rfl ?_ | refine E_aload_nN d_Ro_passYear_56 rfl ?_
      refine E_iload d_Ro_passYear_57 rfl ?_
      refine E_iload d_Ro_passYear_59 rfl ?_
      refine E_V2 (cn1) d_Ro_passYear_61 ml_Ro_104 cb_Mo_canNudge cv_Mo_canNudge (by first | exact hG.s (by decide) rfl) ⟨by decide, rfl⟩ ⟨by decide, by decide⟩ rfl (Nat.le_of_ble_eq_true rfl) (Nat.le_of_ble_eq_true rfl) (kI fun r1 M1 hc => ?_)
      obtain ⟨rfl, rfl⟩ := hc
      first | (with_reducible refine E_isP ?_; refine E_if_eq 75 d_Ro_passYear_64 rfl (pb_0 fun h64 => ?_) (pb_1 fun h64 => ?_)) | (with_reducible refine E_isN1 ?_; refine E_if_eq 75 d_Ro_passYear_64 rfl (nz_eq (by omega) fun h64 => ?_) (nz_ne fun h64 => ?_)) | refine E_if_eq 75 d_Ro_passYear_64 rfl (fun h64 => ?_) (fun h64 => ?_)
      rotate_left
      · exfalso; exact hn h64
      refine E_goto 106 d_Ro_passYear_75 rfl ?_
      refine E_retV d_Ro_passYear_106 rfl ?_
      exact ⟨hC, Sc.rf⟩
  · by_cases h1 : x % 6 = 1
    · rw [happ, if_neg h0, if_pos h1]
      have cn1 := cn (-1)
      by_cases hn : nudP c (nI (x / 6 % 8)) (-1)
      · rw [if_pos hn]
        have s1 := sh (-1) hn
        refine E_istore_2 d_Ro_passYear_4 rfl ?_
        refine E_iload_n d_Ro_passYear_5 rfl ?_
        refine E_bipush (v := nI 6) d_Ro_passYear_6 (by decide) ?_
        first | (with_reducible refine E_isN2 ?_; refine E_iremN d_Ro_passYear_8 (by omega) (by omega) (by omega) ?_) | refine E_irem d_Ro_passYear_8 (by decide) ?_
        refine E_istore_3 d_Ro_passYear_9 rfl ?_
        refine E_iload_n d_Ro_passYear_10 rfl ?_
        refine E_iconst (v := nI 2) d_Ro_passYear_11 rfl ?_
        first | (with_reducible refine E_isN2 ?_; refine E_icmp_ne 25 d_Ro_passYear_12 rfl (nb_ne fun h12 => ?_) (nb_eq (by omega) (by omega) fun h12 => ?_)) | refine E_icmp_ne 25 d_Ro_passYear_12 rfl (fun h12 => ?_) (fun h12 => ?_)
        rotate_left
        · exfalso; omega
        first | refine E_aload_n d_Ro_passYear_25 rfl ?_ | refine E_aload_nN d_Ro_passYear_25 rfl ?_
        refine E_getI d_Ro_passYear_26 gf_Ro_75 (by first | exact hG.s (by decide) rfl) (by first | exact hm.people | exact hm.figure | exact hm.round | rfl) ?_
        refine E_istore_4 d_Ro_passYear_29 rfl ?_
        refine E_iload_n d_Ro_passYear_31 rfl ?_
        refine E_iconst (v := nI 2) d_Ro_passYear_32 rfl ?_
        first | (with_reducible refine E_isN2 ?_; refine E_icmp_ge 78 d_Ro_passYear_33 rfl (nb_le (by omega) (by omega) fun h33 => ?_) (nb_nle (by omega) (by omega) fun h33 => ?_)) | refine E_icmp_ge 78 d_Ro_passYear_33 rfl (fun h33 => ?_) (fun h33 => ?_)
        · exfalso; omega
        refine E_iload_n d_Ro_passYear_36 rfl ?_
        refine E_bipush (v := nI 6) d_Ro_passYear_37 (by decide) ?_
        first | (with_reducible refine E_isN2 ?_; refine E_idivN d_Ro_passYear_39 (by omega) (by omega) (by omega) ?_) | refine E_idiv d_Ro_passYear_39 (by decide) ?_
        refine E_bipush (v := nI 8) d_Ro_passYear_40 (by decide) ?_
        first | (with_reducible refine E_isN2 ?_; refine E_iremN d_Ro_passYear_42 (by omega) (by omega) (by omega) ?_) | refine E_irem d_Ro_passYear_42 (by decide) ?_
        refine E_istore_5 d_Ro_passYear_43 rfl ?_
        refine E_iload_n d_Ro_passYear_45 rfl ?_
        first | (with_reducible refine E_isP ?_; refine E_if_ne 53 d_Ro_passYear_46 rfl (pb_1 fun h46 => ?_) (pb_0 fun h46 => ?_)) | (with_reducible refine E_isN1 ?_; refine E_if_ne 53 d_Ro_passYear_46 rfl (nz_ne fun h46 => ?_) (nz_eq (by omega) fun h46 => ?_)) | refine E_if_ne 53 d_Ro_passYear_46 rfl (fun h46 => ?_) (fun h46 => ?_)
        rotate_left
        · exfalso; omega
        refine E_iconst (v := (-1)) d_Ro_passYear_53 rfl ?_
        refine E_istore_6 d_Ro_passYear_54 rfl ?_
        first | refine E_aload_n d_Ro_passYear_56 rfl ?_ | refine E_aload_nN d_Ro_passYear_56 rfl ?_
        refine E_iload d_Ro_passYear_57 rfl ?_
        refine E_iload d_Ro_passYear_59 rfl ?_
        refine E_V2 (cn1) d_Ro_passYear_61 ml_Ro_104 cb_Mo_canNudge cv_Mo_canNudge (by first | exact hG.s (by decide) rfl) ⟨by decide, rfl⟩ ⟨by decide, by decide⟩ rfl (Nat.le_of_ble_eq_true rfl) (Nat.le_of_ble_eq_true rfl) (kI fun r1 M1 hc => ?_)
        obtain ⟨rfl, rfl⟩ := hc
        first | (with_reducible refine E_isP ?_; refine E_if_eq 75 d_Ro_passYear_64 rfl (pb_0 fun h64 => ?_) (pb_1 fun h64 => ?_)) | (with_reducible refine E_isN1 ?_; refine E_if_eq 75 d_Ro_passYear_64 rfl (nz_eq (by omega) fun h64 => ?_) (nz_ne fun h64 => ?_)) | refine E_if_eq 75 d_Ro_passYear_64 rfl (fun h64 => ?_) (fun h64 => ?_)
        · exfalso; exact h64 hn
        first | refine E_aload_n d_Ro_passYear_67 rfl ?_ | refine E_aload_nN d_Ro_passYear_67 rfl ?_
        refine E_iload d_Ro_passYear_68 rfl ?_
        refine E_iload d_Ro_passYear_70 rfl ?_
        refine E_V2 (s1) d_Ro_passYear_72 ml_Ro_108 cb_Ro_shift cv_Ro_shift (by first | exact hG.s (by decide) rfl) ⟨by decide, rfl⟩ ⟨by decide, by decide⟩ rfl (Nat.le_of_ble_eq_true rfl) (Nat.le_of_ble_eq_true rfl) (kV fun M1 hc => ?_)
        obtain ⟨hC1, hS1⟩ := hc
        refine E_goto 106 d_Ro_passYear_75 rfl ?_
        refine E_retV d_Ro_passYear_106 rfl ?_
        exact ⟨hC1, hS1⟩
      · rw [if_neg hn]
        refine E_istore_2 d_Ro_passYear_4 rfl ?_
        refine E_iload_n d_Ro_passYear_5 rfl ?_
        refine E_bipush (v := nI 6) d_Ro_passYear_6 (by decide) ?_
        first | (with_reducible refine E_isN2 ?_; refine E_iremN d_Ro_passYear_8 (by omega) (by omega) (by omega) ?_) | refine E_irem d_Ro_passYear_8 (by decide) ?_
        refine E_istore_3 d_Ro_passYear_9 rfl ?_
        refine E_iload_n d_Ro_passYear_10 rfl ?_
        refine E_iconst (v := nI 2) d_Ro_passYear_11 rfl ?_
        first | (with_reducible refine E_isN2 ?_; refine E_icmp_ne 25 d_Ro_passYear_12 rfl (nb_ne fun h12 => ?_) (nb_eq (by omega) (by omega) fun h12 => ?_)) | refine E_icmp_ne 25 d_Ro_passYear_12 rfl (fun h12 => ?_) (fun h12 => ?_)
        rotate_left
        · exfalso; omega
        first | refine E_aload_n d_Ro_passYear_25 rfl ?_ | refine E_aload_nN d_Ro_passYear_25 rfl ?_
        refine E_getI d_Ro_passYear_26 gf_Ro_75 (by first | exact hG.s (by decide) rfl) (by first | exact hm.people | exact hm.figure | exact hm.round | rfl) ?_
        refine E_istore_4 d_Ro_passYear_29 rfl ?_
        refine E_iload_n d_Ro_passYear_31 rfl ?_
        refine E_iconst (v := nI 2) d_Ro_passYear_32 rfl ?_
        first | (with_reducible refine E_isN2 ?_; refine E_icmp_ge 78 d_Ro_passYear_33 rfl (nb_le (by omega) (by omega) fun h33 => ?_) (nb_nle (by omega) (by omega) fun h33 => ?_)) | refine E_icmp_ge 78 d_Ro_passYear_33 rfl (fun h33 => ?_) (fun h33 => ?_)
        · exfalso; omega
        refine E_iload_n d_Ro_passYear_36 rfl ?_
        refine E_bipush (v := nI 6) d_Ro_passYear_37 (by decide) ?_
        first | (with_reducible refine E_isN2 ?_; refine E_idivN d_Ro_passYear_39 (by omega) (by omega) (by omega) ?_) | refine E_idiv d_Ro_passYear_39 (by decide) ?_
        refine E_bipush (v := nI 8) d_Ro_passYear_40 (by decide) ?_
        first | (with_reducible refine E_isN2 ?_; refine E_iremN d_Ro_passYear_42 (by omega) (by omega) (by omega) ?_) | refine E_irem d_Ro_passYear_42 (by decide) ?_
        refine E_istore_5 d_Ro_passYear_43 rfl ?_
        refine E_iload_n d_Ro_passYear_45 rfl ?_
        first | (with_reducible refine E_isP ?_; refine E_if_ne 53 d_Ro_passYear_46 rfl (pb_1 fun h46 => ?_) (pb_0 fun h46 => ?_)) | (with_reducible refine E_isN1 ?_; refine E_if_ne 53 d_Ro_passYear_46 rfl (nz_ne fun h46 => ?_) (nz_eq (by omega) fun h46 => ?_)) | refine E_if_ne 53 d_Ro_passYear_46 rfl (fun h46 => ?_) (fun h46 => ?_)
        rotate_left
        · exfalso; omega
        refine E_iconst (v := (-1)) d_Ro_passYear_53 rfl ?_
        refine E_istore_6 d_Ro_passYear_54 rfl ?_
        first | refine E_aload_n d_Ro_passYear_56 rfl ?_ | refine E_aload_nN d_Ro_passYear_56 rfl ?_
        refine E_iload d_Ro_passYear_57 rfl ?_
        refine E_iload d_Ro_passYear_59 rfl ?_
        refine E_V2 (cn1) d_Ro_passYear_61 ml_Ro_104 cb_Mo_canNudge cv_Mo_canNudge (by first | exact hG.s (by decide) rfl) ⟨by decide, rfl⟩ ⟨by decide, by decide⟩ rfl (Nat.le_of_ble_eq_true rfl) (Nat.le_of_ble_eq_true rfl) (kI fun r1 M1 hc => ?_)
        obtain ⟨rfl, rfl⟩ := hc
        first | (with_reducible refine E_isP ?_; refine E_if_eq 75 d_Ro_passYear_64 rfl (pb_0 fun h64 => ?_) (pb_1 fun h64 => ?_)) | (with_reducible refine E_isN1 ?_; refine E_if_eq 75 d_Ro_passYear_64 rfl (nz_eq (by omega) fun h64 => ?_) (nz_ne fun h64 => ?_)) | refine E_if_eq 75 d_Ro_passYear_64 rfl (fun h64 => ?_) (fun h64 => ?_)
        rotate_left
        · exfalso; exact hn h64
        refine E_goto 106 d_Ro_passYear_75 rfl ?_
        refine E_retV d_Ro_passYear_106 rfl ?_
        exact ⟨hC, Sc.rf⟩
    · by_cases h2 : x % 6 = 2
      · rw [happ, if_neg h0, if_neg h1, if_pos h2]
        have ct := sp_Mo_canTell hG ad2 hm hw.mo (nI (x / 6 % 9))
        by_cases h4 : x % 4 = 2
        · by_cases hn : inN (nI (x / 6 % 9)) (c.now.people + 1) ∧ c.now.round < 9999
          · have hle := (inN_nI (by omega)).mp hn.1
            rw [if_pos ⟨h4, by omega, hn.2⟩]
            refine E_istore_2 d_Ro_passYear_4 rfl ?_
            refine E_iload_n d_Ro_passYear_5 rfl ?_
            refine E_bipush (v := nI 6) d_Ro_passYear_6 (by decide) ?_
            first | (with_reducible refine E_isN2 ?_; refine E_iremN d_Ro_passYear_8 (by omega) (by omega) (by omega) ?_) | refine E_irem d_Ro_passYear_8 (by decide) ?_
            refine E_istore_3 d_Ro_passYear_9 rfl ?_
            refine E_iload_n d_Ro_passYear_10 rfl ?_
            refine E_iconst (v := nI 2) d_Ro_passYear_11 rfl ?_
            first | (with_reducible refine E_isN2 ?_; refine E_icmp_ne 25 d_Ro_passYear_12 rfl (nb_ne fun h12 => ?_) (nb_eq (by omega) (by omega) fun h12 => ?_)) | refine E_icmp_ne 25 d_Ro_passYear_12 rfl (fun h12 => ?_) (fun h12 => ?_)
            · exfalso; omega
            refine E_iload_n d_Ro_passYear_15 rfl ?_
            refine E_bipush (v := nI 6) d_Ro_passYear_16 (by decide) ?_
            first | (with_reducible refine E_isN2 ?_; refine E_idivN d_Ro_passYear_18 (by omega) (by omega) (by omega) ?_) | refine E_idiv d_Ro_passYear_18 (by decide) ?_
            refine E_bipush (v := nI 9) d_Ro_passYear_19 (by decide) ?_
            first | (with_reducible refine E_isN2 ?_; refine E_iremN d_Ro_passYear_21 (by omega) (by omega) (by omega) ?_) | refine E_irem d_Ro_passYear_21 (by decide) ?_
            refine E_goto 29 d_Ro_passYear_22 rfl ?_
            refine E_istore_4 d_Ro_passYear_29 rfl ?_
            refine E_iload_n d_Ro_passYear_31 rfl ?_
            refine E_iconst (v := nI 2) d_Ro_passYear_32 rfl ?_
            first | (with_reducible refine E_isN2 ?_; refine E_icmp_ge 78 d_Ro_passYear_33 rfl (nb_le (by omega) (by omega) fun h33 => ?_) (nb_nle (by omega) (by omega) fun h33 => ?_)) | refine E_icmp_ge 78 d_Ro_passYear_33 rfl (fun h33 => ?_) (fun h33 => ?_)
            rotate_left
            · exfalso; omega
            refine E_iload_n d_Ro_passYear_78 rfl ?_
            refine E_iconst (v := nI 2) d_Ro_passYear_79 rfl ?_
            first | (with_reducible refine E_isN2 ?_; refine E_icmp_gt 90 d_Ro_passYear_80 rfl (nb_lt (by omega) (by omega) fun h80 => ?_) (nb_nlt (by omega) (by omega) fun h80 => ?_)) | refine E_icmp_gt 90 d_Ro_passYear_80 rfl (fun h80 => ?_) (fun h80 => ?_)
            · exfalso; omega
            refine E_iload_n d_Ro_passYear_83 rfl ?_
            refine E_iconst (v := nI 4) d_Ro_passYear_84 rfl ?_
            first | (with_reducible refine E_isN2 ?_; refine E_iremN d_Ro_passYear_85 (by omega) (by omega) (by omega) ?_) | refine E_irem d_Ro_passYear_85 (by decide) ?_
            refine E_iconst (v := nI 2) d_Ro_passYear_86 rfl ?_
            first | (with_reducible refine E_isN2 ?_; refine E_icmp_ne 106 d_Ro_passYear_87 rfl (nb_ne fun h87 => ?_) (nb_eq (by omega) (by omega) fun h87 => ?_)) | refine E_icmp_ne 106 d_Ro_passYear_87 rfl (fun h87 => ?_) (fun h87 => ?_)
            · exfalso; omega
            first | refine E_aload_n d_Ro_passYear_90 rfl ?_ | refine E_aload_nN d_Ro_passYear_90 rfl ?_
            refine E_iload d_Ro_passYear_91 rfl ?_
            refine E_V1 (ct) d_Ro_passYear_93 ml_Ro_100 cb_Mo_canTell cv_Mo_canTell (by first | exact hG.s (by decide) rfl) ⟨by decide, rfl⟩ ⟨by decide, by decide⟩ rfl (Nat.le_of_ble_eq_true rfl) (Nat.le_of_ble_eq_true rfl) (kI fun r1 M1 hc => ?_)
            obtain ⟨rfl, rfl⟩ := hc
            first | (with_reducible refine E_isP ?_; refine E_if_eq 106 d_Ro_passYear_96 rfl (pb_0 fun h96 => ?_) (pb_1 fun h96 => ?_)) | (with_reducible refine E_isN1 ?_; refine E_if_eq 106 d_Ro_passYear_96 rfl (nz_eq (by omega) fun h96 => ?_) (nz_ne fun h96 => ?_)) | refine E_if_eq 106 d_Ro_passYear_96 rfl (fun h96 => ?_) (fun h96 => ?_)
            · exfalso; exact h96 hn
            first | refine E_aload_n d_Ro_passYear_99 rfl ?_ | refine E_aload_nN d_Ro_passYear_99 rfl ?_
            first | refine E_aload_n d_Ro_passYear_100 rfl ?_ | refine E_aload_nN d_Ro_passYear_100 rfl ?_
            refine E_iload d_Ro_passYear_101 rfl ?_
            refine E_V2 (sp_Ro_passNow hC (by omega) hn.2) d_Ro_passYear_103 ml_Ro_89 cb_Ro_pass cv_Ro_pass (by first | exact hG.s (by decide) rfl) ⟨by decide, rfl⟩ ⟨by decide, by decide⟩ rfl (Nat.le_of_ble_eq_true rfl) (Nat.le_of_ble_eq_true rfl) (kV fun M1 hc => ?_)
            obtain ⟨hC1, hS1⟩ := hc
            refine E_retV d_Ro_passYear_106 rfl ?_
            exact ⟨hC1, hS1⟩
          · rw [if_neg (fun q => hn ⟨(inN_nI (by omega)).mpr (by omega), q.2.2⟩)]
            refine E_istore_2 d_Ro_passYear_4 rfl ?_
            refine E_iload_n d_Ro_passYear_5 rfl ?_
            refine E_bipush (v := nI 6) d_Ro_passYear_6 (by decide) ?_
            first | (with_reducible refine E_isN2 ?_; refine E_iremN d_Ro_passYear_8 (by omega) (by omega) (by omega) ?_) | refine E_irem d_Ro_passYear_8 (by decide) ?_
            refine E_istore_3 d_Ro_passYear_9 rfl ?_
            refine E_iload_n d_Ro_passYear_10 rfl ?_
            refine E_iconst (v := nI 2) d_Ro_passYear_11 rfl ?_
            first | (with_reducible refine E_isN2 ?_; refine E_icmp_ne 25 d_Ro_passYear_12 rfl (nb_ne fun h12 => ?_) (nb_eq (by omega) (by omega) fun h12 => ?_)) | refine E_icmp_ne 25 d_Ro_passYear_12 rfl (fun h12 => ?_) (fun h12 => ?_)
            · exfalso; omega
            refine E_iload_n d_Ro_passYear_15 rfl ?_
            refine E_bipush (v := nI 6) d_Ro_passYear_16 (by decide) ?_
            first | (with_reducible refine E_isN2 ?_; refine E_idivN d_Ro_passYear_18 (by omega) (by omega) (by omega) ?_) | refine E_idiv d_Ro_passYear_18 (by decide) ?_
            refine E_bipush (v := nI 9) d_Ro_passYear_19 (by decide) ?_
            first | (with_reducible refine E_isN2 ?_; refine E_iremN d_Ro_passYear_21 (by omega) (by omega) (by omega) ?_) | refine E_irem d_Ro_passYear_21 (by decide) ?_
            refine E_goto 29 d_Ro_passYear_22 rfl ?_
            refine E_istore_4 d_Ro_passYear_29 rfl ?_
            refine E_iload_n d_Ro_passYear_31 rfl ?_
            refine E_iconst (v := nI 2) d_Ro_passYear_32 rfl ?_
            first | (with_reducible refine E_isN2 ?_; refine E_icmp_ge 78 d_Ro_passYear_33 rfl (nb_le (by omega) (by omega) fun h33 => ?_) (nb_nle (by omega) (by omega) fun h33 => ?_)) | refine E_icmp_ge 78 d_Ro_passYear_33 rfl (fun h33 => ?_) (fun h33 => ?_)
            rotate_left
            · exfalso; omega
            refine E_iload_n d_Ro_passYear_78 rfl ?_
            refine E_iconst (v := nI 2) d_Ro_passYear_79 rfl ?_
            first | (with_reducible refine E_isN2 ?_; refine E_icmp_gt 90 d_Ro_passYear_80 rfl (nb_lt (by omega) (by omega) fun h80 => ?_) (nb_nlt (by omega) (by omega) fun h80 => ?_)) | refine E_icmp_gt 90 d_Ro_passYear_80 rfl (fun h80 => ?_) (fun h80 => ?_)
            · exfalso; omega
            refine E_iload_n d_Ro_passYear_83 rfl ?_
            refine E_iconst (v := nI 4) d_Ro_passYear_84 rfl ?_
            first | (with_reducible refine E_isN2 ?_; refine E_iremN d_Ro_passYear_85 (by omega) (by omega) (by omega) ?_) | refine E_irem d_Ro_passYear_85 (by decide) ?_
            refine E_iconst (v := nI 2) d_Ro_passYear_86 rfl ?_
            first | (with_reducible refine E_isN2 ?_; refine E_icmp_ne 106 d_Ro_passYear_87 rfl (nb_ne fun h87 => ?_) (nb_eq (by omega) (by omega) fun h87 => ?_)) | refine E_icmp_ne 106 d_Ro_passYear_87 rfl (fun h87 => ?_) (fun h87 => ?_)
            · exfalso; omega
            first | refine E_aload_n d_Ro_passYear_90 rfl ?_ | refine E_aload_nN d_Ro_passYear_90 rfl ?_
            refine E_iload d_Ro_passYear_91 rfl ?_
            refine E_V1 (ct) d_Ro_passYear_93 ml_Ro_100 cb_Mo_canTell cv_Mo_canTell (by first | exact hG.s (by decide) rfl) ⟨by decide, rfl⟩ ⟨by decide, by decide⟩ rfl (Nat.le_of_ble_eq_true rfl) (Nat.le_of_ble_eq_true rfl) (kI fun r1 M1 hc => ?_)
            obtain ⟨rfl, rfl⟩ := hc
            first | (with_reducible refine E_isP ?_; refine E_if_eq 106 d_Ro_passYear_96 rfl (pb_0 fun h96 => ?_) (pb_1 fun h96 => ?_)) | (with_reducible refine E_isN1 ?_; refine E_if_eq 106 d_Ro_passYear_96 rfl (nz_eq (by omega) fun h96 => ?_) (nz_ne fun h96 => ?_)) | refine E_if_eq 106 d_Ro_passYear_96 rfl (fun h96 => ?_) (fun h96 => ?_)
            rotate_left
            · exfalso; exact hn h96
            refine E_retV d_Ro_passYear_106 rfl ?_
            exact ⟨hC, Sc.rf⟩
        · rw [if_neg (fun q => h4 q.1)]
          refine E_istore_2 d_Ro_passYear_4 rfl ?_
          refine E_iload_n d_Ro_passYear_5 rfl ?_
          refine E_bipush (v := nI 6) d_Ro_passYear_6 (by decide) ?_
          first | (with_reducible refine E_isN2 ?_; refine E_iremN d_Ro_passYear_8 (by omega) (by omega) (by omega) ?_) | refine E_irem d_Ro_passYear_8 (by decide) ?_
          refine E_istore_3 d_Ro_passYear_9 rfl ?_
          refine E_iload_n d_Ro_passYear_10 rfl ?_
          refine E_iconst (v := nI 2) d_Ro_passYear_11 rfl ?_
          first | (with_reducible refine E_isN2 ?_; refine E_icmp_ne 25 d_Ro_passYear_12 rfl (nb_ne fun h12 => ?_) (nb_eq (by omega) (by omega) fun h12 => ?_)) | refine E_icmp_ne 25 d_Ro_passYear_12 rfl (fun h12 => ?_) (fun h12 => ?_)
          · exfalso; omega
          refine E_iload_n d_Ro_passYear_15 rfl ?_
          refine E_bipush (v := nI 6) d_Ro_passYear_16 (by decide) ?_
          first | (with_reducible refine E_isN2 ?_; refine E_idivN d_Ro_passYear_18 (by omega) (by omega) (by omega) ?_) | refine E_idiv d_Ro_passYear_18 (by decide) ?_
          refine E_bipush (v := nI 9) d_Ro_passYear_19 (by decide) ?_
          first | (with_reducible refine E_isN2 ?_; refine E_iremN d_Ro_passYear_21 (by omega) (by omega) (by omega) ?_) | refine E_irem d_Ro_passYear_21 (by decide) ?_
          refine E_goto 29 d_Ro_passYear_22 rfl ?_
          refine E_istore_4 d_Ro_passYear_29 rfl ?_
          refine E_iload_n d_Ro_passYear_31 rfl ?_
          refine E_iconst (v := nI 2) d_Ro_passYear_32 rfl ?_
          first | (with_reducible refine E_isN2 ?_; refine E_icmp_ge 78 d_Ro_passYear_33 rfl (nb_le (by omega) (by omega) fun h33 => ?_) (nb_nle (by omega) (by omega) fun h33 => ?_)) | refine E_icmp_ge 78 d_Ro_passYear_33 rfl (fun h33 => ?_) (fun h33 => ?_)
          rotate_left
          · exfalso; omega
          refine E_iload_n d_Ro_passYear_78 rfl ?_
          refine E_iconst (v := nI 2) d_Ro_passYear_79 rfl ?_
          first | (with_reducible refine E_isN2 ?_; refine E_icmp_gt 90 d_Ro_passYear_80 rfl (nb_lt (by omega) (by omega) fun h80 => ?_) (nb_nlt (by omega) (by omega) fun h80 => ?_)) | refine E_icmp_gt 90 d_Ro_passYear_80 rfl (fun h80 => ?_) (fun h80 => ?_)
          · exfalso; omega
          refine E_iload_n d_Ro_passYear_83 rfl ?_
          refine E_iconst (v := nI 4) d_Ro_passYear_84 rfl ?_
          first | (with_reducible refine E_isN2 ?_; refine E_iremN d_Ro_passYear_85 (by omega) (by omega) (by omega) ?_) | refine E_irem d_Ro_passYear_85 (by decide) ?_
          refine E_iconst (v := nI 2) d_Ro_passYear_86 rfl ?_
          first | (with_reducible refine E_isN2 ?_; refine E_icmp_ne 106 d_Ro_passYear_87 rfl (nb_ne fun h87 => ?_) (nb_eq (by omega) (by omega) fun h87 => ?_)) | refine E_icmp_ne 106 d_Ro_passYear_87 rfl (fun h87 => ?_) (fun h87 => ?_)
          rotate_left
          · exfalso; omega
          refine E_retV d_Ro_passYear_106 rfl ?_
          exact ⟨hC, Sc.rf⟩
      · rw [happ, if_neg h0, if_neg h1, if_neg h2]
        have ct := sp_Mo_canTell hG ad2 hm hw.mo (nI c.now.figure)
        have hin : inN (nI c.now.figure) (c.now.people + 1) := (inN_nI (by omega)).mpr (by omega)
        by_cases hr : c.now.round < 9999
        · rw [if_pos hr]
          refine E_istore_2 d_Ro_passYear_4 rfl ?_
          refine E_iload_n d_Ro_passYear_5 rfl ?_
          refine E_bipush (v := nI 6) d_Ro_passYear_6 (by decide) ?_
          first | (with_reducible refine E_isN2 ?_; refine E_iremN d_Ro_passYear_8 (by omega) (by omega) (by omega) ?_) | refine E_irem d_Ro_passYear_8 (by decide) ?_
          refine E_istore_3 d_Ro_passYear_9 rfl ?_
          refine E_iload_n d_Ro_passYear_10 rfl ?_
          refine E_iconst (v := nI 2) d_Ro_passYear_11 rfl ?_
          first | (with_reducible refine E_isN2 ?_; refine E_icmp_ne 25 d_Ro_passYear_12 rfl (nb_ne fun h12 => ?_) (nb_eq (by omega) (by omega) fun h12 => ?_)) | refine E_icmp_ne 25 d_Ro_passYear_12 rfl (fun h12 => ?_) (fun h12 => ?_)
          rotate_left
          · exfalso; omega
          first | refine E_aload_n d_Ro_passYear_25 rfl ?_ | refine E_aload_nN d_Ro_passYear_25 rfl ?_
          refine E_getI d_Ro_passYear_26 gf_Ro_75 (by first | exact hG.s (by decide) rfl) (by first | exact hm.people | exact hm.figure | exact hm.round | rfl) ?_
          refine E_istore_4 d_Ro_passYear_29 rfl ?_
          refine E_iload_n d_Ro_passYear_31 rfl ?_
          refine E_iconst (v := nI 2) d_Ro_passYear_32 rfl ?_
          first | (with_reducible refine E_isN2 ?_; refine E_icmp_ge 78 d_Ro_passYear_33 rfl (nb_le (by omega) (by omega) fun h33 => ?_) (nb_nle (by omega) (by omega) fun h33 => ?_)) | refine E_icmp_ge 78 d_Ro_passYear_33 rfl (fun h33 => ?_) (fun h33 => ?_)
          rotate_left
          · exfalso; omega
          refine E_iload_n d_Ro_passYear_78 rfl ?_
          refine E_iconst (v := nI 2) d_Ro_passYear_79 rfl ?_
          first | (with_reducible refine E_isN2 ?_; refine E_icmp_gt 90 d_Ro_passYear_80 rfl (nb_lt (by omega) (by omega) fun h80 => ?_) (nb_nlt (by omega) (by omega) fun h80 => ?_)) | refine E_icmp_gt 90 d_Ro_passYear_80 rfl (fun h80 => ?_) (fun h80 => ?_)
          rotate_left
          · exfalso; omega
          first | refine E_aload_n d_Ro_passYear_90 rfl ?_ | refine E_aload_nN d_Ro_passYear_90 rfl ?_
          refine E_iload d_Ro_passYear_91 rfl ?_
          refine E_V1 (ct) d_Ro_passYear_93 ml_Ro_100 cb_Mo_canTell cv_Mo_canTell (by first | exact hG.s (by decide) rfl) ⟨by decide, rfl⟩ ⟨by decide, by decide⟩ rfl (Nat.le_of_ble_eq_true rfl) (Nat.le_of_ble_eq_true rfl) (kI fun r1 M1 hc => ?_)
          obtain ⟨rfl, rfl⟩ := hc
          first | (with_reducible refine E_isP ?_; refine E_if_eq 106 d_Ro_passYear_96 rfl (pb_0 fun h96 => ?_) (pb_1 fun h96 => ?_)) | (with_reducible refine E_isN1 ?_; refine E_if_eq 106 d_Ro_passYear_96 rfl (nz_eq (by omega) fun h96 => ?_) (nz_ne fun h96 => ?_)) | refine E_if_eq 106 d_Ro_passYear_96 rfl (fun h96 => ?_) (fun h96 => ?_)
          · exfalso; exact h96 ⟨hin, hr⟩
          first | refine E_aload_n d_Ro_passYear_99 rfl ?_ | refine E_aload_nN d_Ro_passYear_99 rfl ?_
          first | refine E_aload_n d_Ro_passYear_100 rfl ?_ | refine E_aload_nN d_Ro_passYear_100 rfl ?_
          refine E_iload d_Ro_passYear_101 rfl ?_
          refine E_V2 (sp_Ro_passNow hC hf8 hr) d_Ro_passYear_103 ml_Ro_89 cb_Ro_pass cv_Ro_pass (by first | exact hG.s (by decide) rfl) ⟨by decide, rfl⟩ ⟨by decide, by decide⟩ rfl (Nat.le_of_ble_eq_true rfl) (Nat.le_of_ble_eq_true rfl) (kV fun M1 hc => ?_)
          obtain ⟨hC1, hS1⟩ := hc
          refine E_retV d_Ro_passYear_106 rfl ?_
          exact ⟨hC1, hS1⟩
        · rw [if_neg hr]
          refine E_istore_2 d_Ro_passYear_4 rfl ?_
          refine E_iload_n d_Ro_passYear_5 rfl ?_
          refine E_bipush (v := nI 6) d_Ro_passYear_6 (by decide) ?_
          first | (with_reducible refine E_isN2 ?_; refine E_iremN d_Ro_passYear_8 (by omega) (by omega) (by omega) ?_) | refine E_irem d_Ro_passYear_8 (by decide) ?_
          refine E_istore_3 d_Ro_passYear_9 rfl ?_
          refine E_iload_n d_Ro_passYear_10 rfl ?_
          refine E_iconst (v := nI 2) d_Ro_passYear_11 rfl ?_
          first | (with_reducible refine E_isN2 ?_; refine E_icmp_ne 25 d_Ro_passYear_12 rfl (nb_ne fun h12 => ?_) (nb_eq (by omega) (by omega) fun h12 => ?_)) | refine E_icmp_ne 25 d_Ro_passYear_12 rfl (fun h12 => ?_) (fun h12 => ?_)
          rotate_left
          · exfalso; omega
          first | refine E_aload_n d_Ro_passYear_25 rfl ?_ | refine E_aload_nN d_Ro_passYear_25 rfl ?_
          refine E_getI d_Ro_passYear_26 gf_Ro_75 (by first | exact hG.s (by decide) rfl) (by first | exact hm.people | exact hm.figure | exact hm.round | rfl) ?_
          refine E_istore_4 d_Ro_passYear_29 rfl ?_
          refine E_iload_n d_Ro_passYear_31 rfl ?_
          refine E_iconst (v := nI 2) d_Ro_passYear_32 rfl ?_
          first | (with_reducible refine E_isN2 ?_; refine E_icmp_ge 78 d_Ro_passYear_33 rfl (nb_le (by omega) (by omega) fun h33 => ?_) (nb_nle (by omega) (by omega) fun h33 => ?_)) | refine E_icmp_ge 78 d_Ro_passYear_33 rfl (fun h33 => ?_) (fun h33 => ?_)
          rotate_left
          · exfalso; omega
          refine E_iload_n d_Ro_passYear_78 rfl ?_
          refine E_iconst (v := nI 2) d_Ro_passYear_79 rfl ?_
          first | (with_reducible refine E_isN2 ?_; refine E_icmp_gt 90 d_Ro_passYear_80 rfl (nb_lt (by omega) (by omega) fun h80 => ?_) (nb_nlt (by omega) (by omega) fun h80 => ?_)) | refine E_icmp_gt 90 d_Ro_passYear_80 rfl (fun h80 => ?_) (fun h80 => ?_)
          rotate_left
          · exfalso; omega
          first | refine E_aload_n d_Ro_passYear_90 rfl ?_ | refine E_aload_nN d_Ro_passYear_90 rfl ?_
          refine E_iload d_Ro_passYear_91 rfl ?_
          refine E_V1 (ct) d_Ro_passYear_93 ml_Ro_100 cb_Mo_canTell cv_Mo_canTell (by first | exact hG.s (by decide) rfl) ⟨by decide, rfl⟩ ⟨by decide, by decide⟩ rfl (Nat.le_of_ble_eq_true rfl) (Nat.le_of_ble_eq_true rfl) (kI fun r1 M1 hc => ?_)
          obtain ⟨rfl, rfl⟩ := hc
          first | (with_reducible refine E_isP ?_; refine E_if_eq 106 d_Ro_passYear_96 rfl (pb_0 fun h96 => ?_) (pb_1 fun h96 => ?_)) | (with_reducible refine E_isN1 ?_; refine E_if_eq 106 d_Ro_passYear_96 rfl (nz_eq (by omega) fun h96 => ?_) (nz_ne fun h96 => ?_)) | refine E_if_eq 106 d_Ro_passYear_96 rfl (fun h96 => ?_) (fun h96 => ?_)
          rotate_left
          · exfalso; exact hr h96.2
          refine E_retV d_Ro_passYear_106 rfl ?_
          exact ⟨hC, Sc.rf⟩
end CMk
