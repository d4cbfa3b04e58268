theorem sayK1 {z : Int} (hz : zM z) : iI z ≤ 0 → nI 0 = pI (decide (0 < z) = true) := fun h => (pI_f (fun q => by
  have h2 := of_decide_eq_true q
  rw [le_toInt, iI_toInt ⟨by have := hz.1; omega, by have := hz.2; omega⟩, z32] at h
  omega)).symm
theorem sayK2 {z : Int} (hz : zM z) : ¬ iI z ≤ 0 → nI 1 = pI (decide (0 < z) = true) := fun h => (pI_t (decide_eq_true (Decidable.byContradiction fun q => h (by
  rw [le_toInt, iI_toInt ⟨by have := hz.1; omega, by have := hz.2; omega⟩, z32]
  omega)))).symm
theorem Sx.sa {M M' : Mem} (h : Sx S213 M M') : Sc SA M M' := h.sc.wk fun _ q => Or.inr q
theorem sp_As_saysYes {c : Cr} {m : Mo} {ma p f : Nat} {t : Option Tx} {r : Option Nat} {G : Geo} {M : Mem} (hA : AB c m ma G M) (hL : LawV t r G M) (hp : p < m.people) (hf : f ≤ 8) : E 3 0 0 Y_As_saysYes 0 [some (.ref 212), some (.ref ma), some (oV r), some (.int (nI p)), some (.int (nI f))] [] G M (QI G fun r M' => r = pI (isYes c m t p f = true) ∧ Sc SA M M') := by
  have hG := hA.1.G
  have hR := hA.1.R
  have hma := hA.2.1
  have hK := hA.ak hp hf (y := 0) (by decide)
  have hX := askM_sc M ma p f 0
  cases r with
  | none =>
    cases t with
    | some x => exact absurd hL (fun h => h)
    | none =>
      have e : isYes c m none p f = bySort c m p f := rfl
      rw [e]
      show E _ _ _ _ _ [some (.ref 212), some (.ref ma), some .null, some (.int (nI p)), some (.int (nI f))] _ _ _ _
      first | refine E_aload_n d_As_saysYes_0 rfl ?_ | refine E_aload_nN d_As_saysYes_0 rfl ?_
      first | refine E_aload_n d_As_saysYes_1 rfl ?_ | refine E_aload_nN d_As_saysYes_1 rfl ?_
      refine E_putR d_As_saysYes_2 gf_As_25 (by first | exact hG.s (by decide) rfl | exact hG.m hma | exact hG.m1 hma | exact hs0) rfl rfl ?_
      first | refine E_aload_n d_As_saysYes_5 rfl ?_ | refine E_aload_nN d_As_saysYes_5 rfl ?_
      refine E_iload_n d_As_saysYes_6 rfl ?_
      refine E_putI d_As_saysYes_7 gf_As_38 (by first | exact hG.s (by decide) rfl | exact hG.m hma | exact hG.m1 hma | exact hs0) rfl rfl ?_
      first | refine E_aload_n d_As_saysYes_10 rfl ?_ | refine E_aload_nN d_As_saysYes_10 rfl ?_
      refine E_iload d_As_saysYes_11 rfl ?_
      refine E_putI d_As_saysYes_13 gf_As_41 (by first | exact hG.s (by decide) rfl | exact hG.m hma | exact hG.m1 hma | exact hs0) rfl rfl ?_
      first | refine E_aload_n d_As_saysYes_16 rfl ?_ | refine E_aload_nN d_As_saysYes_16 rfl ?_
      refine E_iconst (v := nI 0) d_As_saysYes_17 rfl ?_
      refine E_putI d_As_saysYes_18 gf_As_44 (by first | exact hG.s (by decide) rfl | exact hG.m hma | exact hG.m1 hma | exact hs0) rfl rfl ?_
      first | refine E_aload_n d_As_saysYes_21 rfl ?_ | refine E_aload_nN d_As_saysYes_21 rfl ?_
      refine E_ifnullN 33 d_As_saysYes_22 rfl ?_
      first | refine E_aload_n d_As_saysYes_33 rfl ?_ | refine E_aload_nN d_As_saysYes_33 rfl ?_
      refine E_V0 (sp_As_saysBySort hK) d_As_saysYes_34 ml_As_52 cb_As_saysBySort cv_As_saysBySort (by first | exact hG.s (by decide) rfl | exact hG.m hma | exact hG.m1 hma | exact hs0) ⟨by decide, rfl⟩ ⟨by decide, by decide⟩ rfl (Nat.le_of_ble_eq_true rfl) (Nat.le_of_ble_eq_true rfl) (kI fun r1 M1 hc => ?_)
      obtain ⟨rfl, rfl⟩ := hc
      refine E_retZ d_As_saysYes_37 rfl (by first | exact pI_01 _ | decide) ?_
      exact ⟨rfl, hX⟩
  | some la =>
    cases t with
    | none => exact absurd hL (fun h => h)
    | some x =>
      have hrep : RepTxC x la G M := hL
      have hs0 := hrep.2.1
      obtain ⟨kk, hW, hsy, -⟩ := (hrep.sc hX (fun _ => SA.lt)).wk hK
      show E _ _ _ _ _ [some (.ref 212), some (.ref ma), some (.ref la), some (.int (nI p)), some (.int (nI f))] _ _ _ _
      have e0 : isYes c m (some x) p f = match x.says with | none => bySort c m p f | some q => decide (0 < worthR q.1 (nmOf c m p f 0) m) := rfl
      rw [e0]
      revert hsy
      cases x.says with
      | none =>
        intro hsy
        have e5 : mI (askM M ma p f 0) la 5 = -1 := hsy
        first | refine E_aload_n d_As_saysYes_0 rfl ?_ | refine E_aload_nN d_As_saysYes_0 rfl ?_
        first | refine E_aload_n d_As_saysYes_1 rfl ?_ | refine E_aload_nN d_As_saysYes_1 rfl ?_
        refine E_putR d_As_saysYes_2 gf_As_25 (by first | exact hG.s (by decide) rfl | exact hG.m hma | exact hG.m1 hma | exact hs0) rfl rfl ?_
        first | refine E_aload_n d_As_saysYes_5 rfl ?_ | refine E_aload_nN d_As_saysYes_5 rfl ?_
        refine E_iload_n d_As_saysYes_6 rfl ?_
        refine E_putI d_As_saysYes_7 gf_As_38 (by first | exact hG.s (by decide) rfl | exact hG.m hma | exact hG.m1 hma | exact hs0) rfl rfl ?_
        first | refine E_aload_n d_As_saysYes_10 rfl ?_ | refine E_aload_nN d_As_saysYes_10 rfl ?_
        refine E_iload d_As_saysYes_11 rfl ?_
        refine E_putI d_As_saysYes_13 gf_As_41 (by first | exact hG.s (by decide) rfl | exact hG.m hma | exact hG.m1 hma | exact hs0) rfl rfl ?_
        first | refine E_aload_n d_As_saysYes_16 rfl ?_ | refine E_aload_nN d_As_saysYes_16 rfl ?_
        refine E_iconst (v := nI 0) d_As_saysYes_17 rfl ?_
        refine E_putI d_As_saysYes_18 gf_As_44 (by first | exact hG.s (by decide) rfl | exact hG.m hma | exact hG.m1 hma | exact hs0) rfl rfl ?_
        first | refine E_aload_n d_As_saysYes_21 rfl ?_ | refine E_aload_nN d_As_saysYes_21 rfl ?_
        refine E_ifnullR d_As_saysYes_22 ?_
        first | refine E_aload_n d_As_saysYes_25 rfl ?_ | refine E_aload_nN d_As_saysYes_25 rfl ?_
        refine E_getI d_As_saysYes_26 gf_As_47 (by first | exact hG.s (by decide) rfl | exact hG.m hma | exact hG.m1 hma | exact hs0) (by exact e5) ?_
        refine E_iconst (v := (-1)) d_As_saysYes_29 rfl ?_
        first | (with_reducible refine E_isN2 ?_; refine E_icmp_ne 38 d_As_saysYes_30 rfl (nb_ne fun h30 => ?_) (nb_eq (by omega) (by omega) fun h30 => ?_)) | refine E_icmp_ne 38 d_As_saysYes_30 rfl (fun h30 => ?_) (fun h30 => ?_)
        · exfalso; exact h30 rfl
        first | refine E_aload_n d_As_saysYes_33 rfl ?_ | refine E_aload_nN d_As_saysYes_33 rfl ?_
        refine E_V0 (sp_As_saysBySort hK) d_As_saysYes_34 ml_As_52 cb_As_saysBySort cv_As_saysBySort (by first | exact hG.s (by decide) rfl | exact hG.m hma | exact hG.m1 hma | exact hs0) ⟨by decide, rfl⟩ ⟨by decide, by decide⟩ rfl (Nat.le_of_ble_eq_true rfl) (Nat.le_of_ble_eq_true rfl) (kI fun r1 M1 hc => ?_)
        obtain ⟨rfl, rfl⟩ := hc
        refine E_retZ d_As_saysYes_37 rfl (by first | exact pI_01 _ | decide) ?_
        exact ⟨rfl, hX⟩
      | some q =>
        intro hsy
        obtain ⟨b, e5, e6, hbk, hvc, hseg⟩ := hsy
        have hkk := hW.2.2.2.2.2.1
        first | refine E_aload_n d_As_saysYes_0 rfl ?_ | refine E_aload_nN d_As_saysYes_0 rfl ?_
        first | refine E_aload_n d_As_saysYes_1 rfl ?_ | refine E_aload_nN d_As_saysYes_1 rfl ?_
        refine E_putR d_As_saysYes_2 gf_As_25 (by first | exact hG.s (by decide) rfl | exact hG.m hma | exact hG.m1 hma | exact hs0) rfl rfl ?_
        first | refine E_aload_n d_As_saysYes_5 rfl ?_ | refine E_aload_nN d_As_saysYes_5 rfl ?_
        refine E_iload_n d_As_saysYes_6 rfl ?_
        refine E_putI d_As_saysYes_7 gf_As_38 (by first | exact hG.s (by decide) rfl | exact hG.m hma | exact hG.m1 hma | exact hs0) rfl rfl ?_
        first | refine E_aload_n d_As_saysYes_10 rfl ?_ | refine E_aload_nN d_As_saysYes_10 rfl ?_
        refine E_iload d_As_saysYes_11 rfl ?_
        refine E_putI d_As_saysYes_13 gf_As_41 (by first | exact hG.s (by decide) rfl | exact hG.m hma | exact hG.m1 hma | exact hs0) rfl rfl ?_
        first | refine E_aload_n d_As_saysYes_16 rfl ?_ | refine E_aload_nN d_As_saysYes_16 rfl ?_
        refine E_iconst (v := nI 0) d_As_saysYes_17 rfl ?_
        refine E_putI d_As_saysYes_18 gf_As_44 (by first | exact hG.s (by decide) rfl | exact hG.m hma | exact hG.m1 hma | exact hs0) rfl rfl ?_
        first | refine E_aload_n d_As_saysYes_21 rfl ?_ | refine E_aload_nN d_As_saysYes_21 rfl ?_
        refine E_ifnullR d_As_saysYes_22 ?_
        first | refine E_aload_n d_As_saysYes_25 rfl ?_ | refine E_aload_nN d_As_saysYes_25 rfl ?_
        refine E_getI d_As_saysYes_26 gf_As_47 (by first | exact hG.s (by decide) rfl | exact hG.m hma | exact hG.m1 hma | exact hs0) (by exact e5) ?_
        refine E_iconst (v := (-1)) d_As_saysYes_29 rfl ?_
        first | (with_reducible refine E_isN2 ?_; refine E_icmp_ne 38 d_As_saysYes_30 rfl (nb_ne fun h30 => ?_) (nb_eq (by omega) (by omega) fun h30 => ?_)) | refine E_icmp_ne 38 d_As_saysYes_30 rfl (fun h30 => ?_) (fun h30 => ?_)
        rotate_left
        · exfalso; exact nI_nm1 (by omega) h30
        first | refine E_aload_n d_As_saysYes_38 rfl ?_ | refine E_aload_nN d_As_saysYes_38 rfl ?_
        first | refine E_aload_n d_As_saysYes_39 rfl ?_ | refine E_aload_nN d_As_saysYes_39 rfl ?_
        first | refine E_aload_n d_As_saysYes_40 rfl ?_ | refine E_aload_nN d_As_saysYes_40 rfl ?_
        refine E_getI d_As_saysYes_41 gf_As_47 (by first | exact hG.s (by decide) rfl | exact hG.m hma | exact hG.m1 hma | exact hs0) (by exact e5) ?_
        first | refine E_aload_n d_As_saysYes_44 rfl ?_ | refine E_aload_nN d_As_saysYes_44 rfl ?_
        refine E_getI d_As_saysYes_45 gf_As_56 (by first | exact hG.s (by decide) rfl | exact hG.m hma | exact hG.m1 hma | exact hs0) (by exact e6) ?_
        refine E_V3 (sp_As_worth hW hvc hbk hseg) d_As_saysYes_48 ml_As_59 cb_As_worth cv_As_worth (by first | exact hG.s (by decide) rfl | exact hG.m hma | exact hG.m1 hma | exact hs0) ⟨by decide, rfl⟩ ⟨by decide, by decide⟩ rfl (Nat.le_of_ble_eq_true rfl) (Nat.le_of_ble_eq_true rfl) (kI fun r1 M1 hc => ?_)
        obtain ⟨rfl, hz, hX2⟩ := hc
        first | (with_reducible refine E_isN1 ?_; refine E_if_le 58 d_As_saysYes_51 rfl (nz_le (by omega) fun h51 => ?_) (nz_nle (by omega) fun h51 => ?_)) | refine E_if_le 58 d_As_saysYes_51 rfl (fun h51 => ?_) (fun h51 => ?_)
        · refine E_iconst (v := nI 0) d_As_saysYes_58 rfl ?_
          refine E_retZ d_As_saysYes_59 rfl (by decide) ?_
          first | exact ⟨sayK1 hz h51, hX.tr hX2.sa⟩ | exact ⟨sayK2 hz h51, hX.tr hX2.sa⟩
        · refine E_iconst (v := nI 1) d_As_saysYes_54 rfl ?_
          refine E_goto 59 d_As_saysYes_55 rfl ?_
          refine E_retZ d_As_saysYes_59 rfl (by decide) ?_
          first | exact ⟨sayK1 hz h51, hX.tr hX2.sa⟩ | exact ⟨sayK2 hz h51, hX.tr hX2.sa⟩
theorem sp_As_swayOf {c : Cr} {m : Mo} {ma p f y : Nat} {G : Geo} {M : Mem} (hA : AB c m ma G M) (hp : p < m.people) (hf : f ≤ 8) (hy : y ≤ 1) : E 3 0 0 Y_As_swayOf 0 [some (.ref 212), some (.ref ma), some (.int (nI p)), some (.int (nI f)), some (.int (nI y)), none] [] G M (QI G fun r M' => r = iI (sway c m p f y) ∧ Sc SA M M') := by
  have hG := hA.1.G
  have hR := hA.1.R
  have hma := hA.2.1
  have hK := hA.ak hp hf hy
  have hX := askM_sc M ma p f y
  have hC2 := hK.1
  have K : ∀ r, LawV (ruler c) r G (askM M ma p f y) → E 3 0 0 Y_As_swayOf 28 [some (.ref 212), some (.ref ma), some (.int (nI p)), some (.int (nI f)), some (.int (nI y)), none] [oV r] G (askM M ma p f y) (QI G fun r M' => r = iI (sway c m p f y) ∧ Sc SA M M') := by
    intro r hL
    have e0 : sway c m p f y = match (ruler c).bind Tx.sways with | none => 0 | some q => clampZ (worthR q.1 (nmOf c m p f y) m) (-2) 2 := rfl
    rw [e0]
    revert hL
    cases r with
    | none =>
      cases ruler c with
      | some x => intro hL; exact absurd hL (fun h => h)
      | none =>
        intro hL
        show E _ _ _ _ _ _ [.null] _ _ _
        first | refine E_astore_5 d_As_swayOf_28 rfl ?_ | refine E_astoreN_5 d_As_swayOf_28 rfl ?_
        first | refine E_aload d_As_swayOf_30 rfl ?_ | refine E_aloadN d_As_swayOf_30 rfl ?_
        refine E_ifnullN 44 d_As_swayOf_32 rfl ?_
        refine E_iconst (v := nI 0) d_As_swayOf_44 rfl ?_
        refine E_retI d_As_swayOf_45 rfl ?_
        exact ⟨rfl, hX⟩
    | some la =>
      cases ruler c with
      | none => intro hL; exact absurd hL (fun h => h)
      | some x =>
        intro hL
        have hrep : RepTxC x la G (askM M ma p f y) := hL
        have hs0 := hrep.2.1
        obtain ⟨kk, hW, -, hsy⟩ := hrep.wk hK
        show E _ _ _ _ _ _ [.ref la] _ _ (QI G fun r M' => r = iI (match x.sways with | none => 0 | some q => clampZ (worthR q.1 (nmOf c m p f y) m) (-2) 2) ∧ Sc SA M M')
        revert hsy
        cases x.sways with
        | none =>
          intro hsy
          have e5 : mI (askM M ma p f y) la 7 = -1 := hsy
          first | refine E_astore_5 d_As_swayOf_28 rfl ?_ | refine E_astoreN_5 d_As_swayOf_28 rfl ?_
          first | refine E_aload d_As_swayOf_30 rfl ?_ | refine E_aloadN d_As_swayOf_30 rfl ?_
          refine E_ifnullR d_As_swayOf_32 ?_
          first | refine E_aload d_As_swayOf_35 rfl ?_ | refine E_aloadN d_As_swayOf_35 rfl ?_
          refine E_getI d_As_swayOf_37 gf_As_83 (by first | exact hG.s (by decide) rfl | exact hG.m hma | exact hG.m1 hma | exact hs0) (by exact e5) ?_
          refine E_iconst (v := (-1)) d_As_swayOf_40 rfl ?_
          first | (with_reducible refine E_isN2 ?_; refine E_icmp_ne 46 d_As_swayOf_41 rfl (nb_ne fun h41 => ?_) (nb_eq (by omega) (by omega) fun h41 => ?_)) | refine E_icmp_ne 46 d_As_swayOf_41 rfl (fun h41 => ?_) (fun h41 => ?_)
          · exfalso; exact h41 rfl
          refine E_iconst (v := nI 0) d_As_swayOf_44 rfl ?_
          refine E_retI d_As_swayOf_45 rfl ?_
          exact ⟨rfl, hX⟩
        | some q =>
          intro hsy
          obtain ⟨b, e5, e6, hbk, hvc, hseg⟩ := hsy
          have hkk := hW.2.2.2.2.2.1
          first | refine E_astore_5 d_As_swayOf_28 rfl ?_ | refine E_astoreN_5 d_As_swayOf_28 rfl ?_
          first | refine E_aload d_As_swayOf_30 rfl ?_ | refine E_aloadN d_As_swayOf_30 rfl ?_
          refine E_ifnullR d_As_swayOf_32 ?_
          first | refine E_aload d_As_swayOf_35 rfl ?_ | refine E_aloadN d_As_swayOf_35 rfl ?_
          refine E_getI d_As_swayOf_37 gf_As_83 (by first | exact hG.s (by decide) rfl | exact hG.m hma | exact hG.m1 hma | exact hs0) (by exact e5) ?_
          refine E_iconst (v := (-1)) d_As_swayOf_40 rfl ?_
          first | (with_reducible refine E_isN2 ?_; refine E_icmp_ne 46 d_As_swayOf_41 rfl (nb_ne fun h41 => ?_) (nb_eq (by omega) (by omega) fun h41 => ?_)) | refine E_icmp_ne 46 d_As_swayOf_41 rfl (fun h41 => ?_) (fun h41 => ?_)
          rotate_left
          · exfalso; exact nI_nm1 (by omega) h41
          first | refine E_aload_n d_As_swayOf_46 rfl ?_ | refine E_aload_nN d_As_swayOf_46 rfl ?_
          first | refine E_aload d_As_swayOf_47 rfl ?_ | refine E_aloadN d_As_swayOf_47 rfl ?_
          first | refine E_aload d_As_swayOf_49 rfl ?_ | refine E_aloadN d_As_swayOf_49 rfl ?_
          refine E_getI d_As_swayOf_51 gf_As_83 (by first | exact hG.s (by decide) rfl | exact hG.m hma | exact hG.m1 hma | exact hs0) (by exact e5) ?_
          first | refine E_aload d_As_swayOf_54 rfl ?_ | refine E_aloadN d_As_swayOf_54 rfl ?_
          refine E_getI d_As_swayOf_56 gf_As_86 (by first | exact hG.s (by decide) rfl | exact hG.m hma | exact hG.m1 hma | exact hs0) (by exact e6) ?_
          refine E_V3 (sp_As_worth hW hvc hbk hseg) d_As_swayOf_59 ml_As_59 cb_As_worth cv_As_worth (by first | exact hG.s (by decide) rfl | exact hG.m hma | exact hG.m1 hma | exact hs0) ⟨by decide, rfl⟩ ⟨by decide, by decide⟩ rfl (Nat.le_of_ble_eq_true rfl) (Nat.le_of_ble_eq_true rfl) (kI fun r1 M1 hc => ?_)
          obtain ⟨rfl, hz, hX2⟩ := hc
          first | (with_reducible refine E_isN1 ?_; refine E_i2lN d_As_swayOf_62 (by omega) ?_) | refine E_i2l d_As_swayOf_62 ?_
          rw [iI_l hz]
          refine E_ldc2 d_As_swayOf_63 kc_As_89 ?_
          rw [show (-2 : Int64) = iL (-2) from by decide]
          refine E_ldc2 (v := lN 2) d_As_swayOf_66 kc_As_91 ?_
          rw [lN_iL]
          refine E_SN3 (sp_TP_within hz.b ⟨by decide, by decide⟩ ⟨by decide, by decide⟩ (by decide)) d_As_swayOf_69 nl_As_93 cb_TP_within cs_TP_within ⟨by decide, by decide⟩ rfl (Nat.le_of_ble_eq_true rfl) (Nat.le_of_ble_eq_true rfl) (kL fun r1 M1 hc => ?_)
          obtain ⟨rfl, rfl⟩ := hc
          refine E_l2i d_As_swayOf_72 ?_
          refine E_retI d_As_swayOf_73 rfl ?_
          exact ⟨iL_i32 _, hX.tr hX2.sa⟩
  first | refine E_aload_n d_As_swayOf_0 rfl ?_ | refine E_aload_nN d_As_swayOf_0 rfl ?_
  first | refine E_aload_n d_As_swayOf_1 rfl ?_ | refine E_aload_nN d_As_swayOf_1 rfl ?_
  refine E_putR d_As_swayOf_2 gf_As_25 (by first | exact hG.s (by decide) rfl | exact hG.m hma | exact hG.m1 hma | exact hs0) rfl rfl ?_
  first | refine E_aload_n d_As_swayOf_5 rfl ?_ | refine E_aload_nN d_As_swayOf_5 rfl ?_
  refine E_iload_n d_As_swayOf_6 rfl ?_
  refine E_putI d_As_swayOf_7 gf_As_38 (by first | exact hG.s (by decide) rfl | exact hG.m hma | exact hG.m1 hma | exact hs0) rfl rfl ?_
  first | refine E_aload_n d_As_swayOf_10 rfl ?_ | refine E_aload_nN d_As_swayOf_10 rfl ?_
  refine E_iload_n d_As_swayOf_11 rfl ?_
  refine E_putI d_As_swayOf_12 gf_As_41 (by first | exact hG.s (by decide) rfl | exact hG.m hma | exact hG.m1 hma | exact hs0) rfl rfl ?_
  first | refine E_aload_n d_As_swayOf_15 rfl ?_ | refine E_aload_nN d_As_swayOf_15 rfl ?_
  refine E_iload d_As_swayOf_16 rfl ?_
  refine E_putI d_As_swayOf_18 gf_As_44 (by first | exact hG.s (by decide) rfl | exact hG.m hma | exact hG.m1 hma | exact hs0) rfl rfl ?_
  first | refine E_aload_n d_As_swayOf_21 rfl ?_ | refine E_aload_nN d_As_swayOf_21 rfl ?_
  refine E_getR d_As_swayOf_22 gf_As_15 (by first | exact hG.s (by decide) rfl | exact hG.m hma | exact hG.m1 hma | exact hs0) (by first | exact hR.o rfl | exact hR.c cr1 rfl | exact hR.m0 hma) ?_
  refine E_V0 (sp_Cr_rulingText hC2) d_As_swayOf_25 ml_As_79 cb_Cr_rulingText cv_Cr_rulingText (by first | exact hG.s (by decide) rfl | exact hG.m hma | exact hG.m1 hma | exact hs0) ⟨by decide, rfl⟩ ⟨by decide, by decide⟩ rfl (Nat.le_of_ble_eq_true rfl) (Nat.le_of_ble_eq_true rfl) (kR fun r1 M1 hc => ?_)
  obtain ⟨hL, rfl⟩ := hc
  exact K r1 hL
theorem LawV.sc {t : Option Tx} {r : Option Nat} {G : Geo} {M M' : Mem} {P : Nat → Prop} (h : LawV t r G M) (g : Sc P M M') (hP : ∀ a, P a → a < 234) : LawV t r G M' := by
  cases t with
  | none =>
    cases r with
    | none => trivial
    | some a => exact absurd h (fun q => q)
  | some x =>
    cases r with
    | none => exact absurd h (fun q => q)
    | some a => exact RepTxC.sc (x := x) h g hP
theorem sp_As_yesBits {c : Cr} {m : Mo} {ma f : Nat} {t : Option Tx} {r : Option Nat} {G : Geo} {M : Mem} (hA : AB c m ma G M) (hL : LawV t r G M) (hf : f ≤ 8) : E 4 0 0 Y_As_yesBits 0 [some (.ref 212), some (.ref ma), some (oV r), some (.int (nI f)), none, none] [] G M (QI G fun r M' => r = nI (yesTo c m t f) ∧ Sc SA M M') := by
  have hp8 := hA.2.2.2.1.p8
  have hma := hA.2.1
  have L : ∀ k p, p + k = m.people → ∀ M1, AB c m ma G M1 → LawV t r G M1 → Sc SA M M1 → E 4 0 0 Y_As_yesBits 6 [some (.ref 212), some (.ref ma), some (oV r), some (.int (nI f)), some (.int (nI (bset (fun p => isYes c m t p f) p))), some (.int (nI p))] [] G M1 (QI G fun r M' => r = nI (yesTo c m t f) ∧ Sc SA M M') := by
    intro k
    induction k with
    | zero =>
      intro p hp M1 hA hL hX
      have hG := hA.1.G
      have hm := hA.2.2.1
      have hp2 : p = m.people := by omega
      subst hp2
      refine E_iload d_As_yesBits_6 rfl ?_
      first | refine E_aload_n d_As_yesBits_8 rfl ?_ | refine E_aload_nN d_As_yesBits_8 rfl ?_
      refine E_getI d_As_yesBits_9 gf_As_28 (by first | exact hG.s (by decide) rfl | exact hG.m hma | exact hG.m1 hma | exact hs0) (by exact hm.people) ?_
      first | (with_reducible refine E_isN2 ?_; refine E_icmp_ge 42 d_As_yesBits_12 rfl (nb_le (by omega) (by omega) fun h12 => ?_) (nb_nle (by omega) (by omega) fun h12 => ?_)) | refine E_icmp_ge 42 d_As_yesBits_12 rfl (fun h12 => ?_) (fun h12 => ?_)
      rotate_left
      · exfalso; omega
      refine E_iload d_As_yesBits_42 rfl ?_
      refine E_retI d_As_yesBits_44 rfl ?_
      exact ⟨rfl, hX⟩
    | succ k ih =>
      intro p hp M1 hA hL hX
      have hG := hA.1.G
      have hm := hA.2.2.1
      have ih2 := ih (p + 1) (by omega)
      have go : E 4 0 0 Y_As_yesBits 15 [some (.ref 212), some (.ref ma), some (oV r), some (.int (nI f)), some (.int (nI (bset (fun p => isYes c m t p f) p))), some (.int (nI p))] [] G M1 (QI G fun r M' => r = nI (yesTo c m t f) ∧ Sc SA M M') := by
        have hs := sp_As_saysYes hA hL (p := p) (f := f) (by omega) hf
        revert hs
        revert hL ih2
        cases r with
        | none =>
          intro hL ih2 hs
          first | refine E_aload_n d_As_yesBits_15 rfl ?_ | refine E_aload_nN d_As_yesBits_15 rfl ?_
          first | refine E_aload_n d_As_yesBits_16 rfl ?_ | refine E_aload_nN d_As_yesBits_16 rfl ?_
          first | refine E_aload_n d_As_yesBits_17 rfl ?_ | refine E_aload_nN d_As_yesBits_17 rfl ?_
          refine E_iload d_As_yesBits_18 rfl ?_
          refine E_iload_n d_As_yesBits_20 rfl ?_
          refine E_V4 (hs) d_As_yesBits_21 ml_As_34 cb_As_saysYes cv_As_saysYes (by first | exact hG.s (by decide) rfl | exact hG.m hma | exact hG.m1 hma | exact hs0) ⟨by decide, rfl⟩ ⟨by decide, by decide⟩ rfl (Nat.le_of_ble_eq_true rfl) (Nat.le_of_ble_eq_true rfl) (kI fun r1 M1 hc => ?_)
          obtain ⟨rfl, hS1⟩ := hc
          first | (with_reducible refine E_isP ?_; refine E_if_eq 36 d_As_yesBits_24 rfl (pb_0 fun h24 => ?_) (pb_1 fun h24 => ?_)) | (with_reducible refine E_isN1 ?_; refine E_if_eq 36 d_As_yesBits_24 rfl (nz_eq (by omega) fun h24 => ?_) (nz_ne fun h24 => ?_)) | refine E_if_eq 36 d_As_yesBits_24 rfl (fun h24 => ?_) (fun h24 => ?_)
          · first | (with_reducible refine E_isL5 ?_; refine E_iincN5 (m := 1) d_As_yesBits_36 rfl rfl ?_) | refine E_iinc_5 d_As_yesBits_36 rfl rfl ?_
            refine E_goto 6 d_As_yesBits_39 rfl ?_
            first | (have ih3 := ih2 _ (hA.sc hS1) (hL.sc hS1 (fun _ => SA.lt)) (hX.tr hS1); rw [← bset_or1 (fun p => isYes c m t p f) p h24] at ih3; exact ih3) | (have ih3 := ih2 _ (hA.sc hS1) (hL.sc hS1 (fun _ => SA.lt)) (hX.tr hS1); rw [← bset_or0 (fun p => isYes c m t p f) p h24] at ih3; exact ih3)
          · refine E_iload d_As_yesBits_27 rfl ?_
            refine E_iconst (v := nI 1) d_As_yesBits_29 rfl ?_
            refine E_iload d_As_yesBits_30 rfl ?_
            first | (with_reducible refine E_isN2 ?_; first | refine E_ishl1 d_As_yesBits_32 (by omega) ?_ | refine E_ishlN d_As_yesBits_32 (by omega) (by omega) ?_) | refine E_ishl d_As_yesBits_32 ?_
            first | (with_reducible refine E_isN2 ?_; refine E_iorN d_As_yesBits_33 ?_) | refine E_ior d_As_yesBits_33 ?_
            refine E_istore_4 d_As_yesBits_34 rfl ?_
            first | (with_reducible refine E_isL5 ?_; refine E_iincN5 (m := 1) d_As_yesBits_36 rfl rfl ?_) | refine E_iinc_5 d_As_yesBits_36 rfl rfl ?_
            refine E_goto 6 d_As_yesBits_39 rfl ?_
            first | (have ih3 := ih2 _ (hA.sc hS1) (hL.sc hS1 (fun _ => SA.lt)) (hX.tr hS1); rw [← bset_or1 (fun p => isYes c m t p f) p h24] at ih3; exact ih3) | (have ih3 := ih2 _ (hA.sc hS1) (hL.sc hS1 (fun _ => SA.lt)) (hX.tr hS1); rw [← bset_or0 (fun p => isYes c m t p f) p h24] at ih3; exact ih3)
        | some la =>
          intro hL ih2 hs
          first | refine E_aload_n d_As_yesBits_15 rfl ?_ | refine E_aload_nN d_As_yesBits_15 rfl ?_
          first | refine E_aload_n d_As_yesBits_16 rfl ?_ | refine E_aload_nN d_As_yesBits_16 rfl ?_
          first | refine E_aload_n d_As_yesBits_17 rfl ?_ | refine E_aload_nN d_As_yesBits_17 rfl ?_
          refine E_iload d_As_yesBits_18 rfl ?_
          refine E_iload_n d_As_yesBits_20 rfl ?_
          refine E_V4 (hs) d_As_yesBits_21 ml_As_34 cb_As_saysYes cv_As_saysYes (by first | exact hG.s (by decide) rfl | exact hG.m hma | exact hG.m1 hma | exact hs0) ⟨by decide, rfl⟩ ⟨by decide, by decide⟩ rfl (Nat.le_of_ble_eq_true rfl) (Nat.le_of_ble_eq_true rfl) (kI fun r1 M1 hc => ?_)
          obtain ⟨rfl, hS1⟩ := hc
          first | (with_reducible refine E_isP ?_; refine E_if_eq 36 d_As_yesBits_24 rfl (pb_0 fun h24 => ?_) (pb_1 fun h24 => ?_)) | (with_reducible refine E_isN1 ?_; refine E_if_eq 36 d_As_yesBits_24 rfl (nz_eq (by omega) fun h24 => ?_) (nz_ne fun h24 => ?_)) | refine E_if_eq 36 d_As_yesBits_24 rfl (fun h24 => ?_) (fun h24 => ?_)
          · first | (with_reducible refine E_isL5 ?_; refine E_iincN5 (m := 1) d_As_yesBits_36 rfl rfl ?_) | refine E_iinc_5 d_As_yesBits_36 rfl rfl ?_
            refine E_goto 6 d_As_yesBits_39 rfl ?_
            first | (have ih3 := ih2 _ (hA.sc hS1) (hL.sc hS1 (fun _ => SA.lt)) (hX.tr hS1); rw [← bset_or1 (fun p => isYes c m t p f) p h24] at ih3; exact ih3) | (have ih3 := ih2 _ (hA.sc hS1) (hL.sc hS1 (fun _ => SA.lt)) (hX.tr hS1); rw [← bset_or0 (fun p => isYes c m t p f) p h24] at ih3; exact ih3)
          · refine E_iload d_As_yesBits_27 rfl ?_
            refine E_iconst (v := nI 1) d_As_yesBits_29 rfl ?_
            refine E_iload d_As_yesBits_30 rfl ?_
            first | (with_reducible refine E_isN2 ?_; first | refine E_ishl1 d_As_yesBits_32 (by omega) ?_ | refine E_ishlN d_As_yesBits_32 (by omega) (by omega) ?_) | refine E_ishl d_As_yesBits_32 ?_
            first | (with_reducible refine E_isN2 ?_; refine E_iorN d_As_yesBits_33 ?_) | refine E_ior d_As_yesBits_33 ?_
            refine E_istore_4 d_As_yesBits_34 rfl ?_
            first | (with_reducible refine E_isL5 ?_; refine E_iincN5 (m := 1) d_As_yesBits_36 rfl rfl ?_) | refine E_iinc_5 d_As_yesBits_36 rfl rfl ?_
            refine E_goto 6 d_As_yesBits_39 rfl ?_
            first | (have ih3 := ih2 _ (hA.sc hS1) (hL.sc hS1 (fun _ => SA.lt)) (hX.tr hS1); rw [← bset_or1 (fun p => isYes c m t p f) p h24] at ih3; exact ih3) | (have ih3 := ih2 _ (hA.sc hS1) (hL.sc hS1 (fun _ => SA.lt)) (hX.tr hS1); rw [← bset_or0 (fun p => isYes c m t p f) p h24] at ih3; exact ih3)
      refine E_iload d_As_yesBits_6 rfl ?_
      first | refine E_aload_n d_As_yesBits_8 rfl ?_ | refine E_aload_nN d_As_yesBits_8 rfl ?_
      refine E_getI d_As_yesBits_9 gf_As_28 (by first | exact hG.s (by decide) rfl | exact hG.m hma | exact hG.m1 hma | exact hs0) (by exact hm.people) ?_
      first | (with_reducible refine E_isN2 ?_; refine E_icmp_ge 42 d_As_yesBits_12 rfl (nb_le (by omega) (by omega) fun h12 => ?_) (nb_nle (by omega) (by omega) fun h12 => ?_)) | refine E_icmp_ge 42 d_As_yesBits_12 rfl (fun h12 => ?_) (fun h12 => ?_)
      · exfalso; omega
      exact go
  refine E_iconst (v := nI 0) d_As_yesBits_0 rfl ?_
  refine E_istore_4 d_As_yesBits_1 rfl ?_
  refine E_iconst (v := nI 0) d_As_yesBits_3 rfl ?_
  refine E_istore_5 d_As_yesBits_4 rfl ?_
  exact L m.people 0 (Nat.zero_add _) M hA hL Sc.rf
theorem AB.now {c : Cr} {G : Geo} {M : Mem} (h : CM c G M) : AB c c.now 2 G M := ⟨h, ad2, h.now, h.w.mo, Nat.le_refl _⟩
