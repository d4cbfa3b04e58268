section LXe
variable {G : Geo} {M : Mem}
def mkE (l : List Nat) (p : Nat) : Nat × Nat := if (mkS (l.getD p 0) = 28 ∨ mkS (l.getD p 0) = 29) ∧ p + 1 < l.length ∧ l.getD (p + 1) 0 = 61 then (mkS (l.getD p 0) - 2, p + 2) else (mkS (l.getD p 0), p + 1)
theorem sp_Ta_readMark {l : List Nat} {p : Nat} (hG : GC G) (hR : RC M) (hT : TapeC l M) (h5 : mI M 220 5 = nI p) (hp : p < l.length) : E 7 0 0 Y_Ta_readMark 0 [some (.ref 220), some (.int (nI (l.getD p 0))), none, none] [] G M (QI G fun r M' => r = nI (mkE l p).1 ∧ mI M' 220 5 = nI (mkE l p).2 ∧ mI M' 220 6 = mI M 220 6 ∧ Fo 220 J56 An M M') := by
  have l3 := hT.1
  have h1 := hT.2.1
  have hb := hT.b hp
  have hX1 : Fo 220 J56 An M (wI M 220 5 (nI (p + 1))) := Fo.rf.wI (by unfold J56; omega)
  have hR1 := hR.fo hX1
  have hT1 := hT.fo hX1 (by unfold J56; omega) (fun q => q)
  have g5 : mI (wI M 220 5 (nI (p + 1))) 220 5 = nI (p + 1) := by rw [mI_wa, if_pos rfl]
  have g1 := hT1.2.1
  have g6 : mI (wI M 220 5 (nI (p + 1))) 220 6 = mI M 220 6 := by rw [mI_wa, if_neg (by decide)]
  have hms := mkS_rg (l.getD p 0)
  have fin1 : ¬ ((mkS (l.getD p 0) = 28 ∨ mkS (l.getD p 0) = 29) ∧ p + 1 < l.length ∧ l.getD (p + 1) 0 = 61) → nI (mkS (l.getD p 0)) = nI (mkE l p).1 ∧ mI (wI M 220 5 (nI (p + 1))) 220 5 = nI (mkE l p).2 ∧ mI (wI M 220 5 (nI (p + 1))) 220 6 = mI M 220 6 ∧ Fo 220 J56 An M (wI M 220 5 (nI (p + 1))) := fun q => by
    have e : mkE l p = (mkS (l.getD p 0), p + 1) := if_neg q
    rw [e]
    exact ⟨rfl, g5, g6, hX1⟩
  have fin2 : ∀ u, ((mkS (l.getD p 0) = 28 ∧ u = 26) ∨ (mkS (l.getD p 0) = 29 ∧ u = 27)) → p + 1 < l.length → l.getD (p + 1) 0 = 61 → nI u = nI (mkE l p).1 ∧ mI (wI (wI M 220 5 (nI (p + 1))) 220 5 (nI (p + 1 + 1))) 220 5 = nI (mkE l p).2 ∧ mI (wI (wI M 220 5 (nI (p + 1))) 220 5 (nI (p + 1 + 1))) 220 6 = mI M 220 6 ∧ Fo 220 J56 An M (wI (wI M 220 5 (nI (p + 1))) 220 5 (nI (p + 1 + 1))) := fun u hu a1 a2 => by
    have e : mkE l p = (mkS (l.getD p 0) - 2, p + 2) := if_pos ⟨by omega, a1, a2⟩
    rw [e]
    refine ⟨?_, by rw [mI_wa, if_pos rfl], by rw [mI_wa, if_neg (by decide)]; exact g6, hX1.wI (by unfold J56; omega)⟩
    show nI u = nI (mkS (l.getD p 0) - 2)
    rw [show mkS (l.getD p 0) - 2 = u by omega]
  have sb := fun h1 : p + 1 < l.length => hT1.b h1
  have sv := fun h1 : p + 1 < l.length => hT1.2.2.1 (p + 1) h1
  have hz : (-1 : Int32) < 0 := by decide
  have K : ∀ s, s = mkS (l.getD p 0) → ∀ x2 : Int32, E 7 0 0 Y_Ta_readMark 30 [some (.ref 220), some (.int (nI (l.getD p 0))), some (.int x2), none] [.int (nI s)] G (wI M 220 5 (nI (p + 1))) (QI G fun r M' => r = nI (mkE l p).1 ∧ mI M' 220 5 = nI (mkE l p).2 ∧ mI M' 220 6 = mI M 220 6 ∧ Fo 220 J56 An M M') := by
    intro s hs x2
    rw [← hs] at fin1 fin2 hms
    clear hs
    by_cases hn : p + 1 < l.length
    · have sb := sb hn
      have sv := sv hn
      generalize hcc : l.getD (p + 1) 0 = c9 at *
      have tc := sp_TP_at (M := wI M 220 5 (nI (p + 1))) (hG.s (k := 221) (by decide) rfl) (by decide) (show p + 1 < 300 by omega) sv
      refine E_istore_3 d_Ta_readMark_30 rfl ?_
      refine E_iload_n d_Ta_readMark_31 rfl ?_
      refine E_bipush (v := nI 28) d_Ta_readMark_32 (by decide) ?_
      first | (with_reducible refine E_isN2 ?_; refine E_icmp_eq 43 d_Ta_readMark_34 rfl (nb_eq (by omega) (by omega) fun h34 => ?_) (nb_ne fun h34 => ?_)) | refine E_icmp_eq 43 d_Ta_readMark_34 rfl (fun h34 => ?_) (fun h34 => ?_)
      · first | refine E_aload_n d_Ta_readMark_43 rfl ?_ | refine E_aload_nN d_Ta_readMark_43 rfl ?_
        refine E_getI d_Ta_readMark_44 gf_Ta_32 (by exact hG.s (by decide) rfl) (by first | exact g5 | exact g1) ?_
        first | refine E_aload_n d_Ta_readMark_47 rfl ?_ | refine E_aload_nN d_Ta_readMark_47 rfl ?_
        refine E_getI d_Ta_readMark_48 gf_Ta_24 (by exact hG.s (by decide) rfl) (by first | exact g5 | exact g1) ?_
        first | (with_reducible refine E_isN2 ?_; refine E_icmp_ge 70 d_Ta_readMark_51 rfl (nb_le (by omega) (by omega) fun h51 => ?_) (nb_nle (by omega) (by omega) fun h51 => ?_)) | refine E_icmp_ge 70 d_Ta_readMark_51 rfl (fun h51 => ?_) (fun h51 => ?_)
        · exfalso; omega
        first | refine E_aload_n d_Ta_readMark_54 rfl ?_ | refine E_aload_nN d_Ta_readMark_54 rfl ?_
        refine E_getR d_Ta_readMark_55 gf_Ta_9 (by exact hG.s (by decide) rfl) (by exact hR.o rfl) ?_
        first | refine E_aload_n d_Ta_readMark_58 rfl ?_ | refine E_aload_nN d_Ta_readMark_58 rfl ?_
        refine E_getI d_Ta_readMark_59 gf_Ta_32 (by exact hG.s (by decide) rfl) (by first | exact g5 | exact g1) ?_
        refine E_SN2 (tc) d_Ta_readMark_62 nl_Ta_41 cb_TP_at cs_TP_at ⟨by decide, by decide⟩ rfl (Nat.le_of_ble_eq_true rfl) (Nat.le_of_ble_eq_true rfl) (kI fun r1 M1 hc => ?_)
        obtain ⟨rfl, rfl⟩ := hc
        refine E_bipush (v := nI 61) d_Ta_readMark_65 (by decide) ?_
        first | (with_reducible refine E_isN2 ?_; refine E_icmp_eq 72 d_Ta_readMark_67 rfl (nb_eq (by omega) (by omega) fun h67 => ?_) (nb_ne fun h67 => ?_)) | refine E_icmp_eq 72 d_Ta_readMark_67 rfl (fun h67 => ?_) (fun h67 => ?_)
        · first | refine E_aload_n d_Ta_readMark_72 rfl ?_ | refine E_aload_nN d_Ta_readMark_72 rfl ?_
          refine E_dup d_Ta_readMark_73 rfl ?_
          refine E_getI d_Ta_readMark_74 gf_Ta_32 (by exact hG.s (by decide) rfl) (by first | exact g5 | exact g1) ?_
          refine E_iconst (v := nI 1) d_Ta_readMark_77 rfl ?_
          first | (with_reducible refine E_isN2 ?_; refine E_iaddN d_Ta_readMark_78 ?_) | refine E_iadd d_Ta_readMark_78 ?_
          refine E_putI d_Ta_readMark_79 gf_Ta_32 (by exact hG.s (by decide) rfl) rfl rfl ?_
          refine E_iload_n d_Ta_readMark_82 rfl ?_
          refine E_bipush (v := nI 28) d_Ta_readMark_83 (by decide) ?_
          first | (with_reducible refine E_isN2 ?_; refine E_icmp_ne 93 d_Ta_readMark_85 rfl (nb_ne fun h85 => ?_) (nb_eq (by omega) (by omega) fun h85 => ?_)) | refine E_icmp_ne 93 d_Ta_readMark_85 rfl (fun h85 => ?_) (fun h85 => ?_)
          · refine E_bipush (v := nI 27) d_Ta_readMark_93 (by decide) ?_
            refine E_retI d_Ta_readMark_95 rfl ?_
            first | exact fin2 26 (Or.inl ⟨by omega, rfl⟩) hn (by omega) | exact fin2 27 (Or.inr ⟨by omega, rfl⟩) hn (by omega) | exact fin1 (by omega)
          · refine E_bipush (v := nI 26) d_Ta_readMark_88 (by decide) ?_
            refine E_goto 95 d_Ta_readMark_90 rfl ?_
            refine E_retI d_Ta_readMark_95 rfl ?_
            first | exact fin2 26 (Or.inl ⟨by omega, rfl⟩) hn (by omega) | exact fin2 27 (Or.inr ⟨by omega, rfl⟩) hn (by omega) | exact fin1 (by omega)
        · refine E_iload_n d_Ta_readMark_70 rfl ?_
          refine E_retI d_Ta_readMark_71 rfl ?_
          first | exact fin2 26 (Or.inl ⟨by omega, rfl⟩) hn (by omega) | exact fin2 27 (Or.inr ⟨by omega, rfl⟩) hn (by omega) | exact fin1 (by omega)
      · refine E_iload_n d_Ta_readMark_37 rfl ?_
        refine E_bipush (v := nI 29) d_Ta_readMark_38 (by decide) ?_
        first | (with_reducible refine E_isN2 ?_; refine E_icmp_ne 70 d_Ta_readMark_40 rfl (nb_ne fun h40 => ?_) (nb_eq (by omega) (by omega) fun h40 => ?_)) | refine E_icmp_ne 70 d_Ta_readMark_40 rfl (fun h40 => ?_) (fun h40 => ?_)
        · refine E_iload_n d_Ta_readMark_70 rfl ?_
          refine E_retI d_Ta_readMark_71 rfl ?_
          first | exact fin2 26 (Or.inl ⟨by omega, rfl⟩) hn (by omega) | exact fin2 27 (Or.inr ⟨by omega, rfl⟩) hn (by omega) | exact fin1 (by omega)
        · first | refine E_aload_n d_Ta_readMark_43 rfl ?_ | refine E_aload_nN d_Ta_readMark_43 rfl ?_
          refine E_getI d_Ta_readMark_44 gf_Ta_32 (by exact hG.s (by decide) rfl) (by first | exact g5 | exact g1) ?_
          first | refine E_aload_n d_Ta_readMark_47 rfl ?_ | refine E_aload_nN d_Ta_readMark_47 rfl ?_
          refine E_getI d_Ta_readMark_48 gf_Ta_24 (by exact hG.s (by decide) rfl) (by first | exact g5 | exact g1) ?_
          first | (with_reducible refine E_isN2 ?_; refine E_icmp_ge 70 d_Ta_readMark_51 rfl (nb_le (by omega) (by omega) fun h51 => ?_) (nb_nle (by omega) (by omega) fun h51 => ?_)) | refine E_icmp_ge 70 d_Ta_readMark_51 rfl (fun h51 => ?_) (fun h51 => ?_)
          · exfalso; omega
          first | refine E_aload_n d_Ta_readMark_54 rfl ?_ | refine E_aload_nN d_Ta_readMark_54 rfl ?_
          refine E_getR d_Ta_readMark_55 gf_Ta_9 (by exact hG.s (by decide) rfl) (by exact hR.o rfl) ?_
          first | refine E_aload_n d_Ta_readMark_58 rfl ?_ | refine E_aload_nN d_Ta_readMark_58 rfl ?_
          refine E_getI d_Ta_readMark_59 gf_Ta_32 (by exact hG.s (by decide) rfl) (by first | exact g5 | exact g1) ?_
          refine E_SN2 (tc) d_Ta_readMark_62 nl_Ta_41 cb_TP_at cs_TP_at ⟨by decide, by decide⟩ rfl (Nat.le_of_ble_eq_true rfl) (Nat.le_of_ble_eq_true rfl) (kI fun r1 M1 hc => ?_)
          obtain ⟨rfl, rfl⟩ := hc
          refine E_bipush (v := nI 61) d_Ta_readMark_65 (by decide) ?_
          first | (with_reducible refine E_isN2 ?_; refine E_icmp_eq 72 d_Ta_readMark_67 rfl (nb_eq (by omega) (by omega) fun h67 => ?_) (nb_ne fun h67 => ?_)) | refine E_icmp_eq 72 d_Ta_readMark_67 rfl (fun h67 => ?_) (fun h67 => ?_)
          · first | refine E_aload_n d_Ta_readMark_72 rfl ?_ | refine E_aload_nN d_Ta_readMark_72 rfl ?_
            refine E_dup d_Ta_readMark_73 rfl ?_
            refine E_getI d_Ta_readMark_74 gf_Ta_32 (by exact hG.s (by decide) rfl) (by first | exact g5 | exact g1) ?_
            refine E_iconst (v := nI 1) d_Ta_readMark_77 rfl ?_
            first | (with_reducible refine E_isN2 ?_; refine E_iaddN d_Ta_readMark_78 ?_) | refine E_iadd d_Ta_readMark_78 ?_
            refine E_putI d_Ta_readMark_79 gf_Ta_32 (by exact hG.s (by decide) rfl) rfl rfl ?_
            refine E_iload_n d_Ta_readMark_82 rfl ?_
            refine E_bipush (v := nI 28) d_Ta_readMark_83 (by decide) ?_
            first | (with_reducible refine E_isN2 ?_; refine E_icmp_ne 93 d_Ta_readMark_85 rfl (nb_ne fun h85 => ?_) (nb_eq (by omega) (by omega) fun h85 => ?_)) | refine E_icmp_ne 93 d_Ta_readMark_85 rfl (fun h85 => ?_) (fun h85 => ?_)
            · refine E_bipush (v := nI 27) d_Ta_readMark_93 (by decide) ?_
              refine E_retI d_Ta_readMark_95 rfl ?_
              first | exact fin2 26 (Or.inl ⟨by omega, rfl⟩) hn (by omega) | exact fin2 27 (Or.inr ⟨by omega, rfl⟩) hn (by omega) | exact fin1 (by omega)
            · refine E_bipush (v := nI 26) d_Ta_readMark_88 (by decide) ?_
              refine E_goto 95 d_Ta_readMark_90 rfl ?_
              refine E_retI d_Ta_readMark_95 rfl ?_
              first | exact fin2 26 (Or.inl ⟨by omega, rfl⟩) hn (by omega) | exact fin2 27 (Or.inr ⟨by omega, rfl⟩) hn (by omega) | exact fin1 (by omega)
          · refine E_iload_n d_Ta_readMark_70 rfl ?_
            refine E_retI d_Ta_readMark_71 rfl ?_
            first | exact fin2 26 (Or.inl ⟨by omega, rfl⟩) hn (by omega) | exact fin2 27 (Or.inr ⟨by omega, rfl⟩) hn (by omega) | exact fin1 (by omega)
    · refine E_istore_3 d_Ta_readMark_30 rfl ?_
      refine E_iload_n d_Ta_readMark_31 rfl ?_
      refine E_bipush (v := nI 28) d_Ta_readMark_32 (by decide) ?_
      first | (with_reducible refine E_isN2 ?_; refine E_icmp_eq 43 d_Ta_readMark_34 rfl (nb_eq (by omega) (by omega) fun h34 => ?_) (nb_ne fun h34 => ?_)) | refine E_icmp_eq 43 d_Ta_readMark_34 rfl (fun h34 => ?_) (fun h34 => ?_)
      · first | refine E_aload_n d_Ta_readMark_43 rfl ?_ | refine E_aload_nN d_Ta_readMark_43 rfl ?_
        refine E_getI d_Ta_readMark_44 gf_Ta_32 (by exact hG.s (by decide) rfl) (by first | exact g5 | exact g1) ?_
        first | refine E_aload_n d_Ta_readMark_47 rfl ?_ | refine E_aload_nN d_Ta_readMark_47 rfl ?_
        refine E_getI d_Ta_readMark_48 gf_Ta_24 (by exact hG.s (by decide) rfl) (by first | exact g5 | exact g1) ?_
        first | (with_reducible refine E_isN2 ?_; refine E_icmp_ge 70 d_Ta_readMark_51 rfl (nb_le (by omega) (by omega) fun h51 => ?_) (nb_nle (by omega) (by omega) fun h51 => ?_)) | refine E_icmp_ge 70 d_Ta_readMark_51 rfl (fun h51 => ?_) (fun h51 => ?_)
        rotate_left
        · exfalso; omega
        refine E_iload_n d_Ta_readMark_70 rfl ?_
        refine E_retI d_Ta_readMark_71 rfl ?_
        exact fin1 (by omega)
      · refine E_iload_n d_Ta_readMark_37 rfl ?_
        refine E_bipush (v := nI 29) d_Ta_readMark_38 (by decide) ?_
        first | (with_reducible refine E_isN2 ?_; refine E_icmp_ne 70 d_Ta_readMark_40 rfl (nb_ne fun h40 => ?_) (nb_eq (by omega) (by omega) fun h40 => ?_)) | refine E_icmp_ne 70 d_Ta_readMark_40 rfl (fun h40 => ?_) (fun h40 => ?_)
        · refine E_iload_n d_Ta_readMark_70 rfl ?_
          refine E_retI d_Ta_readMark_71 rfl ?_
          exact fin1 (by omega)
        · first | refine E_aload_n d_Ta_readMark_43 rfl ?_ | refine E_aload_nN d_Ta_readMark_43 rfl ?_
          refine E_getI d_Ta_readMark_44 gf_Ta_32 (by exact hG.s (by decide) rfl) (by first | exact g5 | exact g1) ?_
          first | refine E_aload_n d_Ta_readMark_47 rfl ?_ | refine E_aload_nN d_Ta_readMark_47 rfl ?_
          refine E_getI d_Ta_readMark_48 gf_Ta_24 (by exact hG.s (by decide) rfl) (by first | exact g5 | exact g1) ?_
          first | (with_reducible refine E_isN2 ?_; refine E_icmp_ge 70 d_Ta_readMark_51 rfl (nb_le (by omega) (by omega) fun h51 => ?_) (nb_nle (by omega) (by omega) fun h51 => ?_)) | refine E_icmp_ge 70 d_Ta_readMark_51 rfl (fun h51 => ?_) (fun h51 => ?_)
          rotate_left
          · exfalso; omega
          refine E_iload_n d_Ta_readMark_70 rfl ?_
          refine E_retI d_Ta_readMark_71 rfl ?_
          exact fin1 (by omega)
  by_cases hm : mkS (l.getD p 0) = 41
  · have e : mIx (l.getD p 0) = -1 := if_pos hm
    have sx := sp_JS_indexOf (G := G) (M := wI M 220 5 (nI (p + 1))) hb
    rw [e] at sx
    first | refine E_aload_n d_Ta_readMark_0 rfl ?_ | refine E_aload_nN d_Ta_readMark_0 rfl ?_
    refine E_dup d_Ta_readMark_1 rfl ?_
    refine E_getI d_Ta_readMark_2 gf_Ta_32 (by exact hG.s (by decide) rfl) (by exact h5) ?_
    refine E_iconst (v := nI 1) d_Ta_readMark_5 rfl ?_
    first | (with_reducible refine E_isN2 ?_; refine E_iaddN d_Ta_readMark_6 ?_) | refine E_iadd d_Ta_readMark_6 ?_
    refine E_putI d_Ta_readMark_7 gf_Ta_32 (by exact hG.s (by decide) rfl) rfl rfl ?_
    refine E_ldcS (i := 1) d_Ta_readMark_10 rfl (by decide) ?_
    refine E_iload_n d_Ta_readMark_12 rfl ?_
    refine E_VS1 (by decide) (sx) d_Ta_readMark_13 ml_Ta_95 cb_JS_indexOf_I cv_JS_indexOf_I rfl ⟨by decide, by decide⟩ rfl (Nat.le_of_ble_eq_true rfl) (Nat.le_of_ble_eq_true rfl) (kI fun r1 M1 hc => ?_)
    obtain ⟨rfl, rfl⟩ := hc
    refine E_istore_2 d_Ta_readMark_16 rfl ?_
    refine E_iload_n d_Ta_readMark_17 rfl ?_
    first | (with_reducible refine E_isN1 ?_; refine E_if_ge 26 d_Ta_readMark_18 rfl (nz_ge (by omega) fun h18 => ?_) (nz_nge (by omega) fun h18 => ?_)) | refine E_if_ge 26 d_Ta_readMark_18 rfl (fun h18 => ?_) (fun h18 => ?_)
    · exfalso; exact absurd h18 (by decide)
    refine E_bipush (v := nI 41) d_Ta_readMark_21 (by decide) ?_
    refine E_goto 30 d_Ta_readMark_23 rfl ?_
    exact K 41 hm.symm _
  · have e : mIx (l.getD p 0) = nI (mkS (l.getD p 0) - 28) := if_neg hm
    have sx := sp_JS_indexOf (G := G) (M := wI M 220 5 (nI (p + 1))) hb
    rw [e] at sx
    first | refine E_aload_n d_Ta_readMark_0 rfl ?_ | refine E_aload_nN d_Ta_readMark_0 rfl ?_
    refine E_dup d_Ta_readMark_1 rfl ?_
    refine E_getI d_Ta_readMark_2 gf_Ta_32 (by exact hG.s (by decide) rfl) (by exact h5) ?_
    refine E_iconst (v := nI 1) d_Ta_readMark_5 rfl ?_
    first | (with_reducible refine E_isN2 ?_; refine E_iaddN d_Ta_readMark_6 ?_) | refine E_iadd d_Ta_readMark_6 ?_
    refine E_putI d_Ta_readMark_7 gf_Ta_32 (by exact hG.s (by decide) rfl) rfl rfl ?_
    refine E_ldcS (i := 1) d_Ta_readMark_10 rfl (by decide) ?_
    refine E_iload_n d_Ta_readMark_12 rfl ?_
    refine E_VS1 (by decide) (sx) d_Ta_readMark_13 ml_Ta_95 cb_JS_indexOf_I cv_JS_indexOf_I rfl ⟨by decide, by decide⟩ rfl (Nat.le_of_ble_eq_true rfl) (Nat.le_of_ble_eq_true rfl) (kI fun r1 M1 hc => ?_)
    obtain ⟨rfl, rfl⟩ := hc
    refine E_istore_2 d_Ta_readMark_16 rfl ?_
    refine E_iload_n d_Ta_readMark_17 rfl ?_
    first | (with_reducible refine E_isN1 ?_; refine E_if_ge 26 d_Ta_readMark_18 rfl (nz_ge (by omega) fun h18 => ?_) (nz_nge (by omega) fun h18 => ?_)) | refine E_if_ge 26 d_Ta_readMark_18 rfl (fun h18 => ?_) (fun h18 => ?_)
    rotate_left
    · exfalso; omega
    refine E_bipush (v := nI 28) d_Ta_readMark_26 (by decide) ?_
    refine E_iload_n d_Ta_readMark_28 rfl ?_
    first | (with_reducible refine E_isN2 ?_; refine E_iaddN d_Ta_readMark_29 ?_) | refine E_iadd d_Ta_readMark_29 ?_
    exact K _ (by omega) _
theorem sp_Ta_readToken {l : List Nat} {p : Nat} (hG : GC G) (hR : RC M) (hT : TapeC l M) (h5 : mI M 220 5 = nI p) (hp : p < l.length) (h6 : mI M 220 6 = nI 0) : E 8 0 0 Y_Ta_readToken 0 [some (.ref 220), some (.int (nI (l.getD p 0)))] [] G M (QI G fun r M' => r = nI (tkE l p).1 ∧ mI M' 220 5 = nI (tkE l p).2.2 ∧ mI M' 220 6 = nI (tkE l p).2.1 ∧ Fo 220 J56 An M M') := by
  have hb := hT.b hp
  by_cases hl : isL (l.getD p 0) = true
  · have e : tkE l p = (sgN (wvM l (rl isL l p - p) p 0), 0, rl isL l p) := by unfold tkE; rw [if_pos hp, if_pos hl]
    rw [e]
    have sw := sp_Ta_readWord hG hR hT h5 hp hl
    generalize hbb : l.getD p 0 = b at *
    refine E_iload_n d_Ta_readToken_0 rfl ?_
    refine E_S1 (sp_Ta_isLetter hb) d_Ta_readToken_1 ml_Ta_55 cb_Ta_isLetter cs_Ta_isLetter ⟨by decide, by decide⟩ rfl (Nat.le_of_ble_eq_true rfl) (Nat.le_of_ble_eq_true rfl) (kI fun r1 M1 hc => ?_)
    obtain ⟨rfl, rfl⟩ := hc
    first | (with_reducible refine E_isP ?_; refine E_if_eq 12 d_Ta_readToken_4 rfl (pb_0 fun h4 => ?_) (pb_1 fun h4 => ?_)) | (with_reducible refine E_isN1 ?_; refine E_if_eq 12 d_Ta_readToken_4 rfl (nz_eq (by omega) fun h4 => ?_) (nz_ne fun h4 => ?_)) | refine E_if_eq 12 d_Ta_readToken_4 rfl (fun h4 => ?_) (fun h4 => ?_)
    · exfalso; exact h4 hl
    first | refine E_aload_n d_Ta_readToken_7 rfl ?_ | refine E_aload_nN d_Ta_readToken_7 rfl ?_
    refine E_V0 (sw) d_Ta_readToken_8 ml_Ta_58 cb_Ta_readWord cv_Ta_readWord (by exact hG.s (by decide) rfl) ⟨by decide, rfl⟩ ⟨by decide, by decide⟩ rfl (Nat.le_of_ble_eq_true rfl) (Nat.le_of_ble_eq_true rfl) (kI fun r1 M1 hc => ?_)
    obtain ⟨rfl, q5, q6, qX⟩ := hc
    refine E_retI d_Ta_readToken_11 rfl ?_
    exact ⟨rfl, q5, q6.trans h6, qX⟩
  · by_cases hd : isD (l.getD p 0) = true
    · have e : tkE l p = (39, nvC l (rl isD l p - p) p 0, rl isD l p) := by unfold tkE; rw [if_pos hp, if_neg hl, if_pos hd]
      rw [e]
      have sw := sp_Ta_readNumber hG hR hT h5 (Nat.le_of_lt hp) h6
      generalize hbb : l.getD p 0 = b at *
      refine E_iload_n d_Ta_readToken_0 rfl ?_
      refine E_S1 (sp_Ta_isLetter hb) d_Ta_readToken_1 ml_Ta_55 cb_Ta_isLetter cs_Ta_isLetter ⟨by decide, by decide⟩ rfl (Nat.le_of_ble_eq_true rfl) (Nat.le_of_ble_eq_true rfl) (kI fun r1 M1 hc => ?_)
      obtain ⟨rfl, rfl⟩ := hc
      first | (with_reducible refine E_isP ?_; refine E_if_eq 12 d_Ta_readToken_4 rfl (pb_0 fun h4 => ?_) (pb_1 fun h4 => ?_)) | (with_reducible refine E_isN1 ?_; refine E_if_eq 12 d_Ta_readToken_4 rfl (nz_eq (by omega) fun h4 => ?_) (nz_ne fun h4 => ?_)) | refine E_if_eq 12 d_Ta_readToken_4 rfl (fun h4 => ?_) (fun h4 => ?_)
      rotate_left
      · exfalso; exact hl h4
      refine E_iload_n d_Ta_readToken_12 rfl ?_
      refine E_S1 (sp_Ta_isDigit hb) d_Ta_readToken_13 ml_Ta_62 cb_Ta_isDigit cs_Ta_isDigit ⟨by decide, by decide⟩ rfl (Nat.le_of_ble_eq_true rfl) (Nat.le_of_ble_eq_true rfl) (kI fun r1 M1 hc => ?_)
      obtain ⟨rfl, rfl⟩ := hc
      first | (with_reducible refine E_isP ?_; refine E_if_eq 24 d_Ta_readToken_16 rfl (pb_0 fun h16 => ?_) (pb_1 fun h16 => ?_)) | (with_reducible refine E_isN1 ?_; refine E_if_eq 24 d_Ta_readToken_16 rfl (nz_eq (by omega) fun h16 => ?_) (nz_ne fun h16 => ?_)) | refine E_if_eq 24 d_Ta_readToken_16 rfl (fun h16 => ?_) (fun h16 => ?_)
      · exfalso; exact h16 hd
      first | refine E_aload_n d_Ta_readToken_19 rfl ?_ | refine E_aload_nN d_Ta_readToken_19 rfl ?_
      refine E_V0 (sw) d_Ta_readToken_20 ml_Ta_65 cb_Ta_readNumber cv_Ta_readNumber (by exact hG.s (by decide) rfl) ⟨by decide, rfl⟩ ⟨by decide, by decide⟩ rfl (Nat.le_of_ble_eq_true rfl) (Nat.le_of_ble_eq_true rfl) (kI fun r1 M1 hc => ?_)
      obtain ⟨rfl, q5, q6, qX⟩ := hc
      refine E_retI d_Ta_readToken_23 rfl ?_
      exact ⟨rfl, q5, q6, qX⟩
    · have e : tkE l p = ((mkE l p).1, 0, (mkE l p).2) := by
        unfold tkE mkE
        rw [if_pos hp, if_neg hl, if_neg hd]
        split <;> rfl
      rw [e]
      have sw := sp_Ta_readMark hG hR hT h5 hp
      have ec := chr_nb (l.getD p 0) hb
      generalize hbb : l.getD p 0 = b at *
      refine E_iload_n d_Ta_readToken_0 rfl ?_
      refine E_S1 (sp_Ta_isLetter hb) d_Ta_readToken_1 ml_Ta_55 cb_Ta_isLetter cs_Ta_isLetter ⟨by decide, by decide⟩ rfl (Nat.le_of_ble_eq_true rfl) (Nat.le_of_ble_eq_true rfl) (kI fun r1 M1 hc => ?_)
      obtain ⟨rfl, rfl⟩ := hc
      first | (with_reducible refine E_isP ?_; refine E_if_eq 12 d_Ta_readToken_4 rfl (pb_0 fun h4 => ?_) (pb_1 fun h4 => ?_)) | (with_reducible refine E_isN1 ?_; refine E_if_eq 12 d_Ta_readToken_4 rfl (nz_eq (by omega) fun h4 => ?_) (nz_ne fun h4 => ?_)) | refine E_if_eq 12 d_Ta_readToken_4 rfl (fun h4 => ?_) (fun h4 => ?_)
      rotate_left
      · exfalso; exact hl h4
      refine E_iload_n d_Ta_readToken_12 rfl ?_
      refine E_S1 (sp_Ta_isDigit hb) d_Ta_readToken_13 ml_Ta_62 cb_Ta_isDigit cs_Ta_isDigit ⟨by decide, by decide⟩ rfl (Nat.le_of_ble_eq_true rfl) (Nat.le_of_ble_eq_true rfl) (kI fun r1 M1 hc => ?_)
      obtain ⟨rfl, rfl⟩ := hc
      first | (with_reducible refine E_isP ?_; refine E_if_eq 24 d_Ta_readToken_16 rfl (pb_0 fun h16 => ?_) (pb_1 fun h16 => ?_)) | (with_reducible refine E_isN1 ?_; refine E_if_eq 24 d_Ta_readToken_16 rfl (nz_eq (by omega) fun h16 => ?_) (nz_ne fun h16 => ?_)) | refine E_if_eq 24 d_Ta_readToken_16 rfl (fun h16 => ?_) (fun h16 => ?_)
      rotate_left
      · exfalso; exact hd h16
      first | refine E_aload_n d_Ta_readToken_24 rfl ?_ | refine E_aload_nN d_Ta_readToken_24 rfl ?_
      refine E_iload_n d_Ta_readToken_25 rfl ?_
      refine E_i2c d_Ta_readToken_26 ?_
      rw [ec]
      refine E_V1 (sw) d_Ta_readToken_27 ml_Ta_68 cb_Ta_readMark cv_Ta_readMark (by exact hG.s (by decide) rfl) ⟨by decide, rfl⟩ ⟨by decide, by decide⟩ rfl (Nat.le_of_ble_eq_true rfl) (Nat.le_of_ble_eq_true rfl) (kI fun r1 M1 hc => ?_)
      obtain ⟨rfl, q5, q6, qX⟩ := hc
      refine E_retI d_Ta_readToken_30 rfl ?_
      exact ⟨rfl, q5, q6.trans h6, qX⟩
def TokC (l : List Nat) (M : Mem) : Prop := ∀ j, vk l j → mI M 222 j = nI (SS l j) ∧ mI M 223 j = nI (PP l j) ∧ mI M 224 j = nI (VV l j)
def A3 (a : Nat) : Prop := a = 222 ∨ a = 223 ∨ a = 224
theorem sp_Ta_cutTokens {l : List Nat} (hG : GC G) (hR0 : RC M) (hT0 : TapeC l M) : E 9 0 0 Y_Ta_cutTokens 0 [some (.ref 220), none] [] G M (QV G fun M' => TokC l M' ∧ Fo 220 J56 A3 M M') := by
  have l3 := hT0.1
  have i5 : J56 5 := Or.inl rfl
  have i6 : J56 6 := Or.inr rfl
  have n1 : ¬ J56 1 := by unfold J56; omega
  have n221 : ¬ A3 221 := by unfold A3; omega
  have a2 : A3 222 := Or.inl rfl
  have a3 : A3 223 := Or.inr (Or.inl rfl)
  have a4 : A3 224 := Or.inr (Or.inr rfl)
  have wk : ∀ {M1 M2 : Mem}, Fo 220 J56 An M1 M2 → Fo 220 J56 A3 M1 M2 := fun h => h.wk (fun _ q => q) (fun _ q => absurd q (fun z => z))
  have Kend : ∀ k M1, vk l k → PP l k = l.length → Fo 220 J56 A3 M M1 → (∀ j, j < k → mI M1 222 j = nI (SS l j) ∧ mI M1 223 j = nI (PP l j) ∧ mI M1 224 j = nI (VV l j)) → E 9 0 0 Y_Ta_cutTokens 91 [some (.ref 220), some (.int (nI k))] [] G M1 (QV G fun M' => TokC l M' ∧ Fo 220 J56 A3 M M') := by
    intro k M1 hv hpe hX hI
    have hR := hR0.fo hX
    have hT := hT0.fo hX n1 n221
    have h1 := hT.2.1
    have hk := hv.le
    have r1 : mI (wI M1 222 k (nI 40)) 220 1 = nI l.length := by rw [mI_wx (by decide)]; exact h1
    have ok : TokC l (wI (wI (wI M1 222 k (nI 40)) 223 k (nI l.length)) 224 k (nI 0)) := by
      intro j hj
      have jk : j ≤ k := by
        rcases Nat.lt_or_ge k j with z | z
        · have := hj k z; omega
        · exact z
      have e2 : ∀ j, mI (wI (wI (wI M1 222 k (nI 40)) 223 k (nI l.length)) 224 k (nI 0)) 222 j = if j = k then nI 40 else mI M1 222 j := fun j => by rw [mI_wx (by decide), mI_wx (by decide), mI_wa]
      have e3 : ∀ j, mI (wI (wI (wI M1 222 k (nI 40)) 223 k (nI l.length)) 224 k (nI 0)) 223 j = if j = k then nI l.length else mI M1 223 j := fun j => by rw [mI_wx (by decide), mI_wa, mI_wx (by decide)]
      have e4 : ∀ j, mI (wI (wI (wI M1 222 k (nI 40)) 223 k (nI l.length)) 224 k (nI 0)) 224 j = if j = k then nI 0 else mI M1 224 j := fun j => by rw [mI_wa, mI_wx (by decide), mI_wx (by decide)]
      rw [e2, e3, e4]
      by_cases q : j = k
      · subst q
        rw [if_pos rfl, if_pos rfl, if_pos rfl, (SS_40 l j).mpr hpe, hpe, VV_40 hpe]
        exact ⟨rfl, rfl, rfl⟩
      · rw [if_neg q, if_neg q, if_neg q]
        exact hI j (by omega)
    first | refine E_aload_n d_Ta_cutTokens_91 rfl ?_ | refine E_aload_nN d_Ta_cutTokens_91 rfl ?_
    refine E_getR d_Ta_cutTokens_92 gf_Ta_15 (by exact hG.s (by decide) rfl) (by exact hR.o rfl) ?_
    refine E_iload_n d_Ta_cutTokens_95 rfl ?_
    refine E_bipush (v := nI 40) d_Ta_cutTokens_96 (by decide) ?_
    refine E_SN3 (sp_TP_put (hG.s (by decide) rfl) (by decide) (show k < 301 by omega)) d_Ta_cutTokens_98 nl_Ta_28 cb_TP_put cs_TP_put ⟨by decide, by decide⟩ rfl (Nat.le_of_ble_eq_true rfl) (Nat.le_of_ble_eq_true rfl) (kV fun M1 hc => ?_)
    subst hc
    first | refine E_aload_n d_Ta_cutTokens_101 rfl ?_ | refine E_aload_nN d_Ta_cutTokens_101 rfl ?_
    refine E_getR d_Ta_cutTokens_102 gf_Ta_18 (by exact hG.s (by decide) rfl) (by exact hR.o rfl) ?_
    refine E_iload_n d_Ta_cutTokens_105 rfl ?_
    first | refine E_aload_n d_Ta_cutTokens_106 rfl ?_ | refine E_aload_nN d_Ta_cutTokens_106 rfl ?_
    refine E_getI d_Ta_cutTokens_107 gf_Ta_24 (by exact hG.s (by decide) rfl) (by exact r1) ?_
    refine E_SN3 (sp_TP_put (hG.s (by decide) rfl) (by decide) (show k < 301 by omega)) d_Ta_cutTokens_110 nl_Ta_28 cb_TP_put cs_TP_put ⟨by decide, by decide⟩ rfl (Nat.le_of_ble_eq_true rfl) (Nat.le_of_ble_eq_true rfl) (kV fun M1 hc => ?_)
    subst hc
    first | refine E_aload_n d_Ta_cutTokens_113 rfl ?_ | refine E_aload_nN d_Ta_cutTokens_113 rfl ?_
    refine E_getR d_Ta_cutTokens_114 gf_Ta_21 (by exact hG.s (by decide) rfl) (by exact hR.o rfl) ?_
    refine E_iload_n d_Ta_cutTokens_117 rfl ?_
    refine E_iconst (v := nI 0) d_Ta_cutTokens_118 rfl ?_
    refine E_SN3 (sp_TP_put (hG.s (by decide) rfl) (by decide) (show k < 301 by omega)) d_Ta_cutTokens_119 nl_Ta_28 cb_TP_put cs_TP_put ⟨by decide, by decide⟩ rfl (Nat.le_of_ble_eq_true rfl) (Nat.le_of_ble_eq_true rfl) (kV fun M1 hc => ?_)
    subst hc
    refine E_retV d_Ta_cutTokens_122 rfl ?_
    exact ⟨ok, ((hX.wJ (by decide) a2).wJ (by decide) a3).wJ (by decide) a4⟩
  have L : ∀ n k M1, l.length - PP l k = n → vk l k → Fo 220 J56 A3 M M1 → mI M1 220 5 = nI (PP l k) → (∀ j, j < k → mI M1 222 j = nI (SS l j) ∧ mI M1 223 j = nI (PP l j) ∧ mI M1 224 j = nI (VV l j)) → E 9 0 0 Y_Ta_cutTokens 11 [some (.ref 220), some (.int (nI k))] [] G M1 (QV G fun M' => TokC l M' ∧ Fo 220 J56 A3 M M') := by
    intro n
    induction n using Nat.strongRecOn with
    | ind n ih =>
      intro k M1 hn hv hX g5 hI
      have hR := hR0.fo hX
      have hT := hT0.fo hX n1 n221
      have h1 := hT.2.1
      have hk := hv.le
      have hkp := hv.lt
      have hpl := PP_le l k
      by_cases hp : PP l k < l.length
      · have hbv := hT.2.2.1 _ hp
        have hS : SS l k ≠ 40 := fun q => by have := (SS_40 l k).mp q; omega
        have hv2 := hv.s hS
        have hX2 : Fo 220 J56 A3 M (wI (wI M1 223 k (nI (PP l k))) 220 6 (nI 0)) := (hX.wJ (by decide) a3).wI i6
        have hR2 := hR0.fo hX2
        have hT2 := hT0.fo hX2 n1 n221
        have q5 : mI (wI (wI M1 223 k (nI (PP l k))) 220 6 (nI 0)) 220 5 = nI (PP l k) := by rw [mI_wa, if_neg (by decide), mI_wx (by decide)]; exact g5
        have hbv2 := hT2.2.2.1 _ hp
        have rt := sp_Ta_readToken hG hR2 hT2 q5 hp (by rw [mI_wa, if_pos rfl])
        have at2 := sp_TP_at (G := G) (hG.s (k := 221) (by decide) rfl) (by decide) (show PP l k < 300 by omega) hbv2
        have KK : ∀ M3, Fo 220 J56 An (wI (wI M1 223 k (nI (PP l k))) 220 6 (nI 0)) M3 → mI M3 220 5 = nI (EE l k) → mI M3 220 6 = nI (VV l k) → Fo 220 J56 A3 M (wI (wI M3 222 k (nI (SS l k))) 224 k (nI (VV l k))) ∧ RC (wI (wI M3 222 k (nI (SS l k))) 224 k (nI (VV l k))) ∧ TapeC l (wI (wI M3 222 k (nI (SS l k))) 224 k (nI (VV l k))) ∧ mI (wI (wI M3 222 k (nI (SS l k))) 224 k (nI (VV l k))) 220 5 = nI (EE l k) ∧ ∀ M5, mI M5 220 5 = nI (PP l (k + 1)) → Fo 220 J56 An (wI (wI M3 222 k (nI (SS l k))) 224 k (nI (VV l k))) M5 → E 9 0 0 Y_Ta_cutTokens 11 [some (.ref 220), some (.int (nI (k + 1)))] [] G M5 (QV G fun M' => TokC l M' ∧ Fo 220 J56 A3 M M') := by
          intro M3 hX3 t5 t6
          have hX4 : Fo 220 J56 A3 M (wI (wI M3 222 k (nI (SS l k))) 224 k (nI (VV l k))) := ((hX2.tr (wk hX3)).wJ (by decide) a2).wJ (by decide) a4
          refine ⟨hX4, hR0.fo hX4, hT0.fo hX4 n1 n221, by rw [mI_wx (by decide), mI_wx (by decide)]; exact t5, fun M5 s5 hX5 => ?_⟩
          have hlt := hv2.lt
          have hpl2 := PP_le l (k + 1)
          have hee : PP l k < EE l k := (tkE_end hp).1
          have hge : EE l k ≤ PP l (k + 1) := rl_ge (EE_le l k)
          refine ih (l.length - PP l (k + 1)) (by omega) (k + 1) M5 rfl hv2 (hX4.tr (wk hX5)) s5 (fun j hj => ?_)
          have f : ∀ a, a ≠ 220 → mI M5 a = mI (wI (wI M3 222 k (nI (SS l k))) 224 k (nI (VV l k))) a := fun a ha => hX5.2.1 a ha (fun z => z)
          have f3 : ∀ a, a ≠ 220 → mI M3 a = mI (wI M1 223 k (nI (PP l k))) a := fun a ha => (hX3.2.1 a ha (fun z => z)).trans (mI_ne ha)
          have v2 : mI M5 222 j = if j = k then nI (SS l k) else mI M1 222 j := by rw [f 222 (by decide), mI_wx (by decide), mI_wa, f3 222 (by decide), mI_wx (by decide)]
          have v3 : mI M5 223 j = if j = k then nI (PP l k) else mI M1 223 j := by rw [f 223 (by decide), mI_wx (by decide), mI_wx (by decide), f3 223 (by decide), mI_wa]
          have v4 : mI M5 224 j = if j = k then nI (VV l k) else mI M1 224 j := by rw [f 224 (by decide), mI_wa, mI_wx (by decide), f3 224 (by decide), mI_wx (by decide)]
          rw [v2, v3, v4]
          by_cases q : j = k
          · rw [if_pos q, if_pos q, if_pos q, q]; exact ⟨rfl, rfl, rfl⟩
          · rw [if_neg q, if_neg q, if_neg q]; exact hI j (by omega)
        have r56 : ∀ M3, mI M3 220 6 = nI (VV l k) → mI (wI M3 222 k (nI (SS l k))) 220 6 = nI (VV l k) := fun M3 q => by rw [mI_wx (by decide)]; exact q
        refine E_iload_n d_Ta_cutTokens_11 rfl ?_
        refine E_sipush (v := nI 300) d_Ta_cutTokens_12 (by decide) ?_
        first | (with_reducible refine E_isN2 ?_; refine E_icmp_ge 91 d_Ta_cutTokens_15 rfl (nb_le (by omega) (by omega) fun h15 => ?_) (nb_nle (by omega) (by omega) fun h15 => ?_)) | refine E_icmp_ge 91 d_Ta_cutTokens_15 rfl (fun h15 => ?_) (fun h15 => ?_)
        · exfalso; omega
        first | refine E_aload_n d_Ta_cutTokens_18 rfl ?_ | refine E_aload_nN d_Ta_cutTokens_18 rfl ?_
        refine E_getI d_Ta_cutTokens_19 gf_Ta_32 (by exact hG.s (by decide) rfl) (by exact g5) ?_
        first | refine E_aload_n d_Ta_cutTokens_22 rfl ?_ | refine E_aload_nN d_Ta_cutTokens_22 rfl ?_
        refine E_getI d_Ta_cutTokens_23 gf_Ta_24 (by exact hG.s (by decide) rfl) (by exact h1) ?_
        first | (with_reducible refine E_isN2 ?_; refine E_icmp_ge 91 d_Ta_cutTokens_26 rfl (nb_le (by omega) (by omega) fun h26 => ?_) (nb_nle (by omega) (by omega) fun h26 => ?_)) | refine E_icmp_ge 91 d_Ta_cutTokens_26 rfl (fun h26 => ?_) (fun h26 => ?_)
        · exfalso; omega
        first | refine E_aload_n d_Ta_cutTokens_29 rfl ?_ | refine E_aload_nN d_Ta_cutTokens_29 rfl ?_
        refine E_getR d_Ta_cutTokens_30 gf_Ta_18 (by exact hG.s (by decide) rfl) (by exact hR.o rfl) ?_
        refine E_iload_n d_Ta_cutTokens_33 rfl ?_
        first | refine E_aload_n d_Ta_cutTokens_34 rfl ?_ | refine E_aload_nN d_Ta_cutTokens_34 rfl ?_
        refine E_getI d_Ta_cutTokens_35 gf_Ta_32 (by exact hG.s (by decide) rfl) (by exact g5) ?_
        refine E_SN3 (sp_TP_put (hG.s (by decide) rfl) (by decide) (show k < 301 by omega)) d_Ta_cutTokens_38 nl_Ta_28 cb_TP_put cs_TP_put ⟨by decide, by decide⟩ rfl (Nat.le_of_ble_eq_true rfl) (Nat.le_of_ble_eq_true rfl) (kV fun M1 hc => ?_)
        subst hc
        first | refine E_aload_n d_Ta_cutTokens_41 rfl ?_ | refine E_aload_nN d_Ta_cutTokens_41 rfl ?_
        refine E_iconst (v := nI 0) d_Ta_cutTokens_42 rfl ?_
        refine E_putI d_Ta_cutTokens_43 gf_Ta_38 (by exact hG.s (by decide) rfl) rfl rfl ?_
        first | refine E_aload_n d_Ta_cutTokens_46 rfl ?_ | refine E_aload_nN d_Ta_cutTokens_46 rfl ?_
        refine E_getR d_Ta_cutTokens_47 gf_Ta_15 (by exact hG.s (by decide) rfl) (by exact hR.o rfl) ?_
        refine E_iload_n d_Ta_cutTokens_50 rfl ?_
        first | refine E_aload_n d_Ta_cutTokens_51 rfl ?_ | refine E_aload_nN d_Ta_cutTokens_51 rfl ?_
        first | refine E_aload_n d_Ta_cutTokens_52 rfl ?_ | refine E_aload_nN d_Ta_cutTokens_52 rfl ?_
        refine E_getR d_Ta_cutTokens_53 gf_Ta_9 (by exact hG.s (by decide) rfl) (by exact hR.o rfl) ?_
        first | refine E_aload_n d_Ta_cutTokens_56 rfl ?_ | refine E_aload_nN d_Ta_cutTokens_56 rfl ?_
        refine E_getI d_Ta_cutTokens_57 gf_Ta_32 (by exact hG.s (by decide) rfl) (by exact q5) ?_
        refine E_SN2 (at2) d_Ta_cutTokens_60 nl_Ta_41 cb_TP_at cs_TP_at ⟨by decide, by decide⟩ rfl (Nat.le_of_ble_eq_true rfl) (Nat.le_of_ble_eq_true rfl) (kI fun r1 M1 hc => ?_)
        obtain ⟨rfl, rfl⟩ := hc
        refine E_V1 (rt) d_Ta_cutTokens_63 ml_Ta_45 cb_Ta_readToken cv_Ta_readToken (by exact hG.s (by decide) rfl) ⟨by decide, rfl⟩ ⟨by decide, by decide⟩ rfl (Nat.le_of_ble_eq_true rfl) (Nat.le_of_ble_eq_true rfl) (kI fun r1 M1 hc => ?_)
        obtain ⟨rfl, t5, t6, hX3⟩ := hc; obtain ⟨x4, y4, z4, w4, K5⟩ := KK _ hX3 t5 t6; clear hR; have hR := y4
        refine E_SN3 (sp_TP_put (hG.s (by decide) rfl) (by decide) (show k < 301 by omega)) d_Ta_cutTokens_66 nl_Ta_28 cb_TP_put cs_TP_put ⟨by decide, by decide⟩ rfl (Nat.le_of_ble_eq_true rfl) (Nat.le_of_ble_eq_true rfl) (kV fun M1 hc => ?_)
        subst hc
        first | refine E_aload_n d_Ta_cutTokens_69 rfl ?_ | refine E_aload_nN d_Ta_cutTokens_69 rfl ?_
        refine E_getR d_Ta_cutTokens_70 gf_Ta_21 (by exact hG.s (by decide) rfl) (by exact hR.o rfl) ?_
        refine E_iload_n d_Ta_cutTokens_73 rfl ?_
        first | refine E_aload_n d_Ta_cutTokens_74 rfl ?_ | refine E_aload_nN d_Ta_cutTokens_74 rfl ?_
        refine E_getI d_Ta_cutTokens_75 gf_Ta_38 (by exact hG.s (by decide) rfl) (by exact r56 _ t6) ?_
        refine E_SN3 (sp_TP_put (hG.s (by decide) rfl) (by decide) (show k < 301 by omega)) d_Ta_cutTokens_78 nl_Ta_28 cb_TP_put cs_TP_put ⟨by decide, by decide⟩ rfl (Nat.le_of_ble_eq_true rfl) (Nat.le_of_ble_eq_true rfl) (kV fun M1 hc => ?_)
        subst hc
        first | refine E_aload_n d_Ta_cutTokens_81 rfl ?_ | refine E_aload_nN d_Ta_cutTokens_81 rfl ?_
        refine E_V0 (sp_Ta_skipBlanks hG y4 z4 w4 (EE_le l k)) d_Ta_cutTokens_82 ml_Ta_35 cb_Ta_skipBlanks cv_Ta_skipBlanks (by exact hG.s (by decide) rfl) ⟨by decide, rfl⟩ ⟨by decide, by decide⟩ rfl (Nat.le_of_ble_eq_true rfl) (Nat.le_of_ble_eq_true rfl) (kV fun M1 hc => ?_)
        obtain ⟨s5, hX5, -⟩ := hc
        first | (with_reducible refine E_isL1 ?_; refine E_iincN1 (m := 1) d_Ta_cutTokens_85 rfl rfl ?_) | refine E_iinc_1 d_Ta_cutTokens_85 rfl rfl ?_
        refine E_goto 11 d_Ta_cutTokens_88 rfl ?_
        exact K5 _ s5 hX5
      · have hpe : PP l k = l.length := by omega
        refine E_iload_n d_Ta_cutTokens_11 rfl ?_
        refine E_sipush (v := nI 300) d_Ta_cutTokens_12 (by decide) ?_
        first | (with_reducible refine E_isN2 ?_; refine E_icmp_ge 91 d_Ta_cutTokens_15 rfl (nb_le (by omega) (by omega) fun h15 => ?_) (nb_nle (by omega) (by omega) fun h15 => ?_)) | refine E_icmp_ge 91 d_Ta_cutTokens_15 rfl (fun h15 => ?_) (fun h15 => ?_)
        · exact Kend k M1 hv hpe hX hI
        · first | refine E_aload_n d_Ta_cutTokens_18 rfl ?_ | refine E_aload_nN d_Ta_cutTokens_18 rfl ?_
          refine E_getI d_Ta_cutTokens_19 gf_Ta_32 (by exact hG.s (by decide) rfl) (by first | exact g5 | exact h1) ?_
          first | refine E_aload_n d_Ta_cutTokens_22 rfl ?_ | refine E_aload_nN d_Ta_cutTokens_22 rfl ?_
          refine E_getI d_Ta_cutTokens_23 gf_Ta_24 (by exact hG.s (by decide) rfl) (by first | exact g5 | exact h1) ?_
          first | (with_reducible refine E_isN2 ?_; refine E_icmp_ge 91 d_Ta_cutTokens_26 rfl (nb_le (by omega) (by omega) fun h26 => ?_) (nb_nle (by omega) (by omega) fun h26 => ?_)) | refine E_icmp_ge 91 d_Ta_cutTokens_26 rfl (fun h26 => ?_) (fun h26 => ?_)
          rotate_left
          · exfalso; omega
          exact Kend k M1 hv hpe hX hI
  have hX0 : Fo 220 J56 A3 M (wI M 220 5 (nI 0)) := Fo.rf.wI i5
  first | refine E_aload_n d_Ta_cutTokens_0 rfl ?_ | refine E_aload_nN d_Ta_cutTokens_0 rfl ?_
  refine E_iconst (v := nI 0) d_Ta_cutTokens_1 rfl ?_
  refine E_putI d_Ta_cutTokens_2 gf_Ta_32 (by exact hG.s (by decide) rfl) rfl rfl ?_
  first | refine E_aload_n d_Ta_cutTokens_5 rfl ?_ | refine E_aload_nN d_Ta_cutTokens_5 rfl ?_
  refine E_V0 (sp_Ta_skipBlanks hG (hR0.fo hX0) (hT0.fo hX0 n1 n221) (i0 := 0) (by rw [mI_wa, if_pos rfl]) (Nat.zero_le _)) d_Ta_cutTokens_6 ml_Ta_35 cb_Ta_skipBlanks cv_Ta_skipBlanks (by exact hG.s (by decide) rfl) ⟨by decide, rfl⟩ ⟨by decide, by decide⟩ rfl (Nat.le_of_ble_eq_true rfl) (Nat.le_of_ble_eq_true rfl) (kV fun M1 hc => ?_)
  obtain ⟨s5, hX5, -⟩ := hc
  refine E_iconst (v := nI 0) d_Ta_cutTokens_9 rfl ?_
  refine E_istore_1 d_Ta_cutTokens_10 rfl ?_
  exact L _ 0 _ rfl (vk0 l) (hX0.tr (wk hX5)) s5 (fun j hj => absurd hj (Nat.not_lt_zero j))
end LXe
