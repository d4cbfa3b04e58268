section RDg
variable {G : Geo} {M : Mem} {l : List Nat} {sw : Nat}
theorem ef_Re_readOne (hG : GC G) {d o : Nat} : EF Y_Re_readOne [some (.ref 225), some (.int (nI o)), none] G l d := by
  intro f p M hf
  have hR := hf.1
  have hf0 := hf.2.2.2.2.1
  have hf6 := hf.2.2.2.2.2
  first | refine E_aload_n d_Re_readOne_0 rfl ?_ | refine E_aload_nN d_Re_readOne_0 rfl ?_
  refine E_getI d_Re_readOne_1 gf_Re_61 (by exact hG.s (by decide) rfl) (by rfl) ?_
  refine E_istore_2 d_Re_readOne_4 rfl ?_
  first | refine E_aload_n d_Re_readOne_5 rfl ?_ | refine E_aload_nN d_Re_readOne_5 rfl ?_
  refine E_getI d_Re_readOne_6 gf_Re_44 (by exact hG.s (by decide) rfl) (by exact hf.2.2.1) ?_
  first | (with_reducible refine E_isP ?_; refine E_if_eq 13 d_Re_readOne_9 rfl (pb_0 fun h9 => ?_) (pb_1 fun h9 => ?_)) | (with_reducible refine E_isN1 ?_; refine E_if_eq 13 d_Re_readOne_9 rfl (nz_eq (by omega) fun h9 => ?_) (nz_ne fun h9 => ?_)) | refine E_if_eq 13 d_Re_readOne_9 rfl (fun h9 => ?_) (fun h9 => ?_)
  · exfalso; omega
  refine E_retV d_Re_readOne_12 rfl ?_
  rfl
theorem ep_Re_readOne0 (hG : GC G) (h3 : l.length ≤ 300) (hsw : sw ≤ 9) {d : Nat} : EP Y_Re_readOne [some (.ref 225), some (.int (nI 8)), none] G l sw (d + 6) (one0 (SS l) (VV l) sw) := by
  intro k b M h hb
  have hR := h.R
  have hsr := SS_rg l k
  have hp := sp_Re_readPlain hG h3 h hb hsw
  unfold one0
  by_cases h1 : ¬ (SS l k = 36 ∨ SS l k = 33 ∨ SS l k = 10 ∨ SS l k = 11 ∨ SS l k = 12)
  · rw [if_pos h1]
    first | refine E_aload_n d_Re_readOne_0 rfl ?_ | refine E_aload_nN d_Re_readOne_0 rfl ?_
    refine E_getI d_Re_readOne_1 gf_Re_61 (by exact hG.s (by decide) rfl) (by exact h.s) ?_
    refine E_istore_2 d_Re_readOne_4 rfl ?_
    first | refine E_aload_n d_Re_readOne_5 rfl ?_ | refine E_aload_nN d_Re_readOne_5 rfl ?_
    refine E_getI d_Re_readOne_6 gf_Re_44 (by exact hG.s (by decide) rfl) (by exact h.f) ?_
    first | (with_reducible refine E_isP ?_; refine E_if_eq 13 d_Re_readOne_9 rfl (pb_0 fun h9 => ?_) (pb_1 fun h9 => ?_)) | (with_reducible refine E_isN1 ?_; refine E_if_eq 13 d_Re_readOne_9 rfl (nz_eq (by omega) fun h9 => ?_) (nz_ne fun h9 => ?_)) | refine E_if_eq 13 d_Re_readOne_9 rfl (fun h9 => ?_) (fun h9 => ?_)
    rotate_left
    · exfalso; omega
    refine E_iload_n d_Re_readOne_13 rfl ?_
    refine E_S1 (sp_Sg_opensOne hsr) d_Re_readOne_14 ml_Re_152 cb_Sg_opensOne cs_Sg_opensOne ⟨by omega, by decide⟩ rfl (Nat.le_of_ble_eq_true rfl) (Nat.le_of_ble_eq_true rfl) (kI fun r1 M1 hc => ?_)
    obtain ⟨rfl, rfl⟩ := hc
    first | (with_reducible refine E_isP ?_; refine E_if_ne 25 d_Re_readOne_17 rfl (pb_1 fun h17 => ?_) (pb_0 fun h17 => ?_)) | (with_reducible refine E_isN1 ?_; refine E_if_ne 25 d_Re_readOne_17 rfl (nz_ne fun h17 => ?_) (nz_eq (by omega) fun h17 => ?_)) | refine E_if_ne 25 d_Re_readOne_17 rfl (fun h17 => ?_) (fun h17 => ?_)
    · exfalso; exact h1 h17
    first | refine E_aload_n d_Re_readOne_20 rfl ?_ | refine E_aload_nN d_Re_readOne_20 rfl ?_
    refine E_V0 (hp) d_Re_readOne_21 ml_Re_155 cb_Re_readPlain cv_Re_readPlain (by exact hG.s (by decide) rfl) ⟨by decide, rfl⟩ ⟨by omega, by decide⟩ rfl (Nat.le_of_ble_eq_true rfl) (Nat.le_of_ble_eq_true rfl) (kV fun M1 hc => ?_)
    skip
    refine E_retV d_Re_readOne_24 rfl ?_
    exact hc
  · rw [if_neg h1]
    first | refine E_aload_n d_Re_readOne_0 rfl ?_ | refine E_aload_nN d_Re_readOne_0 rfl ?_
    refine E_getI d_Re_readOne_1 gf_Re_61 (by exact hG.s (by decide) rfl) (by exact h.s) ?_
    refine E_istore_2 d_Re_readOne_4 rfl ?_
    first | refine E_aload_n d_Re_readOne_5 rfl ?_ | refine E_aload_nN d_Re_readOne_5 rfl ?_
    refine E_getI d_Re_readOne_6 gf_Re_44 (by exact hG.s (by decide) rfl) (by exact h.f) ?_
    first | (with_reducible refine E_isP ?_; refine E_if_eq 13 d_Re_readOne_9 rfl (pb_0 fun h9 => ?_) (pb_1 fun h9 => ?_)) | (with_reducible refine E_isN1 ?_; refine E_if_eq 13 d_Re_readOne_9 rfl (nz_eq (by omega) fun h9 => ?_) (nz_ne fun h9 => ?_)) | refine E_if_eq 13 d_Re_readOne_9 rfl (fun h9 => ?_) (fun h9 => ?_)
    rotate_left
    · exfalso; omega
    refine E_iload_n d_Re_readOne_13 rfl ?_
    refine E_S1 (sp_Sg_opensOne hsr) d_Re_readOne_14 ml_Re_152 cb_Sg_opensOne cs_Sg_opensOne ⟨by omega, by decide⟩ rfl (Nat.le_of_ble_eq_true rfl) (Nat.le_of_ble_eq_true rfl) (kI fun r1 M1 hc => ?_)
    obtain ⟨rfl, rfl⟩ := hc
    first | (with_reducible refine E_isP ?_; refine E_if_ne 25 d_Re_readOne_17 rfl (pb_1 fun h17 => ?_) (pb_0 fun h17 => ?_)) | (with_reducible refine E_isN1 ?_; refine E_if_ne 25 d_Re_readOne_17 rfl (nz_ne fun h17 => ?_) (nz_eq (by omega) fun h17 => ?_)) | refine E_if_ne 25 d_Re_readOne_17 rfl (fun h17 => ?_) (fun h17 => ?_)
    rotate_left
    · exfalso; exact h1 h17
    refine E_iload_n d_Re_readOne_25 rfl ?_
    refine E_bipush (v := nI 8) d_Re_readOne_26 (by decide) ?_
    first | (with_reducible refine E_isN2 ?_; refine E_icmp_lt 37 d_Re_readOne_28 rfl (nb_lt (by omega) (by omega) fun h28 => ?_) (nb_nlt (by omega) (by omega) fun h28 => ?_)) | refine E_icmp_lt 37 d_Re_readOne_28 rfl (fun h28 => ?_) (fun h28 => ?_)
    · exfalso; omega
    first | refine E_aload_n d_Re_readOne_31 rfl ?_ | refine E_aload_nN d_Re_readOne_31 rfl ?_
    refine E_iconst (v := nI 3) d_Re_readOne_32 rfl ?_
    refine E_V1 (sp_Re_fail (f := 3) hG h h3 (by decide) (by decide)) d_Re_readOne_33 ml_Re_108 cb_Re_fail cv_Re_fail (by exact hG.s (by decide) rfl) ⟨by decide, rfl⟩ ⟨by omega, by decide⟩ rfl (Nat.le_of_ble_eq_true rfl) (Nat.le_of_ble_eq_true rfl) (kV fun M1 hc => ?_)
    skip
    refine E_retV d_Re_readOne_36 rfl ?_
    exact PR.k Fo.rf hc.1 hc.2
theorem ep_Re_readOneS (hG : GC G) (h3 : l.length ≤ 300) (hsw : sw ≤ 9) {d d1 d2 d3 o : Nat} (ho : o < 8) (hd1 : d1 ≤ d) (hd2 : d2 ≤ d) (hd3 : d3 ≤ d) (hd : 3 ≤ d) {p : (Nat → Nat → Res) × (Nat → Nat → Res)} (hS : EP Y_Re_readSum [some (.ref 225), some (.int (nI (o + 1))), none, none] G l sw d1 (sumR (SS l) p.1)) (hI : EP Y_Re_readIf [some (.ref 225), some (.int (nI (o + 1))), none, none] G l sw d2 (ifR (SS l) (eitherR (SS l) p.2) (sumR (SS l) p.1))) (hO : EP Y_Re_readOne [some (.ref 225), some (.int (nI (o + 1))), none] G l sw d3 p.1) (g1 : GdF (SS l) p.1) (g2 : GdF (SS l) p.2) : EP Y_Re_readOne [some (.ref 225), some (.int (nI o)), none] G l sw (d + 3) (oneS (SS l) (VV l) sw p) := by
  intro k b M h hb
  have hR := h.R
  have hsr := SS_rg l k
  unfold oneS
  by_cases h1 : ¬ (SS l k = 36 ∨ SS l k = 33 ∨ SS l k = 10 ∨ SS l k = 11 ∨ SS l k = 12)
  · rw [if_pos h1]
    have hp := sp_Re_readPlain hG h3 h hb hsw
    first | refine E_aload_n d_Re_readOne_0 rfl ?_ | refine E_aload_nN d_Re_readOne_0 rfl ?_
    refine E_getI d_Re_readOne_1 gf_Re_61 (by exact hG.s (by decide) rfl) (by exact h.s) ?_
    refine E_istore_2 d_Re_readOne_4 rfl ?_
    first | refine E_aload_n d_Re_readOne_5 rfl ?_ | refine E_aload_nN d_Re_readOne_5 rfl ?_
    refine E_getI d_Re_readOne_6 gf_Re_44 (by exact hG.s (by decide) rfl) (by exact h.f) ?_
    first | (with_reducible refine E_isP ?_; refine E_if_eq 13 d_Re_readOne_9 rfl (pb_0 fun h9 => ?_) (pb_1 fun h9 => ?_)) | (with_reducible refine E_isN1 ?_; refine E_if_eq 13 d_Re_readOne_9 rfl (nz_eq (by omega) fun h9 => ?_) (nz_ne fun h9 => ?_)) | refine E_if_eq 13 d_Re_readOne_9 rfl (fun h9 => ?_) (fun h9 => ?_)
    rotate_left
    · exfalso; omega
    refine E_iload_n d_Re_readOne_13 rfl ?_
    refine E_S1 (sp_Sg_opensOne hsr) d_Re_readOne_14 ml_Re_152 cb_Sg_opensOne cs_Sg_opensOne ⟨by omega, by decide⟩ rfl (Nat.le_of_ble_eq_true rfl) (Nat.le_of_ble_eq_true rfl) (kI fun r1 M1 hc => ?_)
    obtain ⟨rfl, rfl⟩ := hc
    first | (with_reducible refine E_isP ?_; refine E_if_ne 25 d_Re_readOne_17 rfl (pb_1 fun h17 => ?_) (pb_0 fun h17 => ?_)) | (with_reducible refine E_isN1 ?_; refine E_if_ne 25 d_Re_readOne_17 rfl (nz_ne fun h17 => ?_) (nz_eq (by omega) fun h17 => ?_)) | refine E_if_ne 25 d_Re_readOne_17 rfl (fun h17 => ?_) (fun h17 => ?_)
    · exfalso; exact h1 h17
    first | refine E_aload_n d_Re_readOne_20 rfl ?_ | refine E_aload_nN d_Re_readOne_20 rfl ?_
    refine E_V0 (hp) d_Re_readOne_21 ml_Re_155 cb_Re_readPlain cv_Re_readPlain (by exact hG.s (by decide) rfl) ⟨by decide, rfl⟩ ⟨by omega, by decide⟩ rfl (Nat.le_of_ble_eq_true rfl) (Nat.le_of_ble_eq_true rfl) (kV fun M1 hc => ?_)
    skip
    refine E_retV d_Re_readOne_24 rfl ?_
    exact hc
  · rw [if_neg h1]
    have h1 := Decidable.not_not.mp h1
    have h40 : SS l k ≠ 40 := by omega
    by_cases h2 : SS l k = 36
    · rw [if_pos h2]
      have hSc := fun M' (h : RS l sw (k + 1) b M') => hS (k + 1) b M' h (by omega)
      have hgd := GdF.sum (S := SS l) g1 (k + 1) b
      generalize sumR (SS l) p.1 (k + 1) b = r at *
      have K : ∀ M1 M2, Fo 225 JR AR M M1 → kpB b M M1 → PR l sw r b M1 M2 → E (d + 3) 0 0 Y_Re_readOne 54 [some (.ref 225), some (.int (nI o)), some (.int (nI (SS l k)))] [] G M2 (QV G fun M' => PR l sw (parR (SS l) r) b M M') := by
        intro M1 M2 hA hk hP
        unfold parR
        by_cases f0 : r.f ≠ 0
        · rw [if_pos f0]
          have hf := PR.qf (b := b) hA hP f0
          first | refine E_aload_n d_Re_readOne_54 rfl ?_ | refine E_aload_nN d_Re_readOne_54 rfl ?_
          refine E_bipush (v := nI 37) d_Re_readOne_55 (by decide) ?_
          refine E_V1 (sp_Re_takeF hG hf.1) d_Re_readOne_57 ml_Re_126 cb_Re_take cv_Re_take (by exact hG.s (by decide) rfl) ⟨by decide, rfl⟩ ⟨by omega, by decide⟩ rfl (Nat.le_of_ble_eq_true rfl) (Nat.le_of_ble_eq_true rfl) (kV fun M1 hc => ?_)
          subst hc
          refine E_goto 103 d_Re_readOne_60 rfl ?_
          refine E_retV d_Re_readOne_103 rfl ?_
          exact PR.fq f0 hf
        · rw [if_neg f0]
          obtain ⟨y1, y2, y3⟩ := hP.2.1 (Decidable.not_not.mp f0)
          have tk := sp_Re_take (s := 37) hG y1 h3 (by decide) (by decide)
          by_cases f1 : SS l r.k ≠ 37
          · rw [if_pos f1]
            first | refine E_aload_n d_Re_readOne_54 rfl ?_ | refine E_aload_nN d_Re_readOne_54 rfl ?_
            refine E_bipush (v := nI 37) d_Re_readOne_55 (by decide) ?_
            refine E_V1 (tk) d_Re_readOne_57 ml_Re_126 cb_Re_take cv_Re_take (by exact hG.s (by decide) rfl) ⟨by decide, rfl⟩ ⟨by omega, by decide⟩ rfl (Nat.le_of_ble_eq_true rfl) (Nat.le_of_ble_eq_true rfl) (kV fun M1 hc => ?_)
            skip
            refine E_goto 103 d_Re_readOne_60 rfl ?_
            refine E_retV d_Re_readOne_103 rfl ?_
            exact PR.fl (hc.2.1 f1) ((hA.tr hP.1).tr hc.2.2.j3)
          · rw [if_neg f1]
            have f1 := Decidable.not_not.mp f1
            first | refine E_aload_n d_Re_readOne_54 rfl ?_ | refine E_aload_nN d_Re_readOne_54 rfl ?_
            refine E_bipush (v := nI 37) d_Re_readOne_55 (by decide) ?_
            refine E_V1 (tk) d_Re_readOne_57 ml_Re_126 cb_Re_take cv_Re_take (by exact hG.s (by decide) rfl) ⟨by decide, rfl⟩ ⟨by omega, by decide⟩ rfl (Nat.le_of_ble_eq_true rfl) (Nat.le_of_ble_eq_true rfl) (kV fun M1 hc => ?_)
            skip
            refine E_goto 103 d_Re_readOne_60 rfl ?_
            refine E_retV d_Re_readOne_103 rfl ?_
            exact ⟨(hA.tr hP.1).tr hc.2.2.j3, fun _ => ⟨hc.1 f1, y2.kp (kpB.an hc.2.2) (Nat.le_refl _), (hk.tr y3).tr (kpB.an hc.2.2)⟩, fun z => absurd rfl z⟩
      first | refine E_aload_n d_Re_readOne_0 rfl ?_ | refine E_aload_nN d_Re_readOne_0 rfl ?_
      refine E_getI d_Re_readOne_1 gf_Re_61 (by exact hG.s (by decide) rfl) (by exact h.s) ?_
      refine E_istore_2 d_Re_readOne_4 rfl ?_
      first | refine E_aload_n d_Re_readOne_5 rfl ?_ | refine E_aload_nN d_Re_readOne_5 rfl ?_
      refine E_getI d_Re_readOne_6 gf_Re_44 (by exact hG.s (by decide) rfl) (by exact h.f) ?_
      first | (with_reducible refine E_isP ?_; refine E_if_eq 13 d_Re_readOne_9 rfl (pb_0 fun h9 => ?_) (pb_1 fun h9 => ?_)) | (with_reducible refine E_isN1 ?_; refine E_if_eq 13 d_Re_readOne_9 rfl (nz_eq (by omega) fun h9 => ?_) (nz_ne fun h9 => ?_)) | refine E_if_eq 13 d_Re_readOne_9 rfl (fun h9 => ?_) (fun h9 => ?_)
      rotate_left
      · exfalso; omega
      refine E_iload_n d_Re_readOne_13 rfl ?_
      refine E_S1 (sp_Sg_opensOne hsr) d_Re_readOne_14 ml_Re_152 cb_Sg_opensOne cs_Sg_opensOne ⟨by omega, by decide⟩ rfl (Nat.le_of_ble_eq_true rfl) (Nat.le_of_ble_eq_true rfl) (kI fun r1 M1 hc => ?_)
      obtain ⟨rfl, rfl⟩ := hc
      first | (with_reducible refine E_isP ?_; refine E_if_ne 25 d_Re_readOne_17 rfl (pb_1 fun h17 => ?_) (pb_0 fun h17 => ?_)) | (with_reducible refine E_isN1 ?_; refine E_if_ne 25 d_Re_readOne_17 rfl (nz_ne fun h17 => ?_) (nz_eq (by omega) fun h17 => ?_)) | refine E_if_ne 25 d_Re_readOne_17 rfl (fun h17 => ?_) (fun h17 => ?_)
      rotate_left
      · exfalso; exact h17 h1
      refine E_iload_n d_Re_readOne_25 rfl ?_
      refine E_bipush (v := nI 8) d_Re_readOne_26 (by decide) ?_
      first | (with_reducible refine E_isN2 ?_; refine E_icmp_lt 37 d_Re_readOne_28 rfl (nb_lt (by omega) (by omega) fun h28 => ?_) (nb_nlt (by omega) (by omega) fun h28 => ?_)) | refine E_icmp_lt 37 d_Re_readOne_28 rfl (fun h28 => ?_) (fun h28 => ?_)
      rotate_left
      · exfalso; omega
      first | refine E_aload_n d_Re_readOne_37 rfl ?_ | refine E_aload_nN d_Re_readOne_37 rfl ?_
      refine E_V0 (sp_Re_advance hG h h3 h40) d_Re_readOne_38 ml_Re_58 cb_Re_advance cv_Re_advance (by exact hG.s (by decide) rfl) ⟨by decide, rfl⟩ ⟨by omega, by decide⟩ rfl (Nat.le_of_ble_eq_true rfl) (Nat.le_of_ble_eq_true rfl) (kV fun M1 hc => ?_)
      have p6 := hc
      refine E_iload_n d_Re_readOne_41 rfl ?_
      refine E_bipush (v := nI 36) d_Re_readOne_42 (by decide) ?_
      first | (with_reducible refine E_isN2 ?_; refine E_icmp_ne 63 d_Re_readOne_44 rfl (nb_ne fun h44 => ?_) (nb_eq (by omega) (by omega) fun h44 => ?_)) | refine E_icmp_ne 63 d_Re_readOne_44 rfl (fun h44 => ?_) (fun h44 => ?_)
      · exfalso; omega
      first | refine E_aload_n d_Re_readOne_47 rfl ?_ | refine E_aload_nN d_Re_readOne_47 rfl ?_
      refine E_iload_n d_Re_readOne_48 rfl ?_
      refine E_iconst (v := nI 1) d_Re_readOne_49 rfl ?_
      first | (with_reducible refine E_isN2 ?_; refine E_iaddN d_Re_readOne_50 ?_) | refine E_iadd d_Re_readOne_50 ?_
      refine E_V1 (hSc _ p6.1) d_Re_readOne_51 ml_Re_129 cb_Re_readSum cv_Re_readSum (by exact hG.s (by decide) rfl) ⟨by decide, rfl⟩ ⟨by omega, by decide⟩ rfl (Nat.le_of_ble_eq_true rfl) (Nat.le_of_ble_eq_true rfl) (kV fun M1 hc => ?_)
      skip
      exact K _ _ p6.2.j1 (kpB.an p6.2) hc
    · rw [if_neg h2]
      by_cases h4 : SS l k = 12
      · rw [if_pos h4]
        have hIc := fun M' (h : RS l sw (k + 1) b M') => hI (k + 1) b M' h (by omega)
        generalize ifR (SS l) (eitherR (SS l) p.2) (sumR (SS l) p.1) (k + 1) b = r at *
        first | refine E_aload_n d_Re_readOne_0 rfl ?_ | refine E_aload_nN d_Re_readOne_0 rfl ?_
        refine E_getI d_Re_readOne_1 gf_Re_61 (by exact hG.s (by decide) rfl) (by exact h.s) ?_
        refine E_istore_2 d_Re_readOne_4 rfl ?_
        first | refine E_aload_n d_Re_readOne_5 rfl ?_ | refine E_aload_nN d_Re_readOne_5 rfl ?_
        refine E_getI d_Re_readOne_6 gf_Re_44 (by exact hG.s (by decide) rfl) (by exact h.f) ?_
        first | (with_reducible refine E_isP ?_; refine E_if_eq 13 d_Re_readOne_9 rfl (pb_0 fun h9 => ?_) (pb_1 fun h9 => ?_)) | (with_reducible refine E_isN1 ?_; refine E_if_eq 13 d_Re_readOne_9 rfl (nz_eq (by omega) fun h9 => ?_) (nz_ne fun h9 => ?_)) | refine E_if_eq 13 d_Re_readOne_9 rfl (fun h9 => ?_) (fun h9 => ?_)
        rotate_left
        · exfalso; omega
        refine E_iload_n d_Re_readOne_13 rfl ?_
        refine E_S1 (sp_Sg_opensOne hsr) d_Re_readOne_14 ml_Re_152 cb_Sg_opensOne cs_Sg_opensOne ⟨by omega, by decide⟩ rfl (Nat.le_of_ble_eq_true rfl) (Nat.le_of_ble_eq_true rfl) (kI fun r1 M1 hc => ?_)
        obtain ⟨rfl, rfl⟩ := hc
        first | (with_reducible refine E_isP ?_; refine E_if_ne 25 d_Re_readOne_17 rfl (pb_1 fun h17 => ?_) (pb_0 fun h17 => ?_)) | (with_reducible refine E_isN1 ?_; refine E_if_ne 25 d_Re_readOne_17 rfl (nz_ne fun h17 => ?_) (nz_eq (by omega) fun h17 => ?_)) | refine E_if_ne 25 d_Re_readOne_17 rfl (fun h17 => ?_) (fun h17 => ?_)
        rotate_left
        · exfalso; exact h17 h1
        refine E_iload_n d_Re_readOne_25 rfl ?_
        refine E_bipush (v := nI 8) d_Re_readOne_26 (by decide) ?_
        first | (with_reducible refine E_isN2 ?_; refine E_icmp_lt 37 d_Re_readOne_28 rfl (nb_lt (by omega) (by omega) fun h28 => ?_) (nb_nlt (by omega) (by omega) fun h28 => ?_)) | refine E_icmp_lt 37 d_Re_readOne_28 rfl (fun h28 => ?_) (fun h28 => ?_)
        rotate_left
        · exfalso; omega
        first | refine E_aload_n d_Re_readOne_37 rfl ?_ | refine E_aload_nN d_Re_readOne_37 rfl ?_
        refine E_V0 (sp_Re_advance hG h h3 h40) d_Re_readOne_38 ml_Re_58 cb_Re_advance cv_Re_advance (by exact hG.s (by decide) rfl) ⟨by decide, rfl⟩ ⟨by omega, by decide⟩ rfl (Nat.le_of_ble_eq_true rfl) (Nat.le_of_ble_eq_true rfl) (kV fun M1 hc => ?_)
        have p6 := hc
        refine E_iload_n d_Re_readOne_41 rfl ?_
        refine E_bipush (v := nI 36) d_Re_readOne_42 (by decide) ?_
        first | (with_reducible refine E_isN2 ?_; refine E_icmp_ne 63 d_Re_readOne_44 rfl (nb_ne fun h44 => ?_) (nb_eq (by omega) (by omega) fun h44 => ?_)) | refine E_icmp_ne 63 d_Re_readOne_44 rfl (fun h44 => ?_) (fun h44 => ?_)
        rotate_left
        · exfalso; omega
        refine E_iload_n d_Re_readOne_63 rfl ?_
        refine E_bipush (v := nI 12) d_Re_readOne_64 (by decide) ?_
        first | (with_reducible refine E_isN2 ?_; refine E_icmp_ne 79 d_Re_readOne_66 rfl (nb_ne fun h66 => ?_) (nb_eq (by omega) (by omega) fun h66 => ?_)) | refine E_icmp_ne 79 d_Re_readOne_66 rfl (fun h66 => ?_) (fun h66 => ?_)
        · exfalso; omega
        first | refine E_aload_n d_Re_readOne_69 rfl ?_ | refine E_aload_nN d_Re_readOne_69 rfl ?_
        refine E_iload_n d_Re_readOne_70 rfl ?_
        refine E_iconst (v := nI 1) d_Re_readOne_71 rfl ?_
        first | (with_reducible refine E_isN2 ?_; refine E_iaddN d_Re_readOne_72 ?_) | refine E_iadd d_Re_readOne_72 ?_
        refine E_V1 (hIc _ p6.1) d_Re_readOne_73 ml_Re_158 cb_Re_readIf cv_Re_readIf (by exact hG.s (by decide) rfl) ⟨by decide, rfl⟩ ⟨by omega, by decide⟩ rfl (Nat.le_of_ble_eq_true rfl) (Nat.le_of_ble_eq_true rfl) (kV fun M1 hc => ?_)
        skip
        refine E_goto 103 d_Re_readOne_76 rfl ?_
        refine E_retV d_Re_readOne_103 rfl ?_
        exact ⟨p6.2.j1.tr hc.1, fun q => ⟨(hc.2.1 q).1, (hc.2.1 q).2.1, (kpB.an p6.2).tr (hc.2.1 q).2.2⟩, hc.2.2⟩
      · rw [if_neg h4]
        have hOc := fun M' (h : RS l sw (k + 1) b M') => hO (k + 1) b M' h (by omega)
        have hr := g1 (k + 1) b
        generalize p.1 (k + 1) b = r at *
        have K : ∀ M1 M2, Fo 225 JR AR M M1 → kpB b M M1 → PR l sw r b M1 M2 → E (d + 3) 0 0 Y_Re_readOne 86 [some (.ref 225), some (.int (nI o)), some (.int (nI (SS l k)))] [] G M2 (QV G fun M' => PR l sw (unR r (unO (SS l k)) (unC (SS l k))) b M M') := by
          intro M1 M2 hA hk hP
          obtain ⟨p1, p2, p3, p4⟩ := PR.un (k := k) (o := unO (SS l k)) (s := unC (SS l k)) hA hk hP
          by_cases f0 : r.f = 0
          · obtain ⟨d1, d2, d3⟩ := hr.2.2.2 f0
            have hs2 := p1 f0
            have hvl := hs2.v.le
            by_cases e : SS l k = 33
            · have eu : unC (SS l k) = 42 := by unfold unC; rw [if_pos e]
              rw [eu] at p3 ⊢
              first | refine E_aload_n d_Re_readOne_86 rfl ?_ | refine E_aload_nN d_Re_readOne_86 rfl ?_
              refine E_iload_n d_Re_readOne_87 rfl ?_
              refine E_bipush (v := nI 33) d_Re_readOne_88 (by decide) ?_
              first | (with_reducible refine E_isN2 ?_; refine E_icmp_ne 98 d_Re_readOne_90 rfl (nb_ne fun h90 => ?_) (nb_eq (by omega) (by omega) fun h90 => ?_)) | refine E_icmp_ne 98 d_Re_readOne_90 rfl (fun h90 => ?_) (fun h90 => ?_)
              · exfalso; omega
              refine E_bipush (v := nI 42) d_Re_readOne_93 (by decide) ?_
              refine E_goto 99 d_Re_readOne_95 rfl ?_
              refine E_iconst (v := nI 0) d_Re_readOne_99 rfl ?_
              refine E_V2 (sp_Re_write hG hs2 (by omega)) d_Re_readOne_100 ml_Re_142 cb_Re_write cv_Re_write (by exact hG.s (by decide) rfl) ⟨by decide, rfl⟩ ⟨by omega, by decide⟩ rfl (Nat.le_of_ble_eq_true rfl) (Nat.le_of_ble_eq_true rfl) (kV fun M1 hc => ?_)
              have p5 := p3 _ f0 hc
              refine E_retV d_Re_readOne_103 rfl ?_
              exact p5
            · have eu : unC (SS l k) = SS l k := by unfold unC; rw [if_neg e]
              rw [eu] at p3 ⊢
              first | refine E_aload_n d_Re_readOne_86 rfl ?_ | refine E_aload_nN d_Re_readOne_86 rfl ?_
              refine E_iload_n d_Re_readOne_87 rfl ?_
              refine E_bipush (v := nI 33) d_Re_readOne_88 (by decide) ?_
              first | (with_reducible refine E_isN2 ?_; refine E_icmp_ne 98 d_Re_readOne_90 rfl (nb_ne fun h90 => ?_) (nb_eq (by omega) (by omega) fun h90 => ?_)) | refine E_icmp_ne 98 d_Re_readOne_90 rfl (fun h90 => ?_) (fun h90 => ?_)
              rotate_left
              · exfalso; omega
              refine E_iload_n d_Re_readOne_98 rfl ?_
              refine E_iconst (v := nI 0) d_Re_readOne_99 rfl ?_
              refine E_V2 (sp_Re_write hG hs2 (by omega)) d_Re_readOne_100 ml_Re_142 cb_Re_write cv_Re_write (by exact hG.s (by decide) rfl) ⟨by decide, rfl⟩ ⟨by omega, by decide⟩ rfl (Nat.le_of_ble_eq_true rfl) (Nat.le_of_ble_eq_true rfl) (kV fun M1 hc => ?_)
              have p5 := p3 _ f0 hc
              refine E_retV d_Re_readOne_103 rfl ?_
              exact p5
          · first | refine E_aload_n d_Re_readOne_86 rfl ?_ | refine E_aload_nN d_Re_readOne_86 rfl ?_
            refine E_iload_n d_Re_readOne_87 rfl ?_
            refine E_bipush (v := nI 33) d_Re_readOne_88 (by decide) ?_
            first | (with_reducible refine E_isN2 ?_; refine E_icmp_ne 98 d_Re_readOne_90 rfl (nb_ne fun h90 => ?_) (nb_eq (by omega) (by omega) fun h90 => ?_)) | refine E_icmp_ne 98 d_Re_readOne_90 rfl (fun h90 => ?_) (fun h90 => ?_)
            · refine E_iload_n d_Re_readOne_98 rfl ?_
              refine E_iconst (v := nI 0) d_Re_readOne_99 rfl ?_
              refine E_V2 (sp_Re_writeF hG (p2 f0)) d_Re_readOne_100 ml_Re_142 cb_Re_write cv_Re_write (by exact hG.s (by decide) rfl) ⟨by decide, rfl⟩ ⟨by omega, by decide⟩ rfl (Nat.le_of_ble_eq_true rfl) (Nat.le_of_ble_eq_true rfl) (kV fun M1 hc => ?_)
              have p5 := p4 _ f0 hc
              refine E_retV d_Re_readOne_103 rfl ?_
              exact p5
            · refine E_bipush (v := nI 42) d_Re_readOne_93 (by decide) ?_
              refine E_goto 99 d_Re_readOne_95 rfl ?_
              refine E_iconst (v := nI 0) d_Re_readOne_99 rfl ?_
              refine E_V2 (sp_Re_writeF hG (p2 f0)) d_Re_readOne_100 ml_Re_142 cb_Re_write cv_Re_write (by exact hG.s (by decide) rfl) ⟨by decide, rfl⟩ ⟨by omega, by decide⟩ rfl (Nat.le_of_ble_eq_true rfl) (Nat.le_of_ble_eq_true rfl) (kV fun M1 hc => ?_)
              have p5 := p4 _ f0 hc
              refine E_retV d_Re_readOne_103 rfl ?_
              exact p5
        first | refine E_aload_n d_Re_readOne_0 rfl ?_ | refine E_aload_nN d_Re_readOne_0 rfl ?_
        refine E_getI d_Re_readOne_1 gf_Re_61 (by exact hG.s (by decide) rfl) (by exact h.s) ?_
        refine E_istore_2 d_Re_readOne_4 rfl ?_
        first | refine E_aload_n d_Re_readOne_5 rfl ?_ | refine E_aload_nN d_Re_readOne_5 rfl ?_
        refine E_getI d_Re_readOne_6 gf_Re_44 (by exact hG.s (by decide) rfl) (by exact h.f) ?_
        first | (with_reducible refine E_isP ?_; refine E_if_eq 13 d_Re_readOne_9 rfl (pb_0 fun h9 => ?_) (pb_1 fun h9 => ?_)) | (with_reducible refine E_isN1 ?_; refine E_if_eq 13 d_Re_readOne_9 rfl (nz_eq (by omega) fun h9 => ?_) (nz_ne fun h9 => ?_)) | refine E_if_eq 13 d_Re_readOne_9 rfl (fun h9 => ?_) (fun h9 => ?_)
        rotate_left
        · exfalso; omega
        refine E_iload_n d_Re_readOne_13 rfl ?_
        refine E_S1 (sp_Sg_opensOne hsr) d_Re_readOne_14 ml_Re_152 cb_Sg_opensOne cs_Sg_opensOne ⟨by omega, by decide⟩ rfl (Nat.le_of_ble_eq_true rfl) (Nat.le_of_ble_eq_true rfl) (kI fun r1 M1 hc => ?_)
        obtain ⟨rfl, rfl⟩ := hc
        first | (with_reducible refine E_isP ?_; refine E_if_ne 25 d_Re_readOne_17 rfl (pb_1 fun h17 => ?_) (pb_0 fun h17 => ?_)) | (with_reducible refine E_isN1 ?_; refine E_if_ne 25 d_Re_readOne_17 rfl (nz_ne fun h17 => ?_) (nz_eq (by omega) fun h17 => ?_)) | refine E_if_ne 25 d_Re_readOne_17 rfl (fun h17 => ?_) (fun h17 => ?_)
        rotate_left
        · exfalso; exact h17 h1
        refine E_iload_n d_Re_readOne_25 rfl ?_
        refine E_bipush (v := nI 8) d_Re_readOne_26 (by decide) ?_
        first | (with_reducible refine E_isN2 ?_; refine E_icmp_lt 37 d_Re_readOne_28 rfl (nb_lt (by omega) (by omega) fun h28 => ?_) (nb_nlt (by omega) (by omega) fun h28 => ?_)) | refine E_icmp_lt 37 d_Re_readOne_28 rfl (fun h28 => ?_) (fun h28 => ?_)
        rotate_left
        · exfalso; omega
        first | refine E_aload_n d_Re_readOne_37 rfl ?_ | refine E_aload_nN d_Re_readOne_37 rfl ?_
        refine E_V0 (sp_Re_advance hG h h3 h40) d_Re_readOne_38 ml_Re_58 cb_Re_advance cv_Re_advance (by exact hG.s (by decide) rfl) ⟨by decide, rfl⟩ ⟨by omega, by decide⟩ rfl (Nat.le_of_ble_eq_true rfl) (Nat.le_of_ble_eq_true rfl) (kV fun M1 hc => ?_)
        have p6 := hc
        refine E_iload_n d_Re_readOne_41 rfl ?_
        refine E_bipush (v := nI 36) d_Re_readOne_42 (by decide) ?_
        first | (with_reducible refine E_isN2 ?_; refine E_icmp_ne 63 d_Re_readOne_44 rfl (nb_ne fun h44 => ?_) (nb_eq (by omega) (by omega) fun h44 => ?_)) | refine E_icmp_ne 63 d_Re_readOne_44 rfl (fun h44 => ?_) (fun h44 => ?_)
        rotate_left
        · exfalso; omega
        refine E_iload_n d_Re_readOne_63 rfl ?_
        refine E_bipush (v := nI 12) d_Re_readOne_64 (by decide) ?_
        first | (with_reducible refine E_isN2 ?_; refine E_icmp_ne 79 d_Re_readOne_66 rfl (nb_ne fun h66 => ?_) (nb_eq (by omega) (by omega) fun h66 => ?_)) | refine E_icmp_ne 79 d_Re_readOne_66 rfl (fun h66 => ?_) (fun h66 => ?_)
        rotate_left
        · exfalso; omega
        first | refine E_aload_n d_Re_readOne_79 rfl ?_ | refine E_aload_nN d_Re_readOne_79 rfl ?_
        refine E_iload_n d_Re_readOne_80 rfl ?_
        refine E_iconst (v := nI 1) d_Re_readOne_81 rfl ?_
        first | (with_reducible refine E_isN2 ?_; refine E_iaddN d_Re_readOne_82 ?_) | refine E_iadd d_Re_readOne_82 ?_
        refine E_V1 (hOc _ p6.1) d_Re_readOne_83 ml_Re_146 cb_Re_readOne cv_Re_readOne (by exact hG.s (by decide) rfl) ⟨by decide, rfl⟩ ⟨by omega, by decide⟩ rfl (Nat.le_of_ble_eq_true rfl) (Nat.le_of_ble_eq_true rfl) (kV fun M1 hc => ?_)
        skip
        exact K _ _ p6.2.j1 (kpB.an p6.2) hc
theorem ef_sum (hG : GC G) {d o : Nat} : EF Y_Re_readSum [some (.ref 225), some (.int (nI o)), none, none] G l (d + 6) := ef_Re_readSum hG (ef_Re_readProduct hG (ef_Re_readOne (d := d) hG))
theorem ep_sum (hG : GC G) (h3 : l.length ≤ 300) {d o : Nat} {f : Nat → Nat → Res} (hf : EP Y_Re_readOne [some (.ref 225), some (.int (nI o)), none] G l sw d f) (hg : GdF (SS l) f) : EP Y_Re_readSum [some (.ref 225), some (.int (nI o)), none, none] G l sw (d + 6) (sumR (SS l) f) := ep_Re_readSum hG h3 (ep_Re_readProduct hG h3 hf hg) hg.prod
theorem ep_either (hG : GC G) (h3 : l.length ≤ 300) {d o : Nat} {f : Nat → Nat → Res} (hf : EP Y_Re_readAsk [some (.ref 225), some (.int (nI o))] G l sw d f) (hg : GdF (SS l) f) : EP Y_Re_readEither [some (.ref 225), some (.int (nI o)), none] G l sw (d + 6) (eitherR (SS l) f) := ep_Re_readEither hG h3 (ep_Re_readBoth hG h3 hf hg) hg.both
theorem ep_RDF (hG : GC G) (h3 : l.length ≤ 300) (hsw : sw ≤ 9) : ∀ L, L ≤ 8 → EP Y_Re_readOne [some (.ref 225), some (.int (nI (8 - L))), none] G l sw (24 * L + 6) (RDF (SS l) (VV l) sw L).1 ∧ EP Y_Re_readAsk [some (.ref 225), some (.int (nI (8 - L)))] G l sw (24 * L + 18) (RDF (SS l) (VV l) sw L).2 := by
  intro L
  induction L with
  | zero =>
    intro _
    have h0 : EP Y_Re_readOne [some (.ref 225), some (.int (nI 8)), none] G l sw (0 + 6) (one0 (SS l) (VV l) sw) := ep_Re_readOne0 hG h3 hsw
    exact ⟨h0, ep_Re_readAsk0 hG h3 (ep_Re_readComparison hG h3 (ep_sum hG h3 h0 gdF_one0) gdF_one0.sum)⟩
  | succ L ih =>
    intro hL
    obtain ⟨i1, i2⟩ := ih (by omega)
    obtain ⟨g1, g2⟩ := gdF_RDF (S := SS l) (V := VV l) (sw := sw) L
    have eo : 8 - L = 8 - (L + 1) + 1 := by omega
    rw [eo] at i1 i2
    have s1 := ep_sum hG h3 i1 g1
    have e1 := ep_either hG h3 i2 g2
    have f1 := ep_Re_readIf hG h3 (d := 24 * L + 18 + 6) (d' := 24 * L + 6 + 6) (by omega) (by omega) e1 s1 (ef_sum hG) g2.either g1.sum
    have o1 : EP Y_Re_readOne [some (.ref 225), some (.int (nI (8 - (L + 1)))), none] G l sw (24 * L + 18 + 6 + 3 + 3) (oneS (SS l) (VV l) sw (RDF (SS l) (VV l) sw L)) := ep_Re_readOneS hG h3 hsw (d := 24 * L + 18 + 6 + 3) (by omega) (by omega) (Nat.le_refl _) (by omega) (by omega) s1 f1 i1 g1 g2
    have go : GdF (SS l) (oneS (SS l) (VV l) sw (RDF (SS l) (VV l) sw L)) := gdF_oneS g1 g2
    have a1 : EP Y_Re_readAsk [some (.ref 225), some (.int (nI (8 - (L + 1))))] G l sw (24 * L + 18 + 6 + 3 + 3 + 6 + 3 + 3) (askS (SS l) (VV l) sw (RDF (SS l) (VV l) sw L)) := ep_Re_readAskS hG h3 (o := 8 - (L + 1)) (by omega) (by omega) (ep_Re_readComparison hG h3 (ep_sum hG h3 o1 go) go.sum) i2 g2
    refine ⟨?_, ?_⟩
    · have e : 24 * (L + 1) + 6 = 24 * L + 18 + 6 + 3 + 3 := by omega
      rw [e]
      exact o1
    · have e : 24 * (L + 1) + 18 = 24 * L + 18 + 6 + 3 + 3 + 6 + 3 + 3 := by omega
      rw [e]
      exact a1
theorem ep_top (hG : GC G) (h3 : l.length ≤ 300) (hsw : sw ≤ 9) : EP Y_Re_readSum [some (.ref 225), some (.int (nI 0)), none, none] G l sw 204 (sumR (SS l) (RDF (SS l) (VV l) sw 8).1) := ep_sum hG h3 (ep_RDF hG h3 hsw 8 (Nat.le_refl 8)).1 (gdF_RDF 8).1
end RDg
