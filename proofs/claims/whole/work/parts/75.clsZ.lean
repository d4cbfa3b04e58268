section TPi
variable {c : Cr} {G : Geo} {M : Mem}
def CW (a : Nat) : Prop := (1 ≤ a ∧ a < 105) ∨ CQ a
theorem CQ.w {a : Nat} (h : CQ a) : CW a := Or.inr h
theorem CW.lt {a : Nat} (h : CW a) : a < 234 := by unfold CW CQ at h; omega
theorem CW.r {a : Nat} (h : 1 ≤ a ∧ a < 105) : CW a := Or.inl h
theorem HC_hd {c' : Cr} {M' : Mem} (h : HC c 1 G M) (hw : Wf c') (en : c'.now = c.now) (es : c'.sort = c.sort) (eb : c'.begun = c.begun) (et : c'.steps = c.steps) (ex : c'.texts = c.texts)
    (hr : ∀ a, mR M' a = mR M a) (hk : ∀ k, (2 ≤ k ∧ k ≤ 6) ∨ 15 ≤ k → mI M' k = mI M k) (hf : ∀ j, j = 5 ∨ j = 6 ∨ j = 8 → mI M' 1 j = mI M 1 j)
    (h6 : ∀ p, p < 8 → mI M' (1 + 6) p = nI (c'.hears p)) (h9 : mI M' 1 9 = enO c'.ruling) (h12 : mI M' 1 12 = nI c'.parties.length)
    (hp : ∀ i, i < c'.parties.length → mI M' (1 + 9) i = nI (c'.parties.getD i (0, 0)).1 ∧ mI M' (1 + 10) i = nI (c'.parties.getD i (0, 0)).2) (h15 : mI M' 1 15 = nI c'.saids.length)
    (hs : ∀ i, i < c'.saids.length → mI M' (1 + 11) i = nI (c'.saids.getD i (0, 0)).1 ∧ mI M' (1 + 12) i = nI (c'.saids.getD i (0, 0)).2) (hv : ∀ v, v < 10 → mI M' (1 + 13) v = nI (c'.villages v)) : HC c' 1 G M' := by
  obtain ⟨fs, q1, q2, q3⟩ := h.fs
  refine ⟨by rw [en]; exact h.now.cg (hk _ (by omega)) (hk _ (by omega)) (hk _ (by omega)), fun p hp => ?_, fun p hp => ?_, h6, ⟨fs, q1, (hf 5 (by omega)).trans q2, fun i m hm => ?_⟩, ?_, ?_, fun t ht => ?_, h9, h12, hp, h15, hs, hv, hw⟩
  · rw [en] at hp; rw [hk (1 + 4) (by omega), es]; exact h.sort hp
  · rw [en] at hp; rw [hk (1 + 5) (by omega), eb]; exact h.begun hp
  · rw [et] at hm; exact (q3 i m hm).cg (hk _ (by omega)) (hk _ (by omega)) (hk _ (by omega))
  · rw [et]; exact (hf 6 (by omega)).trans h.steps
  · rw [ex]; exact (hf 8 (by omega)).trans h.texts
  · rw [ex] at ht ⊢
    obtain ⟨a, r1, r2⟩ := h.text ht
    exact ⟨a, by rw [hr]; exact r1, r2.cg fun k hk2 => ⟨hk k (by omega), hr k⟩⟩
theorem CM_village (hC : CM c G M) {v n : Nat} (hn : n ≤ 99) : CM (c.setVillage v n) G (wI M (1 + 13) v (nI n)) := by
  have h := hC.H
  have e : ∀ a, a ≠ 1 + 13 → mI (wI M (1 + 13) v (nI n)) a = mI M a := fun a ha => mI_ne ha
  refine ⟨hC.G, hC.R.sc (Sc.rf.wI (P := CW) (CW.r (by omega))), HC_hd (c' := c.setVillage v n) h (Wf_village h.w hn) rfl rfl rfl rfl rfl (fun _ => rfl) (fun k hk => e k (by omega)) (fun j _ => by rw [e 1 (by decide)]) (fun p hp => by rw [e (1 + 6) (by decide)]; exact h.hears hp) (by rw [e 1 (by decide)]; exact h.ruling) (by rw [e 1 (by decide)]; exact h.parties) (fun i hi => by rw [e (1 + 9) (by decide), e (1 + 10) (by decide)]; exact h.party hi) (by rw [e 1 (by decide)]; exact h.saids) (fun i hi => by rw [e (1 + 11) (by decide), e (1 + 12) (by decide)]; exact h.said hi) (fun w hw => ?_)⟩
  rw [mI_wa]
  show _ = nI (if w = v then n else c.villages w)
  by_cases q : w = v
  · rw [if_pos q, if_pos q]
  · rw [if_neg q, if_neg q]; exact h.village hw
theorem sp_TP_village (hC : CM c G M) (x y : Int32) : E 1 0 0 Y_TP_village 0 [some (.ref 0), some (.int x), some (.int y)] [] G M (QI G fun r M' => r = pI (inN x 10 ∧ inN y 100) ∧ CM (st_village c x y) G M' ∧ Sc CW M M') := by
  have hG := hC.G
  have hR := hC.R
  revert x y
  refine args2 10 100 (fun v n hv hx ht hn hy ht2 => ?_) (fun x y hx => ?_) (fun x y hx hy => ?_)
  · have e : st_village c (nI v) (nI n) = c.setVillage v n := by rw [st_village, if_pos ⟨hx, hy⟩, ht, ht2]
    rw [e, pI_t ⟨hx, hy⟩]
    refine E_iload_n d_TP_village_0 rfl ?_
    first | (with_reducible refine E_isN1 ?_; refine E_if_lt 20 d_TP_village_1 rfl (nz_lt (by omega) fun h1 => ?_) (nz_nlt (by omega) fun h1 => ?_)) | refine E_if_lt 20 d_TP_village_1 rfl (fun h1 => ?_) (fun h1 => ?_)
    · exfalso; exact absurd h1 (Nat.not_lt_zero v)
    refine E_iload_n d_TP_village_4 rfl ?_
    refine E_bipush (v := nI 10) d_TP_village_5 (by decide) ?_
    first | (with_reducible refine E_isN2 ?_; refine E_icmp_ge 20 d_TP_village_7 rfl (nb_le (by omega) (by omega) fun h7 => ?_) (nb_nle (by omega) (by omega) fun h7 => ?_)) | refine E_icmp_ge 20 d_TP_village_7 rfl (fun h7 => ?_) (fun h7 => ?_)
    · exfalso; omega
    refine E_iload_n d_TP_village_10 rfl ?_
    first | (with_reducible refine E_isN1 ?_; refine E_if_lt 20 d_TP_village_11 rfl (nz_lt (by omega) fun h11 => ?_) (nz_nlt (by omega) fun h11 => ?_)) | refine E_if_lt 20 d_TP_village_11 rfl (fun h11 => ?_) (fun h11 => ?_)
    · exfalso; exact absurd h11 (Nat.not_lt_zero n)
    refine E_iload_n d_TP_village_14 rfl ?_
    refine E_bipush (v := nI 99) d_TP_village_15 (by decide) ?_
    first | (with_reducible refine E_isN2 ?_; refine E_icmp_le 22 d_TP_village_17 rfl (nb_le (by omega) (by omega) fun h17 => ?_) (nb_nle (by omega) (by omega) fun h17 => ?_)) | refine E_icmp_le 22 d_TP_village_17 rfl (fun h17 => ?_) (fun h17 => ?_)
    rotate_left
    · exfalso; omega
    first | refine E_aload_n d_TP_village_22 rfl ?_ | refine E_aload_nN d_TP_village_22 rfl ?_
    refine E_getR d_TP_village_23 gf_TP_10 (by first | exact hG.s (by decide) rfl) (by first | exact hR.o rfl | exact hR.c cr1 rfl | exact hR.m0 ad2) ?_
    refine E_getR d_TP_village_26 gf_TP_355 (by first | exact hG.s (by decide) rfl) (by first | exact hR.o rfl | exact hR.c cr1 rfl | exact hR.m0 ad2) ?_
    refine E_iload_n d_TP_village_29 rfl ?_
    refine E_iload_n d_TP_village_30 rfl ?_
    refine E_S3 (sp_TP_put (hG.s (k := 1 + 13) (by decide) rfl) (by decide) (by omega)) d_TP_village_31 ml_TP_351 cb_TP_put cs_TP_put ⟨by decide, by decide⟩ rfl (Nat.le_of_ble_eq_true rfl) (Nat.le_of_ble_eq_true rfl) (kV fun M1 hc => ?_)
    subst hc
    refine E_iconst (v := nI 1) d_TP_village_34 rfl ?_
    refine E_retZ d_TP_village_35 rfl (by decide) ?_
    exact ⟨rfl, CM_village hC (by omega), Sc.rf.wI (CW.r (by omega))⟩
  · have hn : ¬ (inN x 10 ∧ inN y 100) := fun q => hx q.1
    have ho := out_ge (n := 10) (by decide) hx
    rw [st_village, if_neg hn, pI_f hn]
    refine E_iload_n d_TP_village_0 rfl ?_
    first | (with_reducible refine E_isN1 ?_; refine E_if_lt 20 d_TP_village_1 rfl (nz_lt (by omega) fun h1 => ?_) (nz_nlt (by omega) fun h1 => ?_)) | refine E_if_lt 20 d_TP_village_1 rfl (fun h1 => ?_) (fun h1 => ?_)
    · refine E_iconst (v := nI 0) d_TP_village_20 rfl ?_
      refine E_retZ d_TP_village_21 rfl (by decide) ?_
      exact ⟨rfl, hC, Sc.rf⟩
    · refine E_iload_n d_TP_village_4 rfl ?_
      refine E_bipush (v := nI 10) d_TP_village_5 (by decide) ?_
      first | (with_reducible refine E_isN2 ?_; refine E_icmp_ge 20 d_TP_village_7 rfl (nb_le (by omega) (by omega) fun h7 => ?_) (nb_nle (by omega) (by omega) fun h7 => ?_)) | refine E_icmp_ge 20 d_TP_village_7 rfl (fun h7 => ?_) (fun h7 => ?_)
      rotate_left
      · exfalso; exact ho h1 h7
      refine E_iconst (v := nI 0) d_TP_village_20 rfl ?_
      refine E_retZ d_TP_village_21 rfl (by decide) ?_
      exact ⟨rfl, hC, Sc.rf⟩
  · have hn : ¬ (inN x 10 ∧ inN y 100) := fun q => hy q.2
    have ho := out_le (n := 99) (by decide) hy
    rw [st_village, if_neg hn, pI_f hn]
    refine E_iload_n d_TP_village_0 rfl ?_
    first | (with_reducible refine E_isN1 ?_; refine E_if_lt 20 d_TP_village_1 rfl (nz_lt (by omega) fun h1 => ?_) (nz_nlt (by omega) fun h1 => ?_)) | refine E_if_lt 20 d_TP_village_1 rfl (fun h1 => ?_) (fun h1 => ?_)
    · refine E_iconst (v := nI 0) d_TP_village_20 rfl ?_
      refine E_retZ d_TP_village_21 rfl (by decide) ?_
      exact ⟨rfl, hC, Sc.rf⟩
    · refine E_iload_n d_TP_village_4 rfl ?_
      refine E_bipush (v := nI 10) d_TP_village_5 (by decide) ?_
      first | (with_reducible refine E_isN2 ?_; refine E_icmp_ge 20 d_TP_village_7 rfl (nb_le (by omega) (by omega) fun h7 => ?_) (nb_nle (by omega) (by omega) fun h7 => ?_)) | refine E_icmp_ge 20 d_TP_village_7 rfl (fun h7 => ?_) (fun h7 => ?_)
      · refine E_iconst (v := nI 0) d_TP_village_20 rfl ?_
        refine E_retZ d_TP_village_21 rfl (by decide) ?_
        exact ⟨rfl, hC, Sc.rf⟩
      · refine E_iload_n d_TP_village_10 rfl ?_
        first | (with_reducible refine E_isN1 ?_; refine E_if_lt 20 d_TP_village_11 rfl (nz_lt (by omega) fun h11 => ?_) (nz_nlt (by omega) fun h11 => ?_)) | refine E_if_lt 20 d_TP_village_11 rfl (fun h11 => ?_) (fun h11 => ?_)
        · refine E_iconst (v := nI 0) d_TP_village_20 rfl ?_
          refine E_retZ d_TP_village_21 rfl (by decide) ?_
          exact ⟨rfl, hC, Sc.rf⟩
        · refine E_iload_n d_TP_village_14 rfl ?_
          refine E_bipush (v := nI 99) d_TP_village_15 (by decide) ?_
          first | (with_reducible refine E_isN2 ?_; refine E_icmp_le 22 d_TP_village_17 rfl (nb_le (by omega) (by omega) fun h17 => ?_) (nb_nle (by omega) (by omega) fun h17 => ?_)) | refine E_icmp_le 22 d_TP_village_17 rfl (fun h17 => ?_) (fun h17 => ?_)
          · exfalso; exact ho h11 h17
          refine E_iconst (v := nI 0) d_TP_village_20 rfl ?_
          refine E_retZ d_TP_village_21 rfl (by decide) ?_
          exact ⟨rfl, hC, Sc.rf⟩
theorem CM_hear (hC : CM c G M) {a b : Nat} (ha : a < c.now.people) (hb : b < c.now.people) : CM (earS c a b) G (wI M (1 + 6) a (nI (c.hears a ^^^ 2 ^ b))) := by
  have h := hC.H
  have e : ∀ k, k ≠ 1 + 6 → mI (wI M (1 + 6) a (nI (c.hears a ^^^ 2 ^ b))) k = mI M k := fun k hk => mI_ne hk
  refine ⟨hC.G, hC.R.sc (Sc.rf.wI (P := CW) (CW.r (by omega))), HC_hd (c' := earS c a b) h (Wf_hear h.w ha hb) rfl rfl rfl rfl rfl (fun _ => rfl) (fun k hk => e k (by omega)) (fun j _ => by rw [e 1 (by decide)]) (fun p hp => ?_) (by rw [e 1 (by decide)]; exact h.ruling) (by rw [e 1 (by decide)]; exact h.parties) (fun i hi => by rw [e (1 + 9) (by decide), e (1 + 10) (by decide)]; exact h.party hi) (by rw [e 1 (by decide)]; exact h.saids) (fun i hi => by rw [e (1 + 11) (by decide), e (1 + 12) (by decide)]; exact h.said hi) (fun w hw => by rw [e (1 + 13) (by decide)]; exact h.village hw)⟩
  rw [mI_wa]
  show _ = nI (if p = a then c.hears a ^^^ 2 ^ b else c.hears p)
  by_cases q : p = a
  · rw [if_pos q, if_pos q]
  · rw [if_neg q, if_neg q]; exact h.hears hp
theorem sp_Cr_turnEar (hC : CM c G M) (x y : Int32) : E 1 0 0 Y_Cr_turnEar 0 [some (.ref 1), some (.int x), some (.int y)] [] G M (QI G fun r M' => r = ans_hear c x y ∧ CM (st_hear c x y) G M' ∧ Sc CW M M') := by
  have hG := hC.G
  have hR := hC.R
  have hm := hC.now
  have hw := hC.w
  have hp8 := hw.p8
  by_cases hxy : x = y
  · have hn : ¬ heaP c x y := fun q => q.2.2 hxy
    rw [ans_hear, st_hear, if_neg hn, pI_f hn]
    first | refine E_aload_n d_Cr_turnEar_0 rfl ?_ | refine E_aload_nN d_Cr_turnEar_0 rfl ?_
    refine E_getR d_Cr_turnEar_1 gf_Cr_12 (by first | exact hG.s (by decide) rfl) (by first | exact hR.o rfl | exact hR.c cr1 rfl | exact hR.m0 ad2) ?_
    refine E_iload_n d_Cr_turnEar_4 rfl ?_
    refine E_V1 (sp_Mo_hasPerson hG ad2 hm hw.mo _) d_Cr_turnEar_5 ml_Cr_103 cb_Mo_hasPerson cv_Mo_hasPerson (by first | exact hG.s (by decide) rfl) ⟨by decide, rfl⟩ ⟨by decide, by decide⟩ rfl (Nat.le_of_ble_eq_true rfl) (Nat.le_of_ble_eq_true rfl) (kI fun r1 M1 hc => ?_)
    obtain ⟨rfl, rfl⟩ := hc
    first | (with_reducible refine E_isP ?_; refine E_if_eq 27 d_Cr_turnEar_8 rfl (pb_0 fun h8 => ?_) (pb_1 fun h8 => ?_)) | (with_reducible refine E_isN1 ?_; refine E_if_eq 27 d_Cr_turnEar_8 rfl (nz_eq (by omega) fun h8 => ?_) (nz_ne fun h8 => ?_)) | refine E_if_eq 27 d_Cr_turnEar_8 rfl (fun h8 => ?_) (fun h8 => ?_)
    · refine E_iconst (v := nI 0) d_Cr_turnEar_27 rfl ?_
      refine E_retZ d_Cr_turnEar_28 rfl (by decide) ?_
      exact ⟨rfl, hC, Sc.rf⟩
    · first | refine E_aload_n d_Cr_turnEar_11 rfl ?_ | refine E_aload_nN d_Cr_turnEar_11 rfl ?_
      refine E_getR d_Cr_turnEar_12 gf_Cr_12 (by first | exact hG.s (by decide) rfl) (by first | exact hR.o rfl | exact hR.c cr1 rfl | exact hR.m0 ad2) ?_
      refine E_iload_n d_Cr_turnEar_15 rfl ?_
      refine E_V1 (sp_Mo_hasPerson hG ad2 hm hw.mo _) d_Cr_turnEar_16 ml_Cr_103 cb_Mo_hasPerson cv_Mo_hasPerson (by first | exact hG.s (by decide) rfl) ⟨by decide, rfl⟩ ⟨by decide, by decide⟩ rfl (Nat.le_of_ble_eq_true rfl) (Nat.le_of_ble_eq_true rfl) (kI fun r1 M1 hc => ?_)
      obtain ⟨rfl, rfl⟩ := hc
      first | (with_reducible refine E_isP ?_; refine E_if_eq 27 d_Cr_turnEar_19 rfl (pb_0 fun h19 => ?_) (pb_1 fun h19 => ?_)) | (with_reducible refine E_isN1 ?_; refine E_if_eq 27 d_Cr_turnEar_19 rfl (nz_eq (by omega) fun h19 => ?_) (nz_ne fun h19 => ?_)) | refine E_if_eq 27 d_Cr_turnEar_19 rfl (fun h19 => ?_) (fun h19 => ?_)
      · refine E_iconst (v := nI 0) d_Cr_turnEar_27 rfl ?_
        refine E_retZ d_Cr_turnEar_28 rfl (by decide) ?_
        exact ⟨rfl, hC, Sc.rf⟩
      · refine E_iload_n d_Cr_turnEar_22 rfl ?_
        refine E_iload_n d_Cr_turnEar_23 rfl ?_
        first | (with_reducible refine E_isN2 ?_; refine E_icmp_ne 29 d_Cr_turnEar_24 rfl (nb_ne fun h24 => ?_) (nb_eq (by omega) (by omega) fun h24 => ?_)) | refine E_icmp_ne 29 d_Cr_turnEar_24 rfl (fun h24 => ?_) (fun h24 => ?_)
        · exfalso; exact h24 hxy
        refine E_iconst (v := nI 0) d_Cr_turnEar_27 rfl ?_
        refine E_retZ d_Cr_turnEar_28 rfl (by decide) ?_
        exact ⟨rfl, hC, Sc.rf⟩
  · revert hxy
    revert x y
    refine args2 c.now.people c.now.people (fun a b ha hx ht hb hy ht2 hxy => ?_) (fun x y hx hxy => ?_) (fun x y hx hy hxy => ?_)
    · have hP : heaP c (nI a) (nI b) := ⟨hx, hy, hxy⟩
      have hab : ¬ a = b := fun q => hxy (by rw [q])
      have hh := hC.H.hears (show a < 8 by omega)
      rw [ans_hear, st_hear, if_pos hP, pI_t hP, ht, ht2]
      first | refine E_aload_n d_Cr_turnEar_0 rfl ?_ | refine E_aload_nN d_Cr_turnEar_0 rfl ?_
      refine E_getR d_Cr_turnEar_1 gf_Cr_12 (by first | exact hG.s (by decide) rfl) (by first | exact hR.o rfl | exact hR.c cr1 rfl | exact hR.m0 ad2) ?_
      refine E_iload_n d_Cr_turnEar_4 rfl ?_
      refine E_V1 (sp_Mo_hasPerson hG ad2 hm hw.mo _) d_Cr_turnEar_5 ml_Cr_103 cb_Mo_hasPerson cv_Mo_hasPerson (by first | exact hG.s (by decide) rfl) ⟨by decide, rfl⟩ ⟨by decide, by decide⟩ rfl (Nat.le_of_ble_eq_true rfl) (Nat.le_of_ble_eq_true rfl) (kI fun r1 M1 hc => ?_)
      obtain ⟨rfl, rfl⟩ := hc
      first | (with_reducible refine E_isP ?_; refine E_if_eq 27 d_Cr_turnEar_8 rfl (pb_0 fun h8 => ?_) (pb_1 fun h8 => ?_)) | (with_reducible refine E_isN1 ?_; refine E_if_eq 27 d_Cr_turnEar_8 rfl (nz_eq (by omega) fun h8 => ?_) (nz_ne fun h8 => ?_)) | refine E_if_eq 27 d_Cr_turnEar_8 rfl (fun h8 => ?_) (fun h8 => ?_)
      · exfalso; exact h8 hx
      first | refine E_aload_n d_Cr_turnEar_11 rfl ?_ | refine E_aload_nN d_Cr_turnEar_11 rfl ?_
      refine E_getR d_Cr_turnEar_12 gf_Cr_12 (by first | exact hG.s (by decide) rfl) (by first | exact hR.o rfl | exact hR.c cr1 rfl | exact hR.m0 ad2) ?_
      refine E_iload_n d_Cr_turnEar_15 rfl ?_
      refine E_V1 (sp_Mo_hasPerson hG ad2 hm hw.mo _) d_Cr_turnEar_16 ml_Cr_103 cb_Mo_hasPerson cv_Mo_hasPerson (by first | exact hG.s (by decide) rfl) ⟨by decide, rfl⟩ ⟨by decide, by decide⟩ rfl (Nat.le_of_ble_eq_true rfl) (Nat.le_of_ble_eq_true rfl) (kI fun r1 M1 hc => ?_)
      obtain ⟨rfl, rfl⟩ := hc
      first | (with_reducible refine E_isP ?_; refine E_if_eq 27 d_Cr_turnEar_19 rfl (pb_0 fun h19 => ?_) (pb_1 fun h19 => ?_)) | (with_reducible refine E_isN1 ?_; refine E_if_eq 27 d_Cr_turnEar_19 rfl (nz_eq (by omega) fun h19 => ?_) (nz_ne fun h19 => ?_)) | refine E_if_eq 27 d_Cr_turnEar_19 rfl (fun h19 => ?_) (fun h19 => ?_)
      · exfalso; exact h19 hy
      refine E_iload_n d_Cr_turnEar_22 rfl ?_
      refine E_iload_n d_Cr_turnEar_23 rfl ?_
      first | (with_reducible refine E_isN2 ?_; refine E_icmp_ne 29 d_Cr_turnEar_24 rfl (nb_ne fun h24 => ?_) (nb_eq (by omega) (by omega) fun h24 => ?_)) | refine E_icmp_ne 29 d_Cr_turnEar_24 rfl (fun h24 => ?_) (fun h24 => ?_)
      rotate_left
      · exfalso; omega
      first | refine E_aload_n d_Cr_turnEar_29 rfl ?_ | refine E_aload_nN d_Cr_turnEar_29 rfl ?_
      refine E_getR d_Cr_turnEar_30 gf_Cr_25 (by first | exact hG.s (by decide) rfl) (by first | exact hR.o rfl | exact hR.c cr1 rfl | exact hR.m0 ad2) ?_
      refine E_iload_n d_Cr_turnEar_33 rfl ?_
      first | refine E_aload_n d_Cr_turnEar_34 rfl ?_ | refine E_aload_nN d_Cr_turnEar_34 rfl ?_
      refine E_getR d_Cr_turnEar_35 gf_Cr_25 (by first | exact hG.s (by decide) rfl) (by first | exact hR.o rfl | exact hR.c cr1 rfl | exact hR.m0 ad2) ?_
      refine E_iload_n d_Cr_turnEar_38 rfl ?_
      refine E_SN2 (sp_TP_at (hG.s (k := 1 + 6) (by decide) rfl) (by decide) (by omega) hh) d_Cr_turnEar_39 nl_Cr_107 cb_TP_at cs_TP_at ⟨by decide, by decide⟩ rfl (Nat.le_of_ble_eq_true rfl) (Nat.le_of_ble_eq_true rfl) (kI fun r1 M1 hc => ?_)
      obtain ⟨rfl, rfl⟩ := hc
      refine E_iconst (v := nI 1) d_Cr_turnEar_42 rfl ?_
      refine E_iload_n d_Cr_turnEar_43 rfl ?_
      first | (with_reducible refine E_isN2 ?_; first | refine E_ishl1 d_Cr_turnEar_44 (by omega) ?_ | refine E_ishlN d_Cr_turnEar_44 (by omega) (by omega) ?_) | refine E_ishl d_Cr_turnEar_44 ?_
      first | (with_reducible refine E_isN2 ?_; refine E_ixorN d_Cr_turnEar_45 ?_) | refine E_ixor d_Cr_turnEar_45 ?_
      refine E_SN3 (sp_TP_put (hG.s (k := 1 + 6) (by decide) rfl) (by decide) (by omega)) d_Cr_turnEar_46 nl_Cr_99 cb_TP_put cs_TP_put ⟨by decide, by decide⟩ rfl (Nat.le_of_ble_eq_true rfl) (Nat.le_of_ble_eq_true rfl) (kV fun M1 hc => ?_)
      subst hc
      refine E_iconst (v := nI 1) d_Cr_turnEar_49 rfl ?_
      refine E_retZ d_Cr_turnEar_50 rfl (by decide) ?_
      exact ⟨rfl, CM_hear hC ha hb, Sc.rf.wI (CW.r (by omega))⟩
    · have hn : ¬ heaP c x y := fun q => hx q.1
      rw [ans_hear, st_hear, if_neg hn, pI_f hn]
      first | refine E_aload_n d_Cr_turnEar_0 rfl ?_ | refine E_aload_nN d_Cr_turnEar_0 rfl ?_
      refine E_getR d_Cr_turnEar_1 gf_Cr_12 (by first | exact hG.s (by decide) rfl) (by first | exact hR.o rfl | exact hR.c cr1 rfl | exact hR.m0 ad2) ?_
      refine E_iload_n d_Cr_turnEar_4 rfl ?_
      refine E_V1 (sp_Mo_hasPerson hG ad2 hm hw.mo _) d_Cr_turnEar_5 ml_Cr_103 cb_Mo_hasPerson cv_Mo_hasPerson (by first | exact hG.s (by decide) rfl) ⟨by decide, rfl⟩ ⟨by decide, by decide⟩ rfl (Nat.le_of_ble_eq_true rfl) (Nat.le_of_ble_eq_true rfl) (kI fun r1 M1 hc => ?_)
      obtain ⟨rfl, rfl⟩ := hc
      first | (with_reducible refine E_isP ?_; refine E_if_eq 27 d_Cr_turnEar_8 rfl (pb_0 fun h8 => ?_) (pb_1 fun h8 => ?_)) | (with_reducible refine E_isN1 ?_; refine E_if_eq 27 d_Cr_turnEar_8 rfl (nz_eq (by omega) fun h8 => ?_) (nz_ne fun h8 => ?_)) | refine E_if_eq 27 d_Cr_turnEar_8 rfl (fun h8 => ?_) (fun h8 => ?_)
      rotate_left
      · exfalso; exact hx h8
      refine E_iconst (v := nI 0) d_Cr_turnEar_27 rfl ?_
      refine E_retZ d_Cr_turnEar_28 rfl (by decide) ?_
      exact ⟨rfl, hC, Sc.rf⟩
    · have hn : ¬ heaP c x y := fun q => hy q.2.1
      rw [ans_hear, st_hear, if_neg hn, pI_f hn]
      first | refine E_aload_n d_Cr_turnEar_0 rfl ?_ | refine E_aload_nN d_Cr_turnEar_0 rfl ?_
      refine E_getR d_Cr_turnEar_1 gf_Cr_12 (by first | exact hG.s (by decide) rfl) (by first | exact hR.o rfl | exact hR.c cr1 rfl | exact hR.m0 ad2) ?_
      refine E_iload_n d_Cr_turnEar_4 rfl ?_
      refine E_V1 (sp_Mo_hasPerson hG ad2 hm hw.mo _) d_Cr_turnEar_5 ml_Cr_103 cb_Mo_hasPerson cv_Mo_hasPerson (by first | exact hG.s (by decide) rfl) ⟨by decide, rfl⟩ ⟨by decide, by decide⟩ rfl (Nat.le_of_ble_eq_true rfl) (Nat.le_of_ble_eq_true rfl) (kI fun r1 M1 hc => ?_)
      obtain ⟨rfl, rfl⟩ := hc
      first | (with_reducible refine E_isP ?_; refine E_if_eq 27 d_Cr_turnEar_8 rfl (pb_0 fun h8 => ?_) (pb_1 fun h8 => ?_)) | (with_reducible refine E_isN1 ?_; refine E_if_eq 27 d_Cr_turnEar_8 rfl (nz_eq (by omega) fun h8 => ?_) (nz_ne fun h8 => ?_)) | refine E_if_eq 27 d_Cr_turnEar_8 rfl (fun h8 => ?_) (fun h8 => ?_)
      · exfalso; exact h8 hx
      first | refine E_aload_n d_Cr_turnEar_11 rfl ?_ | refine E_aload_nN d_Cr_turnEar_11 rfl ?_
      refine E_getR d_Cr_turnEar_12 gf_Cr_12 (by first | exact hG.s (by decide) rfl) (by first | exact hR.o rfl | exact hR.c cr1 rfl | exact hR.m0 ad2) ?_
      refine E_iload_n d_Cr_turnEar_15 rfl ?_
      refine E_V1 (sp_Mo_hasPerson hG ad2 hm hw.mo _) d_Cr_turnEar_16 ml_Cr_103 cb_Mo_hasPerson cv_Mo_hasPerson (by first | exact hG.s (by decide) rfl) ⟨by decide, rfl⟩ ⟨by decide, by decide⟩ rfl (Nat.le_of_ble_eq_true rfl) (Nat.le_of_ble_eq_true rfl) (kI fun r1 M1 hc => ?_)
      obtain ⟨rfl, rfl⟩ := hc
      first | (with_reducible refine E_isP ?_; refine E_if_eq 27 d_Cr_turnEar_19 rfl (pb_0 fun h19 => ?_) (pb_1 fun h19 => ?_)) | (with_reducible refine E_isN1 ?_; refine E_if_eq 27 d_Cr_turnEar_19 rfl (nz_eq (by omega) fun h19 => ?_) (nz_ne fun h19 => ?_)) | refine E_if_eq 27 d_Cr_turnEar_19 rfl (fun h19 => ?_) (fun h19 => ?_)
      rotate_left
      · exfalso; exact hy h19
      refine E_iconst (v := nI 0) d_Cr_turnEar_27 rfl ?_
      refine E_retZ d_Cr_turnEar_28 rfl (by decide) ?_
      exact ⟨rfl, hC, Sc.rf⟩
theorem sp_TP_hear (hC : CM c G M) (x y : Int32) : E 2 0 0 Y_TP_hear 0 [some (.ref 0), some (.int x), some (.int y)] [] G M (QI G fun r M' => r = ans_hear c x y ∧ CM (st_hear c x y) G M' ∧ Sc CW M M') := by
  have hG := hC.G
  have hR := hC.R
  have hm := hC.now
  have hw := hC.w
  have hp8 := hw.p8
  have h01 : ans_hear c x y = 0 ∨ ans_hear c x y = 1 := pI_01 _
  first | refine E_aload_n d_TP_hear_0 rfl ?_ | refine E_aload_nN d_TP_hear_0 rfl ?_
  refine E_getR d_TP_hear_1 gf_TP_10 (by first | exact hG.s (by decide) rfl) (by first | exact hR.o rfl | exact hR.c cr1 rfl | exact hR.m0 ad2) ?_
  refine E_iload_n d_TP_hear_4 rfl ?_
  refine E_iload_n d_TP_hear_5 rfl ?_
  refine E_V2 (sp_Cr_turnEar hC x y) d_TP_hear_6 ml_TP_89 cb_Cr_turnEar cv_Cr_turnEar (by first | exact hG.s (by decide) rfl) ⟨by decide, rfl⟩ ⟨by decide, by decide⟩ rfl (Nat.le_of_ble_eq_true rfl) (Nat.le_of_ble_eq_true rfl) (kI fun r1 M1 hc => ?_)
  obtain ⟨rfl, hC1, hS1⟩ := hc
  refine E_retZ d_TP_hear_9 rfl (by first | exact h01 | exact h01.symm) ?_
  exact ⟨rfl, hC1, hS1⟩
theorem CM_rule (hC : CM c G M) {r : Option Nat} (hr : ∀ t, r = some t → t < c.texts.length) : CM (ruleS c r) G (wI M 1 9 (enO r)) := by
  have h := hC.H
  have e : ∀ k, k ≠ 1 → mI (wI M 1 9 (enO r)) k = mI M k := fun k hk => mI_ne hk
  have f : ∀ j, j ≠ 9 → mI (wI M 1 9 (enO r)) 1 j = mI M 1 j := fun j hj => (mI_wa j).trans (if_neg hj)
  refine ⟨hC.G, hC.R.sc (Sc.rf.wI (P := CW) (CW.r (by omega))), HC_hd (c' := ruleS c r) h ?_ rfl rfl rfl rfl rfl (fun _ => rfl) (fun k hk => e k (by omega)) (fun j hj => f j (by omega)) (fun p hp => by rw [e (1 + 6) (by decide)]; exact h.hears hp) ((mI_wa 9).trans (if_pos rfl)) ((f 12 (by decide)).trans h.parties) (fun i hi => by rw [e (1 + 9) (by decide), e (1 + 10) (by decide)]; exact h.party hi) ((f 15 (by decide)).trans h.saids) (fun i hi => by rw [e (1 + 11) (by decide), e (1 + 12) (by decide)]; exact h.said hi) (fun w hw => by rw [e (1 + 13) (by decide)]; exact h.village hw)⟩
  obtain ⟨a1, a2, a3, a4, a5, a6, a7, a8, a9, a10, a11, a12, a13, a14, a15⟩ := h.w
  exact ⟨a1, a2, a3, a4, a5, a6, a7, a8, hr, a10, a11, a12, a13, a14, a15⟩
end TPi
