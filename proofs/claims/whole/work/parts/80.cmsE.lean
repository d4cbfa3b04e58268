section CMe
variable {c : Cr} {G : Geo} {M : Mem}
theorem CM_now (hC : CM c G M) {m : Mo} {M' : Mem} {P : Nat → Prop} (hX : Sc P M M') (hk : ∀ k, k = 1 ∨ (5 ≤ k ∧ k < 105) ∨ 234 ≤ k → mI M' k = mI M k) (hp : m.people = c.now.people) (hm : MoC m (1 + 1) M') (hw : Wf (c.setNow m)) : CM (c.setNow m) G M' := by
  have h := hC.H
  obtain ⟨fs, q1, q2, q3⟩ := h.fs
  have hr : ∀ a, a ≠ 212 → mR M' a = mR M a := fun a q => funext fun j => hX.1 a j (fun r => absurd r q)
  have e0 := hk 1 (Or.inl rfl)
  refine ⟨hC.G, hC.R.sc hX, hm, fun p hpp => ?_, fun p hpp => ?_, fun p hpp => ?_, ⟨fs, q1, by rw [e0]; exact q2, fun i m2 hm2 => ?_⟩, by rw [e0]; exact h.steps, by rw [e0]; exact h.texts, fun t ht => ?_, by rw [e0]; exact h.ruling, by rw [e0]; exact h.parties, fun i hi => ?_, by rw [e0]; exact h.saids, fun i hi => ?_, fun v hv => ?_, hw⟩
  · have hpp : p < m.people := hpp
    rw [hk (1 + 4) (by omega)]; exact h.sort (by omega)
  · have hpp : p < m.people := hpp
    rw [hk (1 + 5) (by omega)]; exact h.begun (by omega)
  · rw [hk (1 + 6) (by omega)]; exact h.hears hpp
  · exact (q3 i m2 hm2).cg (hk _ (by omega)) (hk _ (by omega)) (hk _ (by omega))
  · obtain ⟨a, r1, r2⟩ := h.text ht
    exact ⟨a, by rw [hr _ (by decide)]; exact r1, r2.cg fun k hk2 => ⟨hk k (by omega), hr k (by omega)⟩⟩
  · rw [hk (1 + 9) (by omega), hk (1 + 10) (by omega)]; exact h.party hi
  · rw [hk (1 + 11) (by omega), hk (1 + 12) (by omega)]; exact h.said hi
  · rw [hk (1 + 13) (by omega)]; exact h.village hv
theorem MoC_lean {m : Mo} {a p l : Nat} (h : MoC m a M) : MoC (setLean m p l) a (wI M (a + 1) p (nI l)) := by
  obtain ⟨m0, m1, m2, m3, m4, m5, m6, m7⟩ := h
  have e : ∀ k, k ≠ a + 1 → mI (wI M (a + 1) p (nI l)) k = mI M k := fun k hk => mI_ne hk
  refine ⟨by rw [e a (by omega)]; exact m0, by rw [e a (by omega)]; exact m1, by rw [e a (by omega)]; exact m2, by rw [e a (by omega)]; exact m3, by rw [e a (by omega)]; exact m4, by rw [e a (by omega)]; exact m5, fun q hq => ?_, fun i hi => by rw [e (a + 2) (by omega)]; exact m7 i hi⟩
  rw [mI_wa]
  show _ = nI (if q = p then l else m.lean q)
  by_cases hqp : q = p
  · rw [if_pos hqp, if_pos hqp]
  · rw [if_neg hqp, if_neg hqp]; exact m6 q hq
theorem CM_lean (hC : CM c G M) {p l : Nat} (hl : l ≤ 9) : CM (c.setNow (setLean c.now p l)) G (wI M (1 + 1 + 1) p (nI l)) :=
  CM_now hC (Sc.rf.wI (P := CW) (CW.r (by omega))) (fun k hk => mI_ne (by omega)) rfl (MoC_lean hC.now) (Wf_setLean hC.w hl)
theorem CM_shift {x y v : Int32} (hC : CM c G M) (hn : nudP c x y) (hv : v = nI (c.now.lean (tN x)) + y) : CM (shiftS c (tN x) y.toInt) G (wI M (1 + 1 + 1) (tN x) v) := by
  have hl9 := hC.w.lean9 (tN x)
  have e := lean_add hl9 hn.2.1
  have e2 : v = nI ((c.now.lean (tN x) : Int) + y.toInt).toNat := by
    have h3 := hn.2.2.2
    rw [hv, iI_of (nI _ + y), e, nI_iI, Int.toNat_of_nonneg h3.1]
  rw [e2]
  exact CM_lean hC (by have := hn.2.2.2; omega)
theorem sp_Ro_shift (hC : CM c G M) {x y : Int32} (hn : nudP c x y) : E 1 0 0 Y_Ro_shift 0 [some (.ref 214), some (.int x), some (.int y)] [] G M (QV G fun M' => CM (shiftS c (tN x) y.toInt) G M' ∧ Sc CW M M') := by
  have hG := hC.G
  have hR := hC.R
  have hp8 := hC.w.p8
  have e := (in_nI hn.1).1
  have hp := (in_nI hn.1).2
  have el := hC.now.lean hp
  have ok := CM_shift hC hn rfl
  have s : Sc CW M (wI M (1 + 1 + 1) (tN x) (nI (c.now.lean (tN x)) + y)) := Sc.rf.wI (CW.r (by omega))
  generalize ht : tN x = p at hp el ok s e
  subst e
  first | refine E_aload_n d_Ro_shift_0 rfl ?_ | refine E_aload_nN d_Ro_shift_0 rfl ?_
  refine E_getR d_Ro_shift_1 gf_Ro_15 (by first | exact hG.s (by decide) rfl) (by first | exact hR.o rfl | exact hR.c cr1 rfl | exact hR.m0 ad2) ?_
  refine E_getR d_Ro_shift_4 gf_Ro_93 (by first | exact hG.s (by decide) rfl) (by first | exact hR.o rfl | exact hR.c cr1 rfl | exact hR.m0 ad2) ?_
  refine E_getR d_Ro_shift_7 gf_Ro_49 (by first | exact hG.s (by decide) rfl) (by first | exact hR.o rfl | exact hR.c cr1 rfl | exact hR.m0 ad2) ?_
  refine E_iload_n d_Ro_shift_10 rfl ?_
  first | refine E_aload_n d_Ro_shift_11 rfl ?_ | refine E_aload_nN d_Ro_shift_11 rfl ?_
  refine E_getR d_Ro_shift_12 gf_Ro_15 (by first | exact hG.s (by decide) rfl) (by first | exact hR.o rfl | exact hR.c cr1 rfl | exact hR.m0 ad2) ?_
  refine E_getR d_Ro_shift_15 gf_Ro_93 (by first | exact hG.s (by decide) rfl) (by first | exact hR.o rfl | exact hR.c cr1 rfl | exact hR.m0 ad2) ?_
  refine E_getR d_Ro_shift_18 gf_Ro_49 (by first | exact hG.s (by decide) rfl) (by first | exact hR.o rfl | exact hR.c cr1 rfl | exact hR.m0 ad2) ?_
  refine E_iload_n d_Ro_shift_21 rfl ?_
  refine E_SN2 (sp_TP_at (hG.s (k := 1 + 1 + 1) (by decide) rfl) (by decide) (by omega) el) d_Ro_shift_22 nl_Ro_52 cb_TP_at cs_TP_at ⟨by decide, by decide⟩ rfl (Nat.le_of_ble_eq_true rfl) (Nat.le_of_ble_eq_true rfl) (kI fun r1 M1 hc => ?_)
  obtain ⟨rfl, rfl⟩ := hc
  refine E_iload_n d_Ro_shift_25 rfl ?_
  first | (with_reducible refine E_isN2 ?_; refine E_iaddN d_Ro_shift_26 ?_) | refine E_iadd d_Ro_shift_26 ?_
  refine E_SN3 (sp_TP_put (hG.s (k := 1 + 1 + 1) (by decide) rfl) (by decide) (by omega)) d_Ro_shift_27 nl_Ro_62 cb_TP_put cs_TP_put ⟨by decide, by decide⟩ rfl (Nat.le_of_ble_eq_true rfl) (Nat.le_of_ble_eq_true rfl) (kV fun M1 hc => ?_)
  subst hc
  refine E_retV d_Ro_shift_30 rfl ?_
  exact ⟨ok, s⟩
theorem sp_Ro_nudgeByHand (hC : CM c G M) (x y : Int32) : E 4 0 0 Y_Ro_nudgeByHand 0 [some (.ref 214), some (.int x), some (.int y)] [] G M (QI G fun r M' => r = pI (nudP c x y) ∧ CM (st_nudge c x y) G M' ∧ Sc CW M M') := by
  have hG := hC.G
  have hR := hC.R
  have hm := hC.now
  have hcn := sp_Mo_canNudge hG hR ad2 hm hC.w.mo x y
  by_cases hn : nudP c x y
  · have hn2 : nudP (keepS c) x y := hn
    rw [pI_t hn, st_nudge, if_pos hn]
    first | refine E_aload_n d_Ro_nudgeByHand_0 rfl ?_ | refine E_aload_nN d_Ro_nudgeByHand_0 rfl ?_
    refine E_getR d_Ro_nudgeByHand_1 gf_Ro_15 (by first | exact hG.s (by decide) rfl) (by first | exact hR.o rfl | exact hR.c cr1 rfl | exact hR.m0 ad2) ?_
    refine E_getR d_Ro_nudgeByHand_4 gf_Ro_93 (by first | exact hG.s (by decide) rfl) (by first | exact hR.o rfl | exact hR.c cr1 rfl | exact hR.m0 ad2) ?_
    refine E_iload_n d_Ro_nudgeByHand_7 rfl ?_
    refine E_iload_n d_Ro_nudgeByHand_8 rfl ?_
    refine E_V2 (hcn) d_Ro_nudgeByHand_9 ml_Ro_104 cb_Mo_canNudge cv_Mo_canNudge (by first | exact hG.s (by decide) rfl) ⟨by decide, rfl⟩ ⟨by decide, by decide⟩ rfl (Nat.le_of_ble_eq_true rfl) (Nat.le_of_ble_eq_true rfl) (kI fun r1 M1 hc => ?_)
    obtain ⟨rfl, rfl⟩ := hc
    first | (with_reducible refine E_isP ?_; refine E_if_ne 17 d_Ro_nudgeByHand_12 rfl (pb_1 fun h12 => ?_) (pb_0 fun h12 => ?_)) | (with_reducible refine E_isN1 ?_; refine E_if_ne 17 d_Ro_nudgeByHand_12 rfl (nz_ne fun h12 => ?_) (nz_eq (by omega) fun h12 => ?_)) | refine E_if_ne 17 d_Ro_nudgeByHand_12 rfl (fun h12 => ?_) (fun h12 => ?_)
    rotate_left
    · exfalso; exact h12 hn
    first | refine E_aload_n d_Ro_nudgeByHand_17 rfl ?_ | refine E_aload_nN d_Ro_nudgeByHand_17 rfl ?_
    refine E_getR d_Ro_nudgeByHand_18 gf_Ro_15 (by first | exact hG.s (by decide) rfl) (by first | exact hR.o rfl | exact hR.c cr1 rfl | exact hR.m0 ad2) ?_
    refine E_V0 (sp_Cr_keepStep hC) d_Ro_nudgeByHand_21 ml_Ro_97 cb_Cr_keepStep cv_Cr_keepStep (by first | exact hG.s (by decide) rfl) ⟨by decide, rfl⟩ ⟨by decide, by decide⟩ rfl (Nat.le_of_ble_eq_true rfl) (Nat.le_of_ble_eq_true rfl) (kV fun M1 hc => ?_)
    obtain ⟨hC1, hS1⟩ := hc
    first | refine E_aload_n d_Ro_nudgeByHand_24 rfl ?_ | refine E_aload_nN d_Ro_nudgeByHand_24 rfl ?_
    refine E_iload_n d_Ro_nudgeByHand_25 rfl ?_
    refine E_iload_n d_Ro_nudgeByHand_26 rfl ?_
    refine E_V2 (sp_Ro_shift hC1 hn2) d_Ro_nudgeByHand_27 ml_Ro_108 cb_Ro_shift cv_Ro_shift (by first | exact hG.s (by decide) rfl) ⟨by decide, rfl⟩ ⟨by decide, by decide⟩ rfl (Nat.le_of_ble_eq_true rfl) (Nat.le_of_ble_eq_true rfl) (kV fun M1 hc => ?_)
    obtain ⟨hC2, hS2⟩ := hc
    refine E_iconst (v := nI 1) d_Ro_nudgeByHand_30 rfl ?_
    refine E_retZ d_Ro_nudgeByHand_31 rfl (by decide) ?_
    exact ⟨rfl, hC2, hS1.tr hS2⟩
  · rw [pI_f hn, st_nudge, if_neg hn]
    first | refine E_aload_n d_Ro_nudgeByHand_0 rfl ?_ | refine E_aload_nN d_Ro_nudgeByHand_0 rfl ?_
    refine E_getR d_Ro_nudgeByHand_1 gf_Ro_15 (by first | exact hG.s (by decide) rfl) (by first | exact hR.o rfl | exact hR.c cr1 rfl | exact hR.m0 ad2) ?_
    refine E_getR d_Ro_nudgeByHand_4 gf_Ro_93 (by first | exact hG.s (by decide) rfl) (by first | exact hR.o rfl | exact hR.c cr1 rfl | exact hR.m0 ad2) ?_
    refine E_iload_n d_Ro_nudgeByHand_7 rfl ?_
    refine E_iload_n d_Ro_nudgeByHand_8 rfl ?_
    refine E_V2 (hcn) d_Ro_nudgeByHand_9 ml_Ro_104 cb_Mo_canNudge cv_Mo_canNudge (by first | exact hG.s (by decide) rfl) ⟨by decide, rfl⟩ ⟨by decide, by decide⟩ rfl (Nat.le_of_ble_eq_true rfl) (Nat.le_of_ble_eq_true rfl) (kI fun r1 M1 hc => ?_)
    obtain ⟨rfl, rfl⟩ := hc
    first | (with_reducible refine E_isP ?_; refine E_if_ne 17 d_Ro_nudgeByHand_12 rfl (pb_1 fun h12 => ?_) (pb_0 fun h12 => ?_)) | (with_reducible refine E_isN1 ?_; refine E_if_ne 17 d_Ro_nudgeByHand_12 rfl (nz_ne fun h12 => ?_) (nz_eq (by omega) fun h12 => ?_)) | refine E_if_ne 17 d_Ro_nudgeByHand_12 rfl (fun h12 => ?_) (fun h12 => ?_)
    · exfalso; exact hn h12
    refine E_iconst (v := nI 0) d_Ro_nudgeByHand_15 rfl ?_
    refine E_retZ d_Ro_nudgeByHand_16 rfl (by decide) ?_
    exact ⟨rfl, hC, Sc.rf⟩
theorem sp_TP_nudge (hC : CM c G M) (x y : Int32) : E 5 0 0 Y_TP_nudge 0 [some (.ref 0), some (.int x), some (.int y)] [] G M (QI G fun r M' => r = pI (nudP c x y) ∧ CM (st_nudge c x y) G M' ∧ Sc CW M M') := by
  have hG := hC.G
  have hR := hC.R
  first | refine E_aload_n d_TP_nudge_0 rfl ?_ | refine E_aload_nN d_TP_nudge_0 rfl ?_
  refine E_getR d_TP_nudge_1 gf_TP_40 (by first | exact hG.s (by decide) rfl) (by first | exact hR.o rfl | exact hR.c cr1 rfl | exact hR.m0 ad2) ?_
  refine E_iload_n d_TP_nudge_4 rfl ?_
  refine E_iload_n d_TP_nudge_5 rfl ?_
  refine E_V2 (sp_Ro_nudgeByHand hC x y) d_TP_nudge_6 ml_TP_134 cb_Ro_nudgeByHand cv_Ro_nudgeByHand (by first | exact hG.s (by decide) rfl) ⟨by decide, rfl⟩ ⟨by decide, by decide⟩ rfl (Nat.le_of_ble_eq_true rfl) (Nat.le_of_ble_eq_true rfl) (kI fun r1 M1 hc => ?_)
  obtain ⟨rfl, hC1, hS1⟩ := hc
  refine E_retZ d_TP_nudge_9 rfl (by first | exact pI_01 _ | decide) ?_
  exact ⟨rfl, hC1, hS1⟩
end CMe
