section TPh
variable {c : Cr} {G : Geo} {M : Mem}
def selP (c : Cr) (f : Nat) (yn : Bool) (S : Int32) : Prop := ∀ p, p < c.now.people → ∃ b, (S >>> (nI p &&& 31)) &&& nI 1 = nI b ∧ b ≤ 1 ∧ (b = 1 ↔ isYes c c.now (ruler c) p f = yn)
theorem not_tab : ∀ s, s < 256 → ∀ p, p < 8 → ((nI s ^^^ (-1)) >>> (nI p &&& 31)) &&& nI 1 = nI (if s.testBit p = true then 0 else 1) := by decide +kernel
theorem selP_n (h : Wf c) (f : Nat) : selP c f false (nI (yesN c f) ^^^ (-1)) := by
  have h8 := h.p8
  have h256 := pow2_256 h
  have hy := yes_pow c f
  intro p hp
  refine ⟨_, not_tab _ (by omega) p (by omega), by split <;> omega, ?_⟩
  rw [yes_bit hp]
  cases isYes c c.now (ruler c) p f <;> simp
theorem selP_y (h : Wf c) (f : Nat) : selP c f true (nI (yesN c f)) := by
  have h8 := h.p8
  have h256 := pow2_256 h
  have hy := yes_pow c f
  intro p hp
  refine ⟨yesN c f / 2 ^ p &&& 1, ?_, Nat.and_le_right, ?_⟩
  · rw [show (31 : Int32) = 31 from rfl, nI_shr (by omega) (by omega), nI_and]
  · rw [← tb_div, yes_bit hp]
theorem q232 : CQ 232 := by unfold CQ; decide
theorem sp_TP_fillCosts (hC : CM c G M) {f : Nat} {yn : Bool} {S : Int32} (hS : selP c f yn S) (hf : f ≤ 8) : E 5 0 0 Y_TP_fillCosts 0 [some (.ref 0), some (.int S), some (.int (nI f)), none, none] [] G M (QV G fun M' => (∀ p, p < c.now.people → mI M' 232 p = nI (cst c f yn p)) ∧ CM c G M' ∧ Sc CQ M M') := by
  have hG := hC.G
  have hp8 := hC.w.p8
  have hw := hC.w
  have h232 : Sh G 232 (1, 8) := hG.s (by decide) rfl
  have L : ∀ k p M1 (u : Option Value), p + k = c.now.people → CM c G M1 → Sc CQ M M1 → (∀ j, j < p → mI M1 232 j = nI (cst c f yn j)) → E 5 0 0 Y_TP_fillCosts 2 [some (.ref 0), some (.int S), some (.int (nI f)), some (.int (nI p)), u] [] G M1 (QV G fun M' => (∀ p, p < c.now.people → mI M' 232 p = nI (cst c f yn p)) ∧ CM c G M' ∧ Sc CQ M M') := by
    intro k
    induction k with
    | zero =>
      intro p M1 u hp hC hX hv
      have hR := hC.R
      have hm := hC.now
      have hp2 : p = c.now.people := by omega
      subst hp2
      refine E_iload_n d_TP_fillCosts_2 rfl ?_
      first | refine E_aload_n d_TP_fillCosts_3 rfl ?_ | refine E_aload_nN d_TP_fillCosts_3 rfl ?_
      refine E_getR d_TP_fillCosts_4 gf_TP_10 (by first | exact hG.s (by decide) rfl) (by first | exact hR.o rfl | exact hR.c cr1 rfl | exact hR.m0 ad2 | exact hR.m0 ad209) ?_
      refine E_getR d_TP_fillCosts_7 gf_TP_128 (by first | exact hG.s (by decide) rfl) (by first | exact hR.o rfl | exact hR.c cr1 rfl | exact hR.m0 ad2 | exact hR.m0 ad209) ?_
      refine E_getI d_TP_fillCosts_10 gf_TP_310 (by first | exact hG.s (by decide) rfl) (by first | exact hm.people | exact hm.figure | rfl) ?_
      first | (with_reducible refine E_isN2 ?_; refine E_icmp_ge 81 d_TP_fillCosts_13 rfl (nb_le (by omega) (by omega) fun h13 => ?_) (nb_nle (by omega) (by omega) fun h13 => ?_)) | refine E_icmp_ge 81 d_TP_fillCosts_13 rfl (fun h13 => ?_) (fun h13 => ?_)
      rotate_left
      · exfalso; omega
      refine E_retV d_TP_fillCosts_81 rfl ?_
      exact ⟨hv, hC, hX⟩
    | succ k ih =>
      intro p M1 u hp hC hX hv
      have hR := hC.R
      have hm := hC.now
      have hl9 := hw.lean9 p
      have hm10 := moveN_le hw p f
      obtain ⟨b, hb, hb1, hbi⟩ := hS p (by omega)
      have eC : cst c f yn p = if isYes c c.now (ruler c) p f = yn ∧ moveN c p f ≠ 0 then ap (moveN c p f - 1) (c.now.lean p) else 0 := rfl
      have W : ∀ M2 x u, CM c G M2 → Sc CQ M M2 → (∀ j, j < p → mI M2 232 j = nI (cst c f yn j)) → x = nI (cst c f yn p) → E 5 0 0 Y_TP_fillCosts 75 [some (.ref 0), some (.int S), some (.int (nI f)), some (.int (nI p)), u] [] G (wI M2 232 p x) (QV G fun M' => (∀ p, p < c.now.people → mI M' 232 p = nI (cst c f yn p)) ∧ CM c G M' ∧ Sc CQ M M') := by
        intro M2 x u hC2 hX2 hv2 hx
        first | (with_reducible refine E_isL3 ?_; refine E_iincN3 (m := 1) d_TP_fillCosts_75 rfl rfl ?_) | refine E_iinc_3 d_TP_fillCosts_75 rfl rfl ?_
        refine E_goto 2 d_TP_fillCosts_78 rfl ?_
        refine ih (p + 1) _ u (by omega) (hC2.q (Sc.rf.wI q232)) (hX2.wI q232) (fun j hj => ?_)
        rw [mI_wa]
        by_cases q : j = p
        · rw [if_pos q, q, hx]
        · rw [if_neg q]; exact hv2 j (by omega)
      have z0 : ¬ b = 1 → nI 0 = nI (cst c f yn p) := fun q => by rw [eC, if_neg (fun q2 => q (hbi.mpr q2.1))]
      have z1 : moveN c p f = 0 → nI 0 = nI (cst c f yn p) := fun q => by rw [eC, if_neg (fun q2 => q2.2 q)]
      have z2 : b = 1 → ∀ m, moveN c p f = m + 1 → nI (ap m (c.now.lean p)) = nI (cst c f yn p) := fun q m q2 => by rw [eC, if_pos ⟨hbi.mp q, by omega⟩, q2]; rfl
      have hv3 : ∀ M2, Sc SN M1 M2 → ∀ j, j < p → mI M2 232 j = nI (cst c f yn j) := fun M2 h j hj => by rw [(h.2 232 (by unfold SN; decide)).1]; exact hv j hj
      cases hmv : moveN c p f with
      | zero =>
        refine E_iload_n d_TP_fillCosts_2 rfl ?_
        first | refine E_aload_n d_TP_fillCosts_3 rfl ?_ | refine E_aload_nN d_TP_fillCosts_3 rfl ?_
        refine E_getR d_TP_fillCosts_4 gf_TP_10 (by first | exact hG.s (by decide) rfl) (by first | exact hR.o rfl | exact hR.c cr1 rfl | exact hR.m0 ad2 | exact hR.m0 ad209) ?_
        refine E_getR d_TP_fillCosts_7 gf_TP_128 (by first | exact hG.s (by decide) rfl) (by first | exact hR.o rfl | exact hR.c cr1 rfl | exact hR.m0 ad2 | exact hR.m0 ad209) ?_
        refine E_getI d_TP_fillCosts_10 gf_TP_310 (by first | exact hG.s (by decide) rfl) (by first | exact hm.people | exact hm.figure | rfl) ?_
        first | (with_reducible refine E_isN2 ?_; refine E_icmp_ge 81 d_TP_fillCosts_13 rfl (nb_le (by omega) (by omega) fun h13 => ?_) (nb_nle (by omega) (by omega) fun h13 => ?_)) | refine E_icmp_ge 81 d_TP_fillCosts_13 rfl (fun h13 => ?_) (fun h13 => ?_)
        · exfalso; omega
        refine E_iload_n d_TP_fillCosts_16 rfl ?_
        refine E_iload_n d_TP_fillCosts_17 rfl ?_
        first | (with_reducible refine E_isN2 ?_; refine E_ishrN d_TP_fillCosts_18 (by omega) (by omega) ?_) | refine E_ishr d_TP_fillCosts_18 ?_
        refine E_iconst (v := nI 1) d_TP_fillCosts_19 rfl ?_
        first | (with_reducible refine E_isN2 ?_; refine E_iandN d_TP_fillCosts_20 ?_) | refine E_iand d_TP_fillCosts_20 ?_
        refine E_iconst (v := nI 1) d_TP_fillCosts_21 rfl ?_
        rw [hb]
        first | (with_reducible refine E_isN2 ?_; refine E_icmp_ne 34 d_TP_fillCosts_22 rfl (nb_ne fun h22 => ?_) (nb_eq (by omega) (by omega) fun h22 => ?_)) | refine E_icmp_ne 34 d_TP_fillCosts_22 rfl (fun h22 => ?_) (fun h22 => ?_)
        · refine E_iconst (v := (-1)) d_TP_fillCosts_34 rfl ?_
          refine E_istore_4 d_TP_fillCosts_35 rfl ?_
          first | refine E_aload_n d_TP_fillCosts_37 rfl ?_ | refine E_aload_nN d_TP_fillCosts_37 rfl ?_
          refine E_getR d_TP_fillCosts_38 gf_TP_71 (by first | exact hG.s (by decide) rfl) (by first | exact hR.o rfl | exact hR.c cr1 rfl | exact hR.m0 ad2 | exact hR.m0 ad209) ?_
          refine E_iload_n d_TP_fillCosts_41 rfl ?_
          refine E_iload d_TP_fillCosts_42 rfl ?_
          refine E_iconst (v := (-1)) d_TP_fillCosts_44 rfl ?_
          first | (with_reducible refine E_isN2 ?_; refine E_icmp_ne 52 d_TP_fillCosts_45 rfl (nb_ne fun h45 => ?_) (nb_eq (by omega) (by omega) fun h45 => ?_)) | refine E_icmp_ne 52 d_TP_fillCosts_45 rfl (fun h45 => ?_) (fun h45 => ?_)
          · exfalso; exact h45 rfl
          refine E_iconst (v := nI 0) d_TP_fillCosts_48 rfl ?_
          refine E_goto 72 d_TP_fillCosts_49 rfl ?_
          refine E_S3 (sp_TP_put h232 (by decide) (by omega)) d_TP_fillCosts_72 ml_TP_351 cb_TP_put cs_TP_put ⟨by decide, by decide⟩ rfl (Nat.le_of_ble_eq_true rfl) (Nat.le_of_ble_eq_true rfl) (kV fun M1 hc => ?_)
          subst hc
          first | exact W _ _ _ hC1 (hX.tr (hS1.wk fun _ => SN.q)) (hv3 _ hS1) (z1 hmv) | exact W _ _ _ hC hX hv (z0 h22)
        · first | refine E_aload_n d_TP_fillCosts_25 rfl ?_ | refine E_aload_nN d_TP_fillCosts_25 rfl ?_
          refine E_iload_n d_TP_fillCosts_26 rfl ?_
          refine E_iload_n d_TP_fillCosts_27 rfl ?_
          refine E_V2 (sp_TP_nearestLean hC (by omega) hf) d_TP_fillCosts_28 ml_TP_287 cb_TP_nearestLean cv_TP_nearestLean (by first | exact hG.s (by decide) rfl) ⟨by decide, rfl⟩ ⟨by decide, by decide⟩ rfl (Nat.le_of_ble_eq_true rfl) (Nat.le_of_ble_eq_true rfl) (kI fun r1 M1 hc => ?_)
          obtain ⟨rfl, hC1, hS1⟩ := hc; rw [hmv, show wE 0 = -1 from rfl]; have hR := hC1.R
          refine E_goto 35 d_TP_fillCosts_31 rfl ?_
          refine E_istore_4 d_TP_fillCosts_35 rfl ?_
          first | refine E_aload_n d_TP_fillCosts_37 rfl ?_ | refine E_aload_nN d_TP_fillCosts_37 rfl ?_
          refine E_getR d_TP_fillCosts_38 gf_TP_71 (by first | exact hG.s (by decide) rfl) (by first | exact hR.o rfl | exact hR.c cr1 rfl | exact hR.m0 ad2 | exact hR.m0 ad209) ?_
          refine E_iload_n d_TP_fillCosts_41 rfl ?_
          refine E_iload d_TP_fillCosts_42 rfl ?_
          refine E_iconst (v := (-1)) d_TP_fillCosts_44 rfl ?_
          first | (with_reducible refine E_isN2 ?_; refine E_icmp_ne 52 d_TP_fillCosts_45 rfl (nb_ne fun h45 => ?_) (nb_eq (by omega) (by omega) fun h45 => ?_)) | refine E_icmp_ne 52 d_TP_fillCosts_45 rfl (fun h45 => ?_) (fun h45 => ?_)
          · exfalso; exact h45 rfl
          refine E_iconst (v := nI 0) d_TP_fillCosts_48 rfl ?_
          refine E_goto 72 d_TP_fillCosts_49 rfl ?_
          refine E_S3 (sp_TP_put h232 (by decide) (by omega)) d_TP_fillCosts_72 ml_TP_351 cb_TP_put cs_TP_put ⟨by decide, by decide⟩ rfl (Nat.le_of_ble_eq_true rfl) (Nat.le_of_ble_eq_true rfl) (kV fun M1 hc => ?_)
          subst hc
          first | exact W _ _ _ hC1 (hX.tr (hS1.wk fun _ => SN.q)) (hv3 _ hS1) (z1 hmv) | exact W _ _ _ hC hX hv (z0 h22)
      | succ m =>
        have a1 := ap_le (v := m) (w := c.now.lean p) (n := 9) (by omega) hl9
        refine E_iload_n d_TP_fillCosts_2 rfl ?_
        first | refine E_aload_n d_TP_fillCosts_3 rfl ?_ | refine E_aload_nN d_TP_fillCosts_3 rfl ?_
        refine E_getR d_TP_fillCosts_4 gf_TP_10 (by first | exact hG.s (by decide) rfl) (by first | exact hR.o rfl | exact hR.c cr1 rfl | exact hR.m0 ad2 | exact hR.m0 ad209) ?_
        refine E_getR d_TP_fillCosts_7 gf_TP_128 (by first | exact hG.s (by decide) rfl) (by first | exact hR.o rfl | exact hR.c cr1 rfl | exact hR.m0 ad2 | exact hR.m0 ad209) ?_
        refine E_getI d_TP_fillCosts_10 gf_TP_310 (by first | exact hG.s (by decide) rfl) (by first | exact hm.people | exact hm.figure | rfl) ?_
        first | (with_reducible refine E_isN2 ?_; refine E_icmp_ge 81 d_TP_fillCosts_13 rfl (nb_le (by omega) (by omega) fun h13 => ?_) (nb_nle (by omega) (by omega) fun h13 => ?_)) | refine E_icmp_ge 81 d_TP_fillCosts_13 rfl (fun h13 => ?_) (fun h13 => ?_)
        · exfalso; omega
        refine E_iload_n d_TP_fillCosts_16 rfl ?_
        refine E_iload_n d_TP_fillCosts_17 rfl ?_
        first | (with_reducible refine E_isN2 ?_; refine E_ishrN d_TP_fillCosts_18 (by omega) (by omega) ?_) | refine E_ishr d_TP_fillCosts_18 ?_
        refine E_iconst (v := nI 1) d_TP_fillCosts_19 rfl ?_
        first | (with_reducible refine E_isN2 ?_; refine E_iandN d_TP_fillCosts_20 ?_) | refine E_iand d_TP_fillCosts_20 ?_
        refine E_iconst (v := nI 1) d_TP_fillCosts_21 rfl ?_
        rw [hb]
        first | (with_reducible refine E_isN2 ?_; refine E_icmp_ne 34 d_TP_fillCosts_22 rfl (nb_ne fun h22 => ?_) (nb_eq (by omega) (by omega) fun h22 => ?_)) | refine E_icmp_ne 34 d_TP_fillCosts_22 rfl (fun h22 => ?_) (fun h22 => ?_)
        · refine E_iconst (v := (-1)) d_TP_fillCosts_34 rfl ?_
          refine E_istore_4 d_TP_fillCosts_35 rfl ?_
          first | refine E_aload_n d_TP_fillCosts_37 rfl ?_ | refine E_aload_nN d_TP_fillCosts_37 rfl ?_
          refine E_getR d_TP_fillCosts_38 gf_TP_71 (by first | exact hG.s (by decide) rfl) (by first | exact hR.o rfl | exact hR.c cr1 rfl | exact hR.m0 ad2 | exact hR.m0 ad209) ?_
          refine E_iload_n d_TP_fillCosts_41 rfl ?_
          refine E_iload d_TP_fillCosts_42 rfl ?_
          refine E_iconst (v := (-1)) d_TP_fillCosts_44 rfl ?_
          first | (with_reducible refine E_isN2 ?_; refine E_icmp_ne 52 d_TP_fillCosts_45 rfl (nb_ne fun h45 => ?_) (nb_eq (by omega) (by omega) fun h45 => ?_)) | refine E_icmp_ne 52 d_TP_fillCosts_45 rfl (fun h45 => ?_) (fun h45 => ?_)
          · refine E_iload d_TP_fillCosts_52 rfl ?_
            first | refine E_aload_n d_TP_fillCosts_54 rfl ?_ | refine E_aload_nN d_TP_fillCosts_54 rfl ?_
            refine E_getR d_TP_fillCosts_55 gf_TP_10 (by first | exact hG.s (by decide) rfl) (by first | exact hR.o rfl | exact hR.c cr1 rfl | exact hR.m0 ad2 | exact hR.m0 ad209) ?_
            refine E_getR d_TP_fillCosts_58 gf_TP_128 (by first | exact hG.s (by decide) rfl) (by first | exact hR.o rfl | exact hR.c cr1 rfl | exact hR.m0 ad2 | exact hR.m0 ad209) ?_
            refine E_getR d_TP_fillCosts_61 gf_TP_166 (by first | exact hG.s (by decide) rfl) (by first | exact hR.o rfl | exact hR.c cr1 rfl | exact hR.m0 ad2 | exact hR.m0 ad209) ?_
            refine E_iload_n d_TP_fillCosts_64 rfl ?_
            refine E_S2 (sp_TP_at (hG.m1 ad2) (by decide) (by omega) (hm.lean (by omega))) d_TP_fillCosts_65 ml_TP_169 cb_TP_at cs_TP_at ⟨by decide, by decide⟩ rfl (Nat.le_of_ble_eq_true rfl) (Nat.le_of_ble_eq_true rfl) (kI fun r1 M1 hc => ?_)
            obtain ⟨rfl, rfl⟩ := hc
            first | (with_reducible refine E_isN2 ?_; refine E_isubN d_TP_fillCosts_68 (by omega) ?_) | refine E_isub d_TP_fillCosts_68 ?_
            refine E_absI d_TP_fillCosts_69 ml_TP_391 (by decide) (Nat.le_of_ble_eq_true rfl) ?_
            first | rw [abs_ap (by omega) (by omega)] | skip
            refine E_S3 (sp_TP_put h232 (by decide) (by omega)) d_TP_fillCosts_72 ml_TP_351 cb_TP_put cs_TP_put ⟨by decide, by decide⟩ rfl (Nat.le_of_ble_eq_true rfl) (Nat.le_of_ble_eq_true rfl) (kV fun M1 hc => ?_)
            subst hc
            first | exact W _ _ _ hC1 (hX.tr (hS1.wk fun _ => SN.q)) (hv3 _ hS1) (z2 h22 m hmv) | exact absurd h45 (nI_nm1 (by omega)) | exact absurd rfl h45 | exact W _ _ _ hC hX hv (z0 h22)
          · refine E_iconst (v := nI 0) d_TP_fillCosts_48 rfl ?_
            refine E_goto 72 d_TP_fillCosts_49 rfl ?_
            first | rw [abs_ap (by omega) (by omega)] | skip
            refine E_S3 (sp_TP_put h232 (by decide) (by omega)) d_TP_fillCosts_72 ml_TP_351 cb_TP_put cs_TP_put ⟨by decide, by decide⟩ rfl (Nat.le_of_ble_eq_true rfl) (Nat.le_of_ble_eq_true rfl) (kV fun M1 hc => ?_)
            subst hc
            first | exact W _ _ _ hC1 (hX.tr (hS1.wk fun _ => SN.q)) (hv3 _ hS1) (z2 h22 m hmv) | exact absurd h45 (nI_nm1 (by omega)) | exact absurd rfl h45 | exact W _ _ _ hC hX hv (z0 h22)
        · first | refine E_aload_n d_TP_fillCosts_25 rfl ?_ | refine E_aload_nN d_TP_fillCosts_25 rfl ?_
          refine E_iload_n d_TP_fillCosts_26 rfl ?_
          refine E_iload_n d_TP_fillCosts_27 rfl ?_
          refine E_V2 (sp_TP_nearestLean hC (by omega) hf) d_TP_fillCosts_28 ml_TP_287 cb_TP_nearestLean cv_TP_nearestLean (by first | exact hG.s (by decide) rfl) ⟨by decide, rfl⟩ ⟨by decide, by decide⟩ rfl (Nat.le_of_ble_eq_true rfl) (Nat.le_of_ble_eq_true rfl) (kI fun r1 M1 hc => ?_)
          obtain ⟨rfl, hC1, hS1⟩ := hc; rw [hmv, show wE (m + 1) = nI m from rfl]; have hR := hC1.R; have hm := hC1.now
          refine E_goto 35 d_TP_fillCosts_31 rfl ?_
          refine E_istore_4 d_TP_fillCosts_35 rfl ?_
          first | refine E_aload_n d_TP_fillCosts_37 rfl ?_ | refine E_aload_nN d_TP_fillCosts_37 rfl ?_
          refine E_getR d_TP_fillCosts_38 gf_TP_71 (by first | exact hG.s (by decide) rfl) (by first | exact hR.o rfl | exact hR.c cr1 rfl | exact hR.m0 ad2 | exact hR.m0 ad209) ?_
          refine E_iload_n d_TP_fillCosts_41 rfl ?_
          refine E_iload d_TP_fillCosts_42 rfl ?_
          refine E_iconst (v := (-1)) d_TP_fillCosts_44 rfl ?_
          first | (with_reducible refine E_isN2 ?_; refine E_icmp_ne 52 d_TP_fillCosts_45 rfl (nb_ne fun h45 => ?_) (nb_eq (by omega) (by omega) fun h45 => ?_)) | refine E_icmp_ne 52 d_TP_fillCosts_45 rfl (fun h45 => ?_) (fun h45 => ?_)
          · refine E_iload d_TP_fillCosts_52 rfl ?_
            first | refine E_aload_n d_TP_fillCosts_54 rfl ?_ | refine E_aload_nN d_TP_fillCosts_54 rfl ?_
            refine E_getR d_TP_fillCosts_55 gf_TP_10 (by first | exact hG.s (by decide) rfl) (by first | exact hR.o rfl | exact hR.c cr1 rfl | exact hR.m0 ad2 | exact hR.m0 ad209) ?_
            refine E_getR d_TP_fillCosts_58 gf_TP_128 (by first | exact hG.s (by decide) rfl) (by first | exact hR.o rfl | exact hR.c cr1 rfl | exact hR.m0 ad2 | exact hR.m0 ad209) ?_
            refine E_getR d_TP_fillCosts_61 gf_TP_166 (by first | exact hG.s (by decide) rfl) (by first | exact hR.o rfl | exact hR.c cr1 rfl | exact hR.m0 ad2 | exact hR.m0 ad209) ?_
            refine E_iload_n d_TP_fillCosts_64 rfl ?_
            refine E_S2 (sp_TP_at (hG.m1 ad2) (by decide) (by omega) (hm.lean (by omega))) d_TP_fillCosts_65 ml_TP_169 cb_TP_at cs_TP_at ⟨by decide, by decide⟩ rfl (Nat.le_of_ble_eq_true rfl) (Nat.le_of_ble_eq_true rfl) (kI fun r1 M1 hc => ?_)
            obtain ⟨rfl, rfl⟩ := hc
            first | (with_reducible refine E_isN2 ?_; refine E_isubN d_TP_fillCosts_68 (by omega) ?_) | refine E_isub d_TP_fillCosts_68 ?_
            refine E_absI d_TP_fillCosts_69 ml_TP_391 (by decide) (Nat.le_of_ble_eq_true rfl) ?_
            first | rw [abs_ap (by omega) (by omega)] | skip
            refine E_S3 (sp_TP_put h232 (by decide) (by omega)) d_TP_fillCosts_72 ml_TP_351 cb_TP_put cs_TP_put ⟨by decide, by decide⟩ rfl (Nat.le_of_ble_eq_true rfl) (Nat.le_of_ble_eq_true rfl) (kV fun M1 hc => ?_)
            subst hc
            first | exact W _ _ _ hC1 (hX.tr (hS1.wk fun _ => SN.q)) (hv3 _ hS1) (z2 h22 m hmv) | exact absurd h45 (nI_nm1 (by omega)) | exact absurd rfl h45 | exact W _ _ _ hC hX hv (z0 h22)
          · refine E_iconst (v := nI 0) d_TP_fillCosts_48 rfl ?_
            refine E_goto 72 d_TP_fillCosts_49 rfl ?_
            first | rw [abs_ap (by omega) (by omega)] | skip
            refine E_S3 (sp_TP_put h232 (by decide) (by omega)) d_TP_fillCosts_72 ml_TP_351 cb_TP_put cs_TP_put ⟨by decide, by decide⟩ rfl (Nat.le_of_ble_eq_true rfl) (Nat.le_of_ble_eq_true rfl) (kV fun M1 hc => ?_)
            subst hc
            first | exact W _ _ _ hC1 (hX.tr (hS1.wk fun _ => SN.q)) (hv3 _ hS1) (z2 h22 m hmv) | exact absurd h45 (nI_nm1 (by omega)) | exact absurd rfl h45 | exact W _ _ _ hC hX hv (z0 h22)
  refine E_iconst (v := nI 0) d_TP_fillCosts_0 rfl ?_
  refine E_istore_3 d_TP_fillCosts_1 rfl ?_
  exact L c.now.people 0 M none (Nat.zero_add _) hC Sc.rf (fun j hj => absurd hj (Nat.not_lt_zero j))
theorem sumT_app (A B : List Nat) : ∀ k, k ≤ A.length → sumT (A ++ B) k = sumT A k := by
  intro k
  induction k with
  | zero => intro _; rfl
  | succ k ih =>
    intro hk
    rw [sumT, sumT, ih (by omega), List.getD_eq_getElem?_getD, List.getD_eq_getElem?_getD, List.getElem?_append_left (by omega)]
theorem sumT_one {A : List Nat} {v D : Nat} (h : A.length < D) : sumT (A ++ [v]) (min (A ++ [v]).length D) = sumT A (min A.length D) + v := by
  rw [List.length_append, List.length_singleton, Nat.min_eq_left (by omega), Nat.min_eq_left (by omega), sumT, sumT_app _ _ _ (Nat.le_refl _), List.getD_eq_getElem?_getD, List.getElem?_append_right (Nat.le_refl _), Nat.sub_self]
  rfl
theorem sumT_full {A B : List Nat} {D : Nat} (h : D ≤ A.length) : sumT (A ++ B) (min (A ++ B).length D) = sumT A (min A.length D) := by
  rw [List.length_append, Nat.min_eq_right (by omega), Nat.min_eq_right h, sumT_app _ _ _ h]
theorem lp_TP_cheapIn {g : Nat → Nat} {f D : Nat} {R : Int32} (hC : CM c G M) (hg : ∀ p, p < c.now.people → mI M 232 p = nI (g p)) (hD : D ≤ 8) (hg9 : ∀ p, g p ≤ 9) {b : Nat} (hb : b < 9) {y tm : Option Value} {S : Int32}
    (K : ∀ u, E 6 0 0 Y_TP_cheapestMoves 115 [some (.ref 0), some (.int (nI f)), y, tm, some (.int S), some (.int (nI (D - (priceB g c.now.people (b + 1)).length))), some (.int (nI (sumT (priceB g c.now.people (b + 1)) (min (priceB g c.now.people (b + 1)).length D)))), some (.int (nI (b + 1))), u] [] G M (QI G fun r M' => r = R ∧ M' = M)) :
    ∀ k p, p + k = c.now.people → ∀ A, A = priceB g c.now.people b ++ priceP g (b + 1) p → E 6 0 0 Y_TP_cheapestMoves 65 [some (.ref 0), some (.int (nI f)), y, tm, some (.int S), some (.int (nI (D - A.length))), some (.int (nI (sumT A (min A.length D)))), some (.int (nI (b + 1))), some (.int (nI p))] [] G M (QI G fun r M' => r = R ∧ M' = M) := by
  have hG := hC.G
  have hR := hC.R
  have hm := hC.now
  have hp8 := hC.w.p8
  intro k
  induction k with
  | zero =>
    intro p hp A hA
    have hp2 : p = c.now.people := by omega
    subst hp2
    have hA2 : A = priceB g c.now.people (b + 1) := hA
    rw [← hA2] at K
    refine E_iload d_TP_cheapestMoves_65 rfl ?_
    first | refine E_aload_n d_TP_cheapestMoves_67 rfl ?_ | refine E_aload_nN d_TP_cheapestMoves_67 rfl ?_
    refine E_getR d_TP_cheapestMoves_68 gf_TP_10 (by first | exact hG.s (by decide) rfl) (by first | exact hR.o rfl | exact hR.c cr1 rfl | exact hR.m0 ad2 | exact hR.m0 ad209) ?_
    refine E_getR d_TP_cheapestMoves_71 gf_TP_128 (by first | exact hG.s (by decide) rfl) (by first | exact hR.o rfl | exact hR.c cr1 rfl | exact hR.m0 ad2 | exact hR.m0 ad209) ?_
    refine E_getI d_TP_cheapestMoves_74 gf_TP_310 (by first | exact hG.s (by decide) rfl) (by first | exact hm.people | exact hm.figure | rfl) ?_
    first | (with_reducible refine E_isN2 ?_; refine E_icmp_ge 115 d_TP_cheapestMoves_77 rfl (nb_le (by omega) (by omega) fun h77 => ?_) (nb_nle (by omega) (by omega) fun h77 => ?_)) | refine E_icmp_ge 115 d_TP_cheapestMoves_77 rfl (fun h77 => ?_) (fun h77 => ?_)
    rotate_left
    · exfalso; omega
    exact K _
  | succ k ih =>
    intro p hp A hA
    have e1 : priceP g (b + 1) (p + 1) = priceP g (b + 1) p ++ (if g p = b + 1 then [b + 1] else []) := rfl
    have hgp := hg9 p
    by_cases hfull : D ≤ A.length
    · have ext : ∃ B, priceB g c.now.people (b + 1) = A ++ B := by
        have : ∀ j q, ∃ B, priceP g (b + 1) (q + j) = priceP g (b + 1) q ++ B := by
          intro j
          induction j with
          | zero => intro q; exact ⟨[], (List.append_nil _).symm⟩
          | succ j ihj =>
            intro q
            obtain ⟨B, hB⟩ := ihj q
            exact ⟨B ++ (if g (q + j) = b + 1 then [b + 1] else []), by rw [← Nat.add_assoc, priceP, hB, List.append_assoc]⟩
        obtain ⟨B, hB⟩ := this (k + 1) p
        exact ⟨B, by rw [hA, List.append_assoc, ← hB, hp]; rfl⟩
      obtain ⟨B, hB⟩ := ext
      have s1 : sumT (priceB g c.now.people (b + 1)) (min (priceB g c.now.people (b + 1)).length D) = sumT A (min A.length D) := by rw [hB]; exact sumT_full hfull
      have s2 : D - (priceB g c.now.people (b + 1)).length = D - A.length := by rw [hB, List.length_append]; omega
      rw [s1, s2] at K
      refine E_iload d_TP_cheapestMoves_65 rfl ?_
      first | refine E_aload_n d_TP_cheapestMoves_67 rfl ?_ | refine E_aload_nN d_TP_cheapestMoves_67 rfl ?_
      refine E_getR d_TP_cheapestMoves_68 gf_TP_10 (by first | exact hG.s (by decide) rfl) (by first | exact hR.o rfl | exact hR.c cr1 rfl | exact hR.m0 ad2 | exact hR.m0 ad209) ?_
      refine E_getR d_TP_cheapestMoves_71 gf_TP_128 (by first | exact hG.s (by decide) rfl) (by first | exact hR.o rfl | exact hR.c cr1 rfl | exact hR.m0 ad2 | exact hR.m0 ad209) ?_
      refine E_getI d_TP_cheapestMoves_74 gf_TP_310 (by first | exact hG.s (by decide) rfl) (by first | exact hm.people | exact hm.figure | rfl) ?_
      first | (with_reducible refine E_isN2 ?_; refine E_icmp_ge 115 d_TP_cheapestMoves_77 rfl (nb_le (by omega) (by omega) fun h77 => ?_) (nb_nle (by omega) (by omega) fun h77 => ?_)) | refine E_icmp_ge 115 d_TP_cheapestMoves_77 rfl (fun h77 => ?_) (fun h77 => ?_)
      · exfalso; omega
      refine E_iload d_TP_cheapestMoves_80 rfl ?_
      first | (with_reducible refine E_isN1 ?_; refine E_if_le 115 d_TP_cheapestMoves_82 rfl (nz_le (by omega) fun h82 => ?_) (nz_nle (by omega) fun h82 => ?_)) | refine E_if_le 115 d_TP_cheapestMoves_82 rfl (fun h82 => ?_) (fun h82 => ?_)
      rotate_left
      · exfalso; omega
      exact K _
    · have hgv := hg p (by omega)
      have h232 : Sh G 232 (1, 8) := hG.s (by decide) rfl
      by_cases hq : g p = b + 1
      · have hA3 : A ++ [b + 1] = priceB g c.now.people b ++ priceP g (b + 1) (p + 1) := by rw [e1, if_pos hq, hA, List.append_assoc]
        have ih2 := ih (p + 1) (by omega) _ hA3
        have s1 := sumT_one (v := b + 1) (show A.length < D by omega)
        have s2 : D - (A ++ [b + 1]).length = D - A.length - 1 := by rw [List.length_append, List.length_singleton]; omega
        rw [s1, s2] at ih2
        refine E_iload d_TP_cheapestMoves_65 rfl ?_
        first | refine E_aload_n d_TP_cheapestMoves_67 rfl ?_ | refine E_aload_nN d_TP_cheapestMoves_67 rfl ?_
        refine E_getR d_TP_cheapestMoves_68 gf_TP_10 (by first | exact hG.s (by decide) rfl) (by first | exact hR.o rfl | exact hR.c cr1 rfl | exact hR.m0 ad2 | exact hR.m0 ad209) ?_
        refine E_getR d_TP_cheapestMoves_71 gf_TP_128 (by first | exact hG.s (by decide) rfl) (by first | exact hR.o rfl | exact hR.c cr1 rfl | exact hR.m0 ad2 | exact hR.m0 ad209) ?_
        refine E_getI d_TP_cheapestMoves_74 gf_TP_310 (by first | exact hG.s (by decide) rfl) (by first | exact hm.people | exact hm.figure | rfl) ?_
        first | (with_reducible refine E_isN2 ?_; refine E_icmp_ge 115 d_TP_cheapestMoves_77 rfl (nb_le (by omega) (by omega) fun h77 => ?_) (nb_nle (by omega) (by omega) fun h77 => ?_)) | refine E_icmp_ge 115 d_TP_cheapestMoves_77 rfl (fun h77 => ?_) (fun h77 => ?_)
        · exfalso; omega
        refine E_iload d_TP_cheapestMoves_80 rfl ?_
        first | (with_reducible refine E_isN1 ?_; refine E_if_le 115 d_TP_cheapestMoves_82 rfl (nz_le (by omega) fun h82 => ?_) (nz_nle (by omega) fun h82 => ?_)) | refine E_if_le 115 d_TP_cheapestMoves_82 rfl (fun h82 => ?_) (fun h82 => ?_)
        · exfalso; omega
        first | refine E_aload_n d_TP_cheapestMoves_85 rfl ?_ | refine E_aload_nN d_TP_cheapestMoves_85 rfl ?_
        refine E_getR d_TP_cheapestMoves_86 gf_TP_71 (by first | exact hG.s (by decide) rfl) (by first | exact hR.o rfl | exact hR.c cr1 rfl | exact hR.m0 ad2 | exact hR.m0 ad209) ?_
        refine E_iload d_TP_cheapestMoves_89 rfl ?_
        refine E_S2 (sp_TP_at h232 (by decide) (by omega) hgv) d_TP_cheapestMoves_91 ml_TP_169 cb_TP_at cs_TP_at ⟨by decide, by decide⟩ rfl (Nat.le_of_ble_eq_true rfl) (Nat.le_of_ble_eq_true rfl) (kI fun r1 M1 hc => ?_)
        obtain ⟨rfl, rfl⟩ := hc
        refine E_iload d_TP_cheapestMoves_94 rfl ?_
        first | (with_reducible refine E_isN2 ?_; refine E_icmp_ne 109 d_TP_cheapestMoves_96 rfl (nb_ne fun h96 => ?_) (nb_eq (by omega) (by omega) fun h96 => ?_)) | refine E_icmp_ne 109 d_TP_cheapestMoves_96 rfl (fun h96 => ?_) (fun h96 => ?_)
        · exfalso; omega
        refine E_iload d_TP_cheapestMoves_99 rfl ?_
        refine E_iload d_TP_cheapestMoves_101 rfl ?_
        first | (with_reducible refine E_isN2 ?_; refine E_iaddN d_TP_cheapestMoves_103 ?_) | refine E_iadd d_TP_cheapestMoves_103 ?_
        refine E_istore_6 d_TP_cheapestMoves_104 rfl ?_
        first | (with_reducible refine E_isL5 ?_; refine E_iincD5 (m := 1) d_TP_cheapestMoves_106 (by decide) (by omega) rfl ?_) | refine E_iinc_5 d_TP_cheapestMoves_106 rfl rfl ?_
        first | (with_reducible refine E_isL8 ?_; refine E_iincN8 (m := 1) d_TP_cheapestMoves_109 rfl rfl ?_) | refine E_iinc_8 d_TP_cheapestMoves_109 rfl rfl ?_
        refine E_goto 65 d_TP_cheapestMoves_112 rfl ?_
        exact ih2
      · have hA3 : A = priceB g c.now.people b ++ priceP g (b + 1) (p + 1) := by rw [e1, if_neg hq, List.append_nil, hA]
        have ih2 := ih (p + 1) (by omega) _ hA3
        refine E_iload d_TP_cheapestMoves_65 rfl ?_
        first | refine E_aload_n d_TP_cheapestMoves_67 rfl ?_ | refine E_aload_nN d_TP_cheapestMoves_67 rfl ?_
        refine E_getR d_TP_cheapestMoves_68 gf_TP_10 (by first | exact hG.s (by decide) rfl) (by first | exact hR.o rfl | exact hR.c cr1 rfl | exact hR.m0 ad2 | exact hR.m0 ad209) ?_
        refine E_getR d_TP_cheapestMoves_71 gf_TP_128 (by first | exact hG.s (by decide) rfl) (by first | exact hR.o rfl | exact hR.c cr1 rfl | exact hR.m0 ad2 | exact hR.m0 ad209) ?_
        refine E_getI d_TP_cheapestMoves_74 gf_TP_310 (by first | exact hG.s (by decide) rfl) (by first | exact hm.people | exact hm.figure | rfl) ?_
        first | (with_reducible refine E_isN2 ?_; refine E_icmp_ge 115 d_TP_cheapestMoves_77 rfl (nb_le (by omega) (by omega) fun h77 => ?_) (nb_nle (by omega) (by omega) fun h77 => ?_)) | refine E_icmp_ge 115 d_TP_cheapestMoves_77 rfl (fun h77 => ?_) (fun h77 => ?_)
        · exfalso; omega
        refine E_iload d_TP_cheapestMoves_80 rfl ?_
        first | (with_reducible refine E_isN1 ?_; refine E_if_le 115 d_TP_cheapestMoves_82 rfl (nz_le (by omega) fun h82 => ?_) (nz_nle (by omega) fun h82 => ?_)) | refine E_if_le 115 d_TP_cheapestMoves_82 rfl (fun h82 => ?_) (fun h82 => ?_)
        · exfalso; omega
        first | refine E_aload_n d_TP_cheapestMoves_85 rfl ?_ | refine E_aload_nN d_TP_cheapestMoves_85 rfl ?_
        refine E_getR d_TP_cheapestMoves_86 gf_TP_71 (by first | exact hG.s (by decide) rfl) (by first | exact hR.o rfl | exact hR.c cr1 rfl | exact hR.m0 ad2 | exact hR.m0 ad209) ?_
        refine E_iload d_TP_cheapestMoves_89 rfl ?_
        refine E_S2 (sp_TP_at h232 (by decide) (by omega) hgv) d_TP_cheapestMoves_91 ml_TP_169 cb_TP_at cs_TP_at ⟨by decide, by decide⟩ rfl (Nat.le_of_ble_eq_true rfl) (Nat.le_of_ble_eq_true rfl) (kI fun r1 M1 hc => ?_)
        obtain ⟨rfl, rfl⟩ := hc
        refine E_iload d_TP_cheapestMoves_94 rfl ?_
        first | (with_reducible refine E_isN2 ?_; refine E_icmp_ne 109 d_TP_cheapestMoves_96 rfl (nb_ne fun h96 => ?_) (nb_eq (by omega) (by omega) fun h96 => ?_)) | refine E_icmp_ne 109 d_TP_cheapestMoves_96 rfl (fun h96 => ?_) (fun h96 => ?_)
        rotate_left
        · exfalso; omega
        first | (with_reducible refine E_isL8 ?_; refine E_iincN8 (m := 1) d_TP_cheapestMoves_109 rfl rfl ?_) | refine E_iinc_8 d_TP_cheapestMoves_109 rfl rfl ?_
        refine E_goto 65 d_TP_cheapestMoves_112 rfl ?_
        exact ih2
theorem lp_TP_cheapOut {g : Nat → Nat} {f D : Nat} {R : Int32} (hC : CM c G M) (hg : ∀ p, p < c.now.people → mI M 232 p = nI (g p)) (hD : D ≤ 8) (hg9 : ∀ p, g p ≤ 9) {y tm : Option Value} {S : Int32} (hRv : R = if (priceB g c.now.people 9).length < D then -1 else nI (sumT (priceB g c.now.people 9) D)) :
    ∀ k b u, b + k = 9 → E 6 0 0 Y_TP_cheapestMoves 55 [some (.ref 0), some (.int (nI f)), y, tm, some (.int S), some (.int (nI (D - (priceB g c.now.people b).length))), some (.int (nI (sumT (priceB g c.now.people b) (min (priceB g c.now.people b).length D)))), some (.int (nI (b + 1))), u] [] G M (QI G fun r M' => r = R ∧ M' = M) := by
  have hG := hC.G
  have hR := hC.R
  intro k
  induction k with
  | zero =>
    intro b u hb
    have hb2 : b = 9 := by omega
    subst hb2
    have r1 : D - (priceB g c.now.people 9).length = 0 → nI (sumT (priceB g c.now.people 9) (min (priceB g c.now.people 9).length D)) = R := fun q => by rw [hRv, if_neg (by omega), Nat.min_eq_right (by omega)]
    have r2 : ¬ D - (priceB g c.now.people 9).length = 0 → -1 = R := fun q => by rw [hRv, if_pos (by omega)]
    refine E_iload d_TP_cheapestMoves_55 rfl ?_
    refine E_bipush (v := nI 9) d_TP_cheapestMoves_57 (by decide) ?_
    first | (with_reducible refine E_isN2 ?_; refine E_icmp_gt 121 d_TP_cheapestMoves_59 rfl (nb_lt (by omega) (by omega) fun h59 => ?_) (nb_nlt (by omega) (by omega) fun h59 => ?_)) | refine E_icmp_gt 121 d_TP_cheapestMoves_59 rfl (fun h59 => ?_) (fun h59 => ?_)
    rotate_left
    · exfalso; omega
    refine E_iload d_TP_cheapestMoves_121 rfl ?_
    first | (with_reducible refine E_isP ?_; refine E_if_ne 131 d_TP_cheapestMoves_123 rfl (pb_1 fun h123 => ?_) (pb_0 fun h123 => ?_)) | (with_reducible refine E_isN1 ?_; refine E_if_ne 131 d_TP_cheapestMoves_123 rfl (nz_ne fun h123 => ?_) (nz_eq (by omega) fun h123 => ?_)) | refine E_if_ne 131 d_TP_cheapestMoves_123 rfl (fun h123 => ?_) (fun h123 => ?_)
    · refine E_iconst (v := (-1)) d_TP_cheapestMoves_131 rfl ?_
      refine E_retI d_TP_cheapestMoves_132 rfl ?_
      first | exact And.intro (r1 h123) rfl | exact And.intro (r2 h123) rfl
    · refine E_iload d_TP_cheapestMoves_126 rfl ?_
      refine E_goto 132 d_TP_cheapestMoves_128 rfl ?_
      refine E_retI d_TP_cheapestMoves_132 rfl ?_
      first | exact And.intro (r1 h123) rfl | exact And.intro (r2 h123) rfl
  | succ k ih =>
    intro b u hb
    have K : ∀ u, E 6 0 0 Y_TP_cheapestMoves 115 [some (.ref 0), some (.int (nI f)), y, tm, some (.int S), some (.int (nI (D - (priceB g c.now.people (b + 1)).length))), some (.int (nI (sumT (priceB g c.now.people (b + 1)) (min (priceB g c.now.people (b + 1)).length D)))), some (.int (nI (b + 1))), u] [] G M (QI G fun r M' => r = R ∧ M' = M) := by
      intro u
      first | (with_reducible refine E_isL7 ?_; refine E_iincN7 (m := 1) d_TP_cheapestMoves_115 rfl rfl ?_) | refine E_iinc_7 d_TP_cheapestMoves_115 rfl rfl ?_
      refine E_goto 55 d_TP_cheapestMoves_118 rfl ?_
      exact ih (b + 1) u (by omega)
    have I := lp_TP_cheapIn hC hg hD hg9 (by omega) K c.now.people 0 (Nat.zero_add _) (priceB g c.now.people b) (List.append_nil _).symm
    refine E_iload d_TP_cheapestMoves_55 rfl ?_
    refine E_bipush (v := nI 9) d_TP_cheapestMoves_57 (by decide) ?_
    first | (with_reducible refine E_isN2 ?_; refine E_icmp_gt 121 d_TP_cheapestMoves_59 rfl (nb_lt (by omega) (by omega) fun h59 => ?_) (nb_nlt (by omega) (by omega) fun h59 => ?_)) | refine E_icmp_gt 121 d_TP_cheapestMoves_59 rfl (fun h59 => ?_) (fun h59 => ?_)
    · exfalso; omega
    refine E_iconst (v := nI 0) d_TP_cheapestMoves_62 rfl ?_
    refine E_istore_8 d_TP_cheapestMoves_63 rfl ?_
    exact I
theorem sp_TP_cheapest (hC : CM c G M) (x : Int32) : E 7 0 0 Y_TP_cheapest 0 [some (.ref 0), some (.int x)] [] G M (QI G fun r M' => r = ans_cheapest c x ∧ Sc CQ M M') := by
  have hG := hC.G
  have hw := hC.w
  have hp8 := hw.p8
  have h256 := pow2_256 hw
  revert x
  refine args1 (c.now.people + 1) (fun f hf hx ht => ?_) (fun x hx => ?_)
  · have hcm := cm_le c f
    have hyp := yes_pow c f
    have hap := ap_le (v := cm c f) (w := f) (n := 8) (by omega) (by omega)
    have hpc : pc9 (yesN c f) = cm c f := rfl
    have ev : ans_cheapest c (nI f) = cheapN c f := by rw [ans_cheapest, if_pos hx, ht]
    have e0 : ap (cm c f) f = 0 → nI 0 = cheapN c f := fun q => by rw [cheapN, q, if_neg (Nat.not_lt_zero _)]; rfl
    have T : ∀ M1 S tm, CM c G M1 → Sc CQ M M1 → selP c f (decide (f < cm c f)) S → E 6 0 0 Y_TP_cheapestMoves 35 [some (.ref 0), some (.int (nI f)), some (.int (nI (yesN c f))), tm, some (.int S), some (.int (nI (ap (cm c f) f))), none, none, none] [] G M1 (QI G fun r M' => r = cheapN c f ∧ Sc CQ M M') := by
      intro M1 S tm hC1 hX1 hsel
      have hR := hC1.R
      have O : ∀ M2, CM c G M2 → Sc CQ M M2 → (∀ p, p < c.now.people → mI M2 232 p = nI (cst c f (decide (f < cm c f)) p)) → E 6 0 0 Y_TP_cheapestMoves 55 [some (.ref 0), some (.int (nI f)), some (.int (nI (yesN c f))), tm, some (.int S), some (.int (nI (ap (cm c f) f))), some (.int (nI 0)), some (.int (nI 1)), none] [] G M2 (QI G fun r M' => r = cheapN c f ∧ Sc CQ M M') := by
        intro M2 hC2 hX2 hg
        have o := lp_TP_cheapOut (f := f) (R := cheapN c f) (y := some (.int (nI (yesN c f)))) (tm := tm) (S := S) hC2 hg hap (cst_le hw f _) rfl 9 0 none rfl
        exact E_mono o (fun _ _ _ h => ⟨h.1, h.2.choose, h.2.choose_spec.1, h.2.choose_spec.2.1, by rw [h.2.choose_spec.2.2]; exact hX2⟩)
      refine E_iload d_TP_cheapestMoves_35 rfl ?_
      first | (with_reducible refine E_isP ?_; refine E_if_ne 42 d_TP_cheapestMoves_37 rfl (pb_1 fun h37 => ?_) (pb_0 fun h37 => ?_)) | (with_reducible refine E_isN1 ?_; refine E_if_ne 42 d_TP_cheapestMoves_37 rfl (nz_ne fun h37 => ?_) (nz_eq (by omega) fun h37 => ?_)) | refine E_if_ne 42 d_TP_cheapestMoves_37 rfl (fun h37 => ?_) (fun h37 => ?_)
      · first | refine E_aload_n d_TP_cheapestMoves_42 rfl ?_ | refine E_aload_nN d_TP_cheapestMoves_42 rfl ?_
        refine E_iload d_TP_cheapestMoves_43 rfl ?_
        refine E_iload_n d_TP_cheapestMoves_45 rfl ?_
        refine E_V2 (sp_TP_fillCosts hC1 hsel (by omega)) d_TP_cheapestMoves_46 ml_TP_394 cb_TP_fillCosts cv_TP_fillCosts (by first | exact hG.s (by decide) rfl) ⟨by decide, rfl⟩ ⟨by decide, by decide⟩ rfl (Nat.le_of_ble_eq_true rfl) (Nat.le_of_ble_eq_true rfl) (kV fun M1 hc => ?_)
        obtain ⟨hg, hC2, hS2⟩ := hc
        refine E_iconst (v := nI 0) d_TP_cheapestMoves_49 rfl ?_
        refine E_istore_6 d_TP_cheapestMoves_50 rfl ?_
        refine E_iconst (v := nI 1) d_TP_cheapestMoves_52 rfl ?_
        refine E_istore_7 d_TP_cheapestMoves_53 rfl ?_
        exact O _ hC2 (hX1.tr hS2) hg
      · refine E_iconst (v := nI 0) d_TP_cheapestMoves_40 rfl ?_
        refine E_retI d_TP_cheapestMoves_41 rfl ?_
        exact ⟨e0 h37, hX1⟩
    have S0 : E 6 0 0 Y_TP_cheapestMoves 0 [some (.ref 0), some (.int (nI f)), none, none, none, none, none, none, none] [] G M (QI G fun r M' => r = cheapN c f ∧ Sc CQ M M') := by
      by_cases h1 : f < cm c f
      · have ea : ap (cm c f) f = cm c f - f := by rw [ap, if_neg (by omega)]
        rw [ea] at T
        have hge : (0 : Int32) ≤ nI (cm c f - f) := by rw [le_toInt, nI_toInt (by omega), z32]; omega
        have T1 : ∀ M1 tm, CM c G M1 → Sc CQ M M1 → _ := fun M1 tm h2 h3 => T M1 (nI (yesN c f)) tm h2 h3 (by rw [decide_eq_true h1]; exact selP_y hw f)
        first | refine E_aload_n d_TP_cheapestMoves_0 rfl ?_ | refine E_aload_nN d_TP_cheapestMoves_0 rfl ?_
        refine E_V0 (sp_TP_look hC) d_TP_cheapestMoves_1 ml_TP_217 cb_TP_look cv_TP_look (by first | exact hG.s (by decide) rfl) ⟨by decide, rfl⟩ ⟨by decide, by decide⟩ rfl (Nat.le_of_ble_eq_true rfl) (Nat.le_of_ble_eq_true rfl) (kR fun r1 M1 hc => ?_)
        obtain ⟨rfl, hO, hC1, hS1⟩ := hc; have hM := OM.of hC1 hO; have hS := hS1.wk (P' := CQ) (fun _ => SO.q)
        refine E_iload_n d_TP_cheapestMoves_4 rfl ?_
        refine E_V1 (sp_Ou_yesTold hM (by omega)) d_TP_cheapestMoves_5 ml_TP_271 cb_Ou_yesTold cv_Ou_yesTold (by first | exact hG.s (by decide) rfl) ⟨by decide, rfl⟩ ⟨by decide, by decide⟩ rfl (Nat.le_of_ble_eq_true rfl) (Nat.le_of_ble_eq_true rfl) (kI fun r1 M1 hc => ?_)
        obtain ⟨rfl, rfl⟩ := hc
        refine E_istore_2 d_TP_cheapestMoves_8 rfl ?_
        refine E_iload_n d_TP_cheapestMoves_9 rfl ?_
        refine E_S1 (sp_JI_bitCount (by omega)) d_TP_cheapestMoves_10 ml_TP_256 cb_JI_bitCount cs_JI_bitCount ⟨by decide, by decide⟩ rfl (Nat.le_of_ble_eq_true rfl) (Nat.le_of_ble_eq_true rfl) (kI fun r1 M1 hc => ?_)
        obtain ⟨rfl, rfl⟩ := hc; rw [hpc]
        refine E_iload_n d_TP_cheapestMoves_13 rfl ?_
        first | (with_reducible refine E_isN2 ?_; refine E_isubN d_TP_cheapestMoves_14 (by omega) ?_) | refine E_isub d_TP_cheapestMoves_14 ?_
        refine E_istore_3 d_TP_cheapestMoves_15 rfl ?_
        refine E_iload_n d_TP_cheapestMoves_16 rfl ?_
        first | (with_reducible refine E_isN1 ?_; refine E_if_le 24 d_TP_cheapestMoves_17 rfl (nz_le (by omega) fun h17 => ?_) (nz_nle (by omega) fun h17 => ?_)) | refine E_if_le 24 d_TP_cheapestMoves_17 rfl (fun h17 => ?_) (fun h17 => ?_)
        · exfalso; omega
        refine E_iload_n d_TP_cheapestMoves_20 rfl ?_
        refine E_goto 27 d_TP_cheapestMoves_21 rfl ?_
        refine E_istore_4 d_TP_cheapestMoves_27 rfl ?_
        refine E_iload_n d_TP_cheapestMoves_29 rfl ?_
        refine E_absI d_TP_cheapestMoves_30 ml_TP_391 (by decide) (Nat.le_of_ble_eq_true rfl) ?_
        rw [if_pos hge]
        refine E_istore_5 d_TP_cheapestMoves_33 rfl ?_
        exact T1 _ _ hC1 hS
      · have hx := pk_sub_toInt (a := cm c f) (b := f) (by omega) (by omega)
        have hle : nI (cm c f) - nI f ≤ 0 := by rw [le_toInt, hx, z32]; omega
        have hab := abs_ap (v := cm c f) (w := f) (by omega) (by omega)
        have T1 : ∀ M1 tm, CM c G M1 → Sc CQ M M1 → _ := fun M1 tm h2 h3 => T M1 (nI (yesN c f) ^^^ (-1)) tm h2 h3 (by rw [decide_eq_false h1]; exact selP_n hw f)
        have A : E 6 0 0 Y_TP_cheapestMoves 14 [some (.ref 0), some (.int (nI f)), some (.int (nI (yesN c f))), none, none, none, none, none, none] [.int (nI f), .int (nI (cm c f))] G M (QI G fun r M' => r = cheapN c f ∧ Sc CQ M M') → True := fun _ => trivial
        have B : ∀ M1, CM c G M1 → Sc CQ M M1 → E 6 0 0 Y_TP_cheapestMoves 15 [some (.ref 0), some (.int (nI f)), some (.int (nI (yesN c f))), none, none, none, none, none, none] [.int (nI (cm c f) - nI f)] G M1 (QI G fun r M' => r = cheapN c f ∧ Sc CQ M M') := by
          intro M1 hC1 hS
          have T2 := fun tm => T1 M1 tm hC1 hS
          rw [← hab] at T2
          revert hle T2
          generalize nI (cm c f) - nI f = d
          intro hle T2
          refine E_istore_3 d_TP_cheapestMoves_15 rfl ?_
          refine E_iload_n d_TP_cheapestMoves_16 rfl ?_
          first | (with_reducible refine E_isN1 ?_; refine E_if_le 24 d_TP_cheapestMoves_17 rfl (nz_le (by omega) fun h17 => ?_) (nz_nle (by omega) fun h17 => ?_)) | refine E_if_le 24 d_TP_cheapestMoves_17 rfl (fun h17 => ?_) (fun h17 => ?_)
          rotate_left
          · exfalso; exact h17 hle
          refine E_iload_n d_TP_cheapestMoves_24 rfl ?_
          refine E_iconst (v := (-1)) d_TP_cheapestMoves_25 rfl ?_
          first | (with_reducible refine E_isN2 ?_; refine E_ixorN d_TP_cheapestMoves_26 ?_) | refine E_ixor d_TP_cheapestMoves_26 ?_
          refine E_istore_4 d_TP_cheapestMoves_27 rfl ?_
          refine E_iload_n d_TP_cheapestMoves_29 rfl ?_
          refine E_absI d_TP_cheapestMoves_30 ml_TP_391 (by decide) (Nat.le_of_ble_eq_true rfl) ?_
          refine E_istore_5 d_TP_cheapestMoves_33 rfl ?_
          exact T2 _
        first | refine E_aload_n d_TP_cheapestMoves_0 rfl ?_ | refine E_aload_nN d_TP_cheapestMoves_0 rfl ?_
        refine E_V0 (sp_TP_look hC) d_TP_cheapestMoves_1 ml_TP_217 cb_TP_look cv_TP_look (by first | exact hG.s (by decide) rfl) ⟨by decide, rfl⟩ ⟨by decide, by decide⟩ rfl (Nat.le_of_ble_eq_true rfl) (Nat.le_of_ble_eq_true rfl) (kR fun r1 M1 hc => ?_)
        obtain ⟨rfl, hO, hC1, hS1⟩ := hc; have hM := OM.of hC1 hO; have hS := hS1.wk (P' := CQ) (fun _ => SO.q)
        refine E_iload_n d_TP_cheapestMoves_4 rfl ?_
        refine E_V1 (sp_Ou_yesTold hM (by omega)) d_TP_cheapestMoves_5 ml_TP_271 cb_Ou_yesTold cv_Ou_yesTold (by first | exact hG.s (by decide) rfl) ⟨by decide, rfl⟩ ⟨by decide, by decide⟩ rfl (Nat.le_of_ble_eq_true rfl) (Nat.le_of_ble_eq_true rfl) (kI fun r1 M1 hc => ?_)
        obtain ⟨rfl, rfl⟩ := hc
        refine E_istore_2 d_TP_cheapestMoves_8 rfl ?_
        refine E_iload_n d_TP_cheapestMoves_9 rfl ?_
        refine E_S1 (sp_JI_bitCount (by omega)) d_TP_cheapestMoves_10 ml_TP_256 cb_JI_bitCount cs_JI_bitCount ⟨by decide, by decide⟩ rfl (Nat.le_of_ble_eq_true rfl) (Nat.le_of_ble_eq_true rfl) (kI fun r1 M1 hc => ?_)
        obtain ⟨rfl, rfl⟩ := hc; rw [hpc]
        refine E_iload_n d_TP_cheapestMoves_13 rfl ?_
        exact E_isub d_TP_cheapestMoves_14 (B _ hC1 hS)
    first | refine E_aload_n d_TP_cheapest_0 rfl ?_ | refine E_aload_nN d_TP_cheapest_0 rfl ?_
    refine E_iload_n d_TP_cheapest_1 rfl ?_
    refine E_V1 (sp_TP_isFigure hC _) d_TP_cheapest_2 ml_TP_214 cb_TP_isFigure cv_TP_isFigure (by first | exact hG.s (by decide) rfl) ⟨by decide, rfl⟩ ⟨by decide, by decide⟩ rfl (Nat.le_of_ble_eq_true rfl) (Nat.le_of_ble_eq_true rfl) (kI fun r1 M1 hc => ?_)
    obtain ⟨rfl, rfl⟩ := hc
    first | (with_reducible refine E_isP ?_; refine E_if_eq 16 d_TP_cheapest_5 rfl (pb_0 fun h5 => ?_) (pb_1 fun h5 => ?_)) | (with_reducible refine E_isN1 ?_; refine E_if_eq 16 d_TP_cheapest_5 rfl (nz_eq (by omega) fun h5 => ?_) (nz_ne fun h5 => ?_)) | refine E_if_eq 16 d_TP_cheapest_5 rfl (fun h5 => ?_) (fun h5 => ?_)
    · exfalso; exact h5 hx
    first | refine E_aload_n d_TP_cheapest_8 rfl ?_ | refine E_aload_nN d_TP_cheapest_8 rfl ?_
    refine E_iload_n d_TP_cheapest_9 rfl ?_
    refine E_V1 (S0) d_TP_cheapest_10 ml_TP_290 cb_TP_cheapestMoves cv_TP_cheapestMoves (by first | exact hG.s (by decide) rfl) ⟨by decide, rfl⟩ ⟨by decide, by decide⟩ rfl (Nat.le_of_ble_eq_true rfl) (Nat.le_of_ble_eq_true rfl) (kI fun r1 M1 hc => ?_)
    obtain ⟨rfl, hS1⟩ := hc
    refine E_goto 17 d_TP_cheapest_13 rfl ?_
    refine E_retI d_TP_cheapest_17 rfl ?_
    exact ⟨ev.symm, hS1⟩
  · have ev : ans_cheapest c x = -1 := by rw [ans_cheapest, if_neg hx]
    first | refine E_aload_n d_TP_cheapest_0 rfl ?_ | refine E_aload_nN d_TP_cheapest_0 rfl ?_
    refine E_iload_n d_TP_cheapest_1 rfl ?_
    refine E_V1 (sp_TP_isFigure hC _) d_TP_cheapest_2 ml_TP_214 cb_TP_isFigure cv_TP_isFigure (by first | exact hG.s (by decide) rfl) ⟨by decide, rfl⟩ ⟨by decide, by decide⟩ rfl (Nat.le_of_ble_eq_true rfl) (Nat.le_of_ble_eq_true rfl) (kI fun r1 M1 hc => ?_)
    obtain ⟨rfl, rfl⟩ := hc
    first | (with_reducible refine E_isP ?_; refine E_if_eq 16 d_TP_cheapest_5 rfl (pb_0 fun h5 => ?_) (pb_1 fun h5 => ?_)) | (with_reducible refine E_isN1 ?_; refine E_if_eq 16 d_TP_cheapest_5 rfl (nz_eq (by omega) fun h5 => ?_) (nz_ne fun h5 => ?_)) | refine E_if_eq 16 d_TP_cheapest_5 rfl (fun h5 => ?_) (fun h5 => ?_)
    rotate_left
    · exfalso; exact hx h5
    refine E_iconst (v := (-1)) d_TP_cheapest_16 rfl ?_
    refine E_retI d_TP_cheapest_17 rfl ?_
    exact ⟨ev.symm, Sc.rf⟩
end TPh
