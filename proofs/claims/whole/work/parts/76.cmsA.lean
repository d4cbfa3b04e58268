section CMa
variable {c : Cr} {G : Geo} {M : Mem}
theorem sp_TP_by (hC : CM c G M) (x : Int32) : E 1 0 0 Y_TP_by 0 [some (.ref 0), some (.int x)] [] G M (QI G fun r M' => r = ans_by c x ∧ CM (st_by c x) G M' ∧ Sc CW M M') := by
  have hG := hC.G
  have hR := hC.R
  have K : ∀ r, (inN x c.texts.length → LawV (some (txAt c (tN x))) r G M) → (¬ inN x c.texts.length → r = none) → ¬ x = -1 → E 1 0 0 Y_TP_by 13 [some (.ref 0), some (.int x)] [oV r] G M (QI G fun r M' => r = ans_by c x ∧ CM (st_by c x) G M' ∧ Sc CW M M') := by
    intro r h1 h2 hn
    by_cases hx : inN x c.texts.length
    · have ex := (in_nI hx).1
      have hM2 : CM (ruleS c (some (tN x))) G (wI M 1 9 x) := by
        have := CM_rule (r := some (tN x)) hC (fun t q => by rw [← Option.some.inj q]; exact (in_nI hx).2)
        rwa [show enO (some (tN x)) = x from ex.symm] at this
      rw [ans_by, st_by, pI_t (Or.inr hx), if_neg hn, if_pos hx]
      have hL := h1 hx
      revert hL
      cases r with
      | none => intro hL; exact absurd hL (fun q => q)
      | some a =>
        intro _
        rw [show oV (some a) = .ref a from rfl]
        refine E_ifnonnullR 18 d_TP_by_13 rfl ?_
        first | refine E_aload_n d_TP_by_18 rfl ?_ | refine E_aload_nN d_TP_by_18 rfl ?_
        refine E_getR d_TP_by_19 gf_TP_10 (by first | exact hG.s (by decide) rfl) (by first | exact hR.o rfl | exact hR.c cr1 rfl | exact hR.m0 ad2) ?_
        refine E_iload_n d_TP_by_22 rfl ?_
        refine E_putI d_TP_by_23 gf_TP_121 (by first | exact hG.s (by decide) rfl) rfl rfl ?_
        refine E_iconst (v := nI 1) d_TP_by_26 rfl ?_
        refine E_retZ d_TP_by_27 rfl (by decide) ?_
        exact ⟨rfl, hM2, Sc.rf.wI (CW.r (by omega))⟩
    · have hn2 : ¬ (x = -1 ∨ inN x c.texts.length) := fun q => q.elim hn hx
      rw [ans_by, st_by, pI_f hn2, if_neg hn, if_neg hx]
      rw [h2 hx, show oV none = .null from rfl]
      refine E_ifnonnullN d_TP_by_13 ?_
      refine E_iconst (v := nI 0) d_TP_by_16 rfl ?_
      refine E_retZ d_TP_by_17 rfl (by decide) ?_
      exact ⟨rfl, hC, Sc.rf⟩
  by_cases h1 : x = -1
  · have hM2 := CM_rule (r := none) hC (fun t q => by cases q)
    subst h1
    rw [ans_by, st_by, pI_t (Or.inl rfl), if_pos rfl]
    refine E_iload_n d_TP_by_0 rfl ?_
    refine E_iconst (v := (-1)) d_TP_by_1 rfl ?_
    first | (with_reducible refine E_isN2 ?_; refine E_icmp_eq 18 d_TP_by_2 rfl (nb_eq (by omega) (by omega) fun h2 => ?_) (nb_ne fun h2 => ?_)) | refine E_icmp_eq 18 d_TP_by_2 rfl (fun h2 => ?_) (fun h2 => ?_)
    rotate_left
    · exfalso; exact h2 rfl
    first | refine E_aload_n d_TP_by_18 rfl ?_ | refine E_aload_nN d_TP_by_18 rfl ?_
    refine E_getR d_TP_by_19 gf_TP_10 (by first | exact hG.s (by decide) rfl) (by first | exact hR.o rfl | exact hR.c cr1 rfl | exact hR.m0 ad2) ?_
    refine E_iload_n d_TP_by_22 rfl ?_
    refine E_putI d_TP_by_23 gf_TP_121 (by first | exact hG.s (by decide) rfl) rfl rfl ?_
    refine E_iconst (v := nI 1) d_TP_by_26 rfl ?_
    refine E_retZ d_TP_by_27 rfl (by decide) ?_
    exact ⟨rfl, hM2, Sc.rf.wI (CW.r (by omega))⟩
  · refine E_iload_n d_TP_by_0 rfl ?_
    refine E_iconst (v := (-1)) d_TP_by_1 rfl ?_
    first | (with_reducible refine E_isN2 ?_; refine E_icmp_eq 18 d_TP_by_2 rfl (nb_eq (by omega) (by omega) fun h2 => ?_) (nb_ne fun h2 => ?_)) | refine E_icmp_eq 18 d_TP_by_2 rfl (fun h2 => ?_) (fun h2 => ?_)
    · exfalso; exact h1 h2
    first | refine E_aload_n d_TP_by_5 rfl ?_ | refine E_aload_nN d_TP_by_5 rfl ?_
    refine E_getR d_TP_by_6 gf_TP_10 (by first | exact hG.s (by decide) rfl) (by first | exact hR.o rfl | exact hR.c cr1 rfl | exact hR.m0 ad2) ?_
    refine E_iload_n d_TP_by_9 rfl ?_
    refine E_V1 (sp_Cr_textAt hC _) d_TP_by_10 ml_TP_117 cb_Cr_textAt cv_Cr_textAt (by first | exact hG.s (by decide) rfl) ⟨by decide, rfl⟩ ⟨by decide, by decide⟩ rfl (Nat.le_of_ble_eq_true rfl) (Nat.le_of_ble_eq_true rfl) (kR fun r1 M1 hc => ?_)
    obtain ⟨q1, q2, rfl⟩ := hc
    exact K r1 q1 q2 h1
theorem pairC {l : List (Nat × Nat)} {a b : Nat} {f1 f2 f1' f2' : Nat → Int32} (h : ∀ i, i < l.length → f1 i = nI (l.getD i (0, 0)).1 ∧ f2 i = nI (l.getD i (0, 0)).2) (e1 : ∀ i, f1' i = if i = l.length then nI a else f1 i) (e2 : ∀ i, f2' i = if i = l.length then nI b else f2 i) : ∀ i, i < (l ++ [(a, b)]).length → f1' i = nI ((l ++ [(a, b)]).getD i (0, 0)).1 ∧ f2' i = nI ((l ++ [(a, b)]).getD i (0, 0)).2 := by
  intro i hi
  have hi2 : i < l.length + 1 := by simpa using hi
  rw [getD_snoc, e1, e2]
  by_cases q : i < l.length
  · rw [if_pos q, if_neg (by omega), if_neg (by omega)]
    exact h i q
  · rw [if_neg q, if_pos (by omega), if_pos (by omega), if_pos (by omega)]
    exact ⟨rfl, rfl⟩
theorem CM_part (hC : CM c G M) {l : List (Nat × Nat)} {M' : Mem} (hX : Sc CW M M') (hr : ∀ a, mR M' a = mR M a) (hl : l.length ≤ 8) (hq : ∀ q ∈ l, q.1 ≤ q.2 ∧ q.2 ≤ 8) (e : ∀ k, k ≠ 1 → k ≠ 1 + 9 → k ≠ 1 + 10 → mI M' k = mI M k) (f : ∀ j, j ≠ 12 → mI M' 1 j = mI M 1 j) (g : mI M' 1 12 = nI l.length)
    (gi : ∀ i, i < l.length → mI M' (1 + 9) i = nI (l.getD i (0, 0)).1 ∧ mI M' (1 + 10) i = nI (l.getD i (0, 0)).2) : CM (partS c l) G M' := by
  have h := hC.H
  refine ⟨hC.G, hC.R.sc hX, HC_hd (c' := partS c l) h ?_ rfl rfl rfl rfl rfl hr (fun k hk => e k (by omega) (by omega) (by omega)) (fun j hj => f j (by omega)) (fun p hp => by rw [e (1 + 6) (by decide) (by decide) (by decide)]; exact h.hears hp) ((f 9 (by decide)).trans h.ruling) g gi ((f 15 (by decide)).trans h.saids) (fun i hi => by rw [e (1 + 11) (by decide) (by decide) (by decide), e (1 + 12) (by decide) (by decide) (by decide)]; exact h.said hi) (fun w hw => by rw [e (1 + 13) (by decide) (by decide) (by decide)]; exact h.village hw)⟩
  obtain ⟨a1, a2, a3, a4, a5, a6, a7, a8, a9, a10, a11, a12, a13, a14, a15⟩ := h.w
  exact ⟨a1, a2, a3, a4, a5, a6, a7, a8, a9, hl, hq, a12, a13, a14, a15⟩
theorem CM_sai (hC : CM c G M) {l : List (Nat × Nat)} {M' : Mem} (hX : Sc CW M M') (hr : ∀ a, mR M' a = mR M a) (hl : l.length ≤ 8) (hq : ∀ q ∈ l, q.1 ≤ 8 ∧ q.2 ≤ 8) (e : ∀ k, k ≠ 1 → k ≠ 1 + 11 → k ≠ 1 + 12 → mI M' k = mI M k) (f : ∀ j, j ≠ 15 → mI M' 1 j = mI M 1 j) (g : mI M' 1 15 = nI l.length)
    (gi : ∀ i, i < l.length → mI M' (1 + 11) i = nI (l.getD i (0, 0)).1 ∧ mI M' (1 + 12) i = nI (l.getD i (0, 0)).2) : CM (saidS c l) G M' := by
  have h := hC.H
  refine ⟨hC.G, hC.R.sc hX, HC_hd (c' := saidS c l) h ?_ rfl rfl rfl rfl rfl hr (fun k hk => e k (by omega) (by omega) (by omega)) (fun j hj => f j (by omega)) (fun p hp => by rw [e (1 + 6) (by decide) (by decide) (by decide)]; exact h.hears hp) ((f 9 (by decide)).trans h.ruling) ((f 12 (by decide)).trans h.parties) (fun i hi => by rw [e (1 + 9) (by decide) (by decide) (by decide), e (1 + 10) (by decide) (by decide) (by decide)]; exact h.party hi) g gi (fun w hw => by rw [e (1 + 13) (by decide) (by decide) (by decide)]; exact h.village hw)⟩
  obtain ⟨a1, a2, a3, a4, a5, a6, a7, a8, a9, a10, a11, a12, a13, a14, a15⟩ := h.w
  exact ⟨a1, a2, a3, a4, a5, a6, a7, a8, a9, a10, a11, hl, hq, a14, a15⟩
theorem CM_partA (hC : CM c G M) {a b : Nat} (hl8 : c.parties.length < 8) (hab : a ≤ b) (hb : b ≤ 8) : CM (partS c (c.parties ++ [(a, b)])) G (wI (wI (wI M (1 + 9) c.parties.length (nI a)) (1 + 10) c.parties.length (nI b)) 1 12 (nI (c.parties.length + 1))) := by
  refine CM_part (l := c.parties ++ [(a, b)]) hC (((Sc.rf.wI (P := CW) (CW.r (by omega))).wI (CW.r (by omega))).wI (CW.r (by omega))) (fun _ => rfl) (by rw [List.length_append]; show _ + 1 ≤ 8; omega) (fun q hq => ?_) (fun k k1 k2 k3 => by rw [mI_ne k1, mI_ne k3, mI_ne k2]) (fun j hj => by rw [mI_wa, if_neg hj, mI_wx (by decide), mI_wx (by decide)]) (by rw [mI_wa, if_pos rfl, List.length_append]; rfl)
    (pairC (f1 := mI M (1 + 9)) (f2 := mI M (1 + 10)) (fun i hi => hC.H.party hi) (fun i => by rw [mI_wx (by decide), mI_wx (by decide), mI_wa]) (fun i => by rw [mI_wx (by decide), mI_wa, mI_wx (by decide)]))
  rcases List.mem_append.mp hq with q2 | q2
  · exact hC.w.party q q2
  · rw [List.mem_singleton.mp q2]; exact ⟨hab, hb⟩
theorem CM_saiA (hC : CM c G M) {a b : Nat} (hl8 : c.saids.length < 8) (ha : a ≤ 8) (hb : b ≤ 8) : CM (saidS c (c.saids ++ [(a, b)])) G (wI (wI (wI M (1 + 11) c.saids.length (nI a)) (1 + 12) c.saids.length (nI b)) 1 15 (nI (c.saids.length + 1))) := by
  refine CM_sai (l := c.saids ++ [(a, b)]) hC (((Sc.rf.wI (P := CW) (CW.r (by omega))).wI (CW.r (by omega))).wI (CW.r (by omega))) (fun _ => rfl) (by rw [List.length_append]; show _ + 1 ≤ 8; omega) (fun q hq => ?_) (fun k k1 k2 k3 => by rw [mI_ne k1, mI_ne k3, mI_ne k2]) (fun j hj => by rw [mI_wa, if_neg hj, mI_wx (by decide), mI_wx (by decide)]) (by rw [mI_wa, if_pos rfl, List.length_append]; rfl)
    (pairC (f1 := mI M (1 + 11)) (f2 := mI M (1 + 12)) (fun i hi => hC.H.said hi) (fun i => by rw [mI_wx (by decide), mI_wx (by decide), mI_wa]) (fun i => by rw [mI_wx (by decide), mI_wa, mI_wx (by decide)]))
  rcases List.mem_append.mp hq with q2 | q2
  · exact hC.w.said q q2
  · rw [List.mem_singleton.mp q2]; exact ⟨ha, hb⟩
theorem sp_TP_party (hC : CM c G M) (x y : Int32) : E 2 0 0 Y_TP_party 0 [some (.ref 0), some (.int x), some (.int y)] [] G M (QI G fun r M' => r = ans_party c x y ∧ CM (st_party c x y) G M' ∧ Sc CW M M') := by
  have hG := hC.G
  have hR := hC.R
  have l8 := hC.w.parties
  have hpt := hC.H.parties
  have e8 : (nI 8).toInt = 8 := by decide
  by_cases h1 : x = -1
  · rw [ans_party, st_party, if_pos h1, if_pos h1]
    have ok := CM_part (l := []) (M' := wI M 1 12 (nI 0)) hC (Sc.rf.wI (P := CW) (CW.r (by omega))) (fun _ => rfl) (by decide) (fun q hq => absurd hq List.not_mem_nil) (fun k k1 _ _ => mI_ne k1) (fun j hj => by rw [mI_wa, if_neg hj]) (by rw [mI_wa, if_pos rfl]; rfl) (fun i hi => absurd hi (Nat.not_lt_zero i))
    refine E_iload_n d_TP_party_0 rfl ?_
    refine E_iconst (v := (-1)) d_TP_party_1 rfl ?_
    first | (with_reducible refine E_isN2 ?_; refine E_icmp_ne 15 d_TP_party_2 rfl (nb_ne fun h2 => ?_) (nb_eq (by omega) (by omega) fun h2 => ?_)) | refine E_icmp_ne 15 d_TP_party_2 rfl (fun h2 => ?_) (fun h2 => ?_)
    · exfalso; exact h2 h1
    first | refine E_aload_n d_TP_party_5 rfl ?_ | refine E_aload_nN d_TP_party_5 rfl ?_
    refine E_getR d_TP_party_6 gf_TP_10 (by first | exact hG.s (by decide) rfl) (by first | exact hR.o rfl | exact hR.c cr1 rfl | exact hR.m0 ad2) ?_
    refine E_iconst (v := nI 0) d_TP_party_9 rfl ?_
    refine E_putI d_TP_party_10 gf_TP_333 (by first | exact hG.s (by decide) rfl) rfl rfl ?_
    refine E_iconst (v := nI 0) d_TP_party_13 rfl ?_
    refine E_retI d_TP_party_14 rfl ?_
    exact ⟨rfl, ok, Sc.rf.wI (CW.r (by omega))⟩
  · by_cases hp : prtP c x y
    · rw [ans_party, st_party, if_neg h1, if_neg h1, if_pos hp, if_pos hp]
      have ey := (in_nI hp.1).1
      have ex := (in_nI hp.2.1).1
      have ly := (in_nI hp.1).2
      have lx := (in_nI hp.2.1).2
      have hl8 := hp.2.2
      generalize hyy : tN y = b at ly lx ey ⊢
      generalize hxx : tN x = a at lx ex ⊢
      have ok := CM_partA hC (a := a) (b := b) (by omega) (by omega) (by omega)
      have e12 : mI (wI (wI M (1 + 9) c.parties.length (nI a)) (1 + 10) c.parties.length (nI b)) 1 12 = nI c.parties.length := by rw [mI_wx (by decide), mI_wx (by decide)]; exact hpt
      have S0 : E 1 0 0 Y_Cr_addParty 0 [some (.ref 1), some (.int x), some (.int y)] [] G M (QI G fun r M' => r = 1 ∧ M' = wI (wI (wI M (1 + 9) c.parties.length (nI a)) (1 + 10) c.parties.length (nI b)) 1 12 (nI (c.parties.length + 1))) := by
        rw [ex, ey]
        refine E_iload_n d_Cr_addParty_0 rfl ?_
        first | (with_reducible refine E_isN1 ?_; refine E_if_lt 24 d_Cr_addParty_1 rfl (nz_lt (by omega) fun h1 => ?_) (nz_nlt (by omega) fun h1 => ?_)) | refine E_if_lt 24 d_Cr_addParty_1 rfl (fun h1 => ?_) (fun h1 => ?_)
        · exfalso; exact absurd h1 (Nat.not_lt_zero a)
        refine E_iload_n d_Cr_addParty_4 rfl ?_
        refine E_iload_n d_Cr_addParty_5 rfl ?_
        first | (with_reducible refine E_isN2 ?_; refine E_icmp_gt 24 d_Cr_addParty_6 rfl (nb_lt (by omega) (by omega) fun h6 => ?_) (nb_nlt (by omega) (by omega) fun h6 => ?_)) | refine E_icmp_gt 24 d_Cr_addParty_6 rfl (fun h6 => ?_) (fun h6 => ?_)
        · exfalso; omega
        refine E_iload_n d_Cr_addParty_9 rfl ?_
        refine E_bipush (v := nI 8) d_Cr_addParty_10 (by decide) ?_
        first | (with_reducible refine E_isN2 ?_; refine E_icmp_gt 24 d_Cr_addParty_12 rfl (nb_lt (by omega) (by omega) fun h12 => ?_) (nb_nlt (by omega) (by omega) fun h12 => ?_)) | refine E_icmp_gt 24 d_Cr_addParty_12 rfl (fun h12 => ?_) (fun h12 => ?_)
        · exfalso; omega
        first | refine E_aload_n d_Cr_addParty_15 rfl ?_ | refine E_aload_nN d_Cr_addParty_15 rfl ?_
        refine E_getI d_Cr_addParty_16 gf_Cr_87 (by first | exact hG.s (by decide) rfl) (by first | exact hm.people | exact hpt | exact hsd | exact htx | rfl) ?_
        refine E_bipush (v := nI 8) d_Cr_addParty_19 (by decide) ?_
        first | (with_reducible refine E_isN2 ?_; refine E_icmp_lt 26 d_Cr_addParty_21 rfl (nb_lt (by omega) (by omega) fun h21 => ?_) (nb_nlt (by omega) (by omega) fun h21 => ?_)) | refine E_icmp_lt 26 d_Cr_addParty_21 rfl (fun h21 => ?_) (fun h21 => ?_)
        rotate_left
        · exfalso; omega
        first | refine E_aload_n d_Cr_addParty_26 rfl ?_ | refine E_aload_nN d_Cr_addParty_26 rfl ?_
        refine E_getR d_Cr_addParty_27 gf_Cr_42 (by first | exact hG.s (by decide) rfl) (by first | exact hR.o rfl | exact hR.c cr1 rfl | exact hR.m0 ad2) ?_
        first | refine E_aload_n d_Cr_addParty_30 rfl ?_ | refine E_aload_nN d_Cr_addParty_30 rfl ?_
        refine E_getI d_Cr_addParty_31 gf_Cr_87 (by first | exact hG.s (by decide) rfl) (by first | exact hm.people | exact hpt | exact hsd | exact htx | rfl) ?_
        refine E_iload_n d_Cr_addParty_34 rfl ?_
        refine E_SN3 (sp_TP_put (hG.s (k := 1 + 9) (by decide) rfl) (by decide) (by omega)) d_Cr_addParty_35 nl_Cr_99 cb_TP_put cs_TP_put ⟨by decide, by decide⟩ rfl (Nat.le_of_ble_eq_true rfl) (Nat.le_of_ble_eq_true rfl) (kV fun M1 hc => ?_)
        subst hc
        first | refine E_aload_n d_Cr_addParty_38 rfl ?_ | refine E_aload_nN d_Cr_addParty_38 rfl ?_
        refine E_getR d_Cr_addParty_39 gf_Cr_45 (by first | exact hG.s (by decide) rfl) (by first | exact hR.o rfl | exact hR.c cr1 rfl | exact hR.m0 ad2) ?_
        first | refine E_aload_n d_Cr_addParty_42 rfl ?_ | refine E_aload_nN d_Cr_addParty_42 rfl ?_
        refine E_getI d_Cr_addParty_43 gf_Cr_87 (by first | exact hG.s (by decide) rfl) (by first | exact hm.people | exact hpt | exact hsd | exact htx | rfl) ?_
        refine E_iload_n d_Cr_addParty_46 rfl ?_
        refine E_SN3 (sp_TP_put (hG.s (k := 1 + 10) (by decide) rfl) (by decide) (by omega)) d_Cr_addParty_47 nl_Cr_99 cb_TP_put cs_TP_put ⟨by decide, by decide⟩ rfl (Nat.le_of_ble_eq_true rfl) (Nat.le_of_ble_eq_true rfl) (kV fun M1 hc => ?_)
        subst hc
        first | refine E_aload_n d_Cr_addParty_50 rfl ?_ | refine E_aload_nN d_Cr_addParty_50 rfl ?_
        refine E_dup d_Cr_addParty_51 rfl ?_
        refine E_getI d_Cr_addParty_52 gf_Cr_87 (by first | exact hG.s (by decide) rfl) (by exact e12) ?_
        refine E_iconst (v := nI 1) d_Cr_addParty_55 rfl ?_
        first | (with_reducible refine E_isN2 ?_; refine E_iaddN d_Cr_addParty_56 ?_) | refine E_iadd d_Cr_addParty_56 ?_
        refine E_putI d_Cr_addParty_57 gf_Cr_87 (by first | exact hG.s (by decide) rfl) rfl rfl ?_
        refine E_iconst (v := nI 1) d_Cr_addParty_60 rfl ?_
        refine E_retZ d_Cr_addParty_61 rfl (by decide) ?_
        exact ⟨rfl, rfl⟩
      have e13 : mI (wI (wI (wI M (1 + 9) c.parties.length (nI a)) (1 + 10) c.parties.length (nI b)) 1 12 (nI (c.parties.length + 1))) 1 12 = nI (c.parties.length + 1) := by rw [mI_wa, if_pos rfl]
      refine E_iload_n d_TP_party_0 rfl ?_
      refine E_iconst (v := (-1)) d_TP_party_1 rfl ?_
      first | (with_reducible refine E_isN2 ?_; refine E_icmp_ne 15 d_TP_party_2 rfl (nb_ne fun h2 => ?_) (nb_eq (by omega) (by omega) fun h2 => ?_)) | refine E_icmp_ne 15 d_TP_party_2 rfl (fun h2 => ?_) (fun h2 => ?_)
      rotate_left
      · exfalso; exact h1 h2
      first | refine E_aload_n d_TP_party_15 rfl ?_ | refine E_aload_nN d_TP_party_15 rfl ?_
      refine E_getR d_TP_party_16 gf_TP_10 (by first | exact hG.s (by decide) rfl) (by first | exact hR.o rfl | exact hR.c cr1 rfl | exact hR.m0 ad2) ?_
      refine E_iload_n d_TP_party_19 rfl ?_
      refine E_iload_n d_TP_party_20 rfl ?_
      refine E_V2 (S0) d_TP_party_21 ml_TP_336 cb_Cr_addParty cv_Cr_addParty (by first | exact hG.s (by decide) rfl) ⟨by decide, rfl⟩ ⟨by decide, by decide⟩ rfl (Nat.le_of_ble_eq_true rfl) (Nat.le_of_ble_eq_true rfl) (kI fun r1 M1 hc => ?_)
      obtain ⟨rfl, rfl⟩ := hc
      first | (with_reducible refine E_isP ?_; refine E_if_eq 37 d_TP_party_24 rfl (pb_0 fun h24 => ?_) (pb_1 fun h24 => ?_)) | (with_reducible refine E_isN1 ?_; refine E_if_eq 37 d_TP_party_24 rfl (nz_eq (by omega) fun h24 => ?_) (nz_ne fun h24 => ?_)) | refine E_if_eq 37 d_TP_party_24 rfl (fun h24 => ?_) (fun h24 => ?_)
      · exfalso; exact absurd h24 (by decide)
      first | refine E_aload_n d_TP_party_27 rfl ?_ | refine E_aload_nN d_TP_party_27 rfl ?_
      refine E_getR d_TP_party_28 gf_TP_10 (by first | exact hG.s (by decide) rfl) (by first | exact hR.o rfl | exact hR.c cr1 rfl | exact hR.m0 ad2) ?_
      refine E_getI d_TP_party_31 gf_TP_333 (by first | exact hG.s (by decide) rfl) (by exact e13) ?_
      refine E_goto 39 d_TP_party_34 rfl ?_
      refine E_retI d_TP_party_39 rfl ?_
      exact ⟨rfl, ok, ((Sc.rf.wI (CW.r (by omega))).wI (CW.r (by omega))).wI (CW.r (by omega))⟩
    · rw [ans_party, st_party, if_neg h1, if_neg h1, if_neg hp, if_neg hp]
      have no : ¬ x < 0 → ¬ y < x → ¬ nI 8 < y → c.parties.length < 8 → False := fun q1 q2 q3 q4 => hp (by
        rw [lt_toInt, z32] at q1
        rw [lt_toInt] at q2
        rw [lt_toInt, e8] at q3
        have et : tN y = y.toInt.toNat := rfl
        refine ⟨?_, ?_, by omega⟩
        · unfold inN; omega
        · unfold inN; omega)
      have S0 : E 1 0 0 Y_Cr_addParty 0 [some (.ref 1), some (.int x), some (.int y)] [] G M (QI G fun r M' => r = 0 ∧ M' = M) := by
        refine E_iload_n d_Cr_addParty_0 rfl ?_
        first | (with_reducible refine E_isN1 ?_; refine E_if_lt 24 d_Cr_addParty_1 rfl (nz_lt (by omega) fun h1 => ?_) (nz_nlt (by omega) fun h1 => ?_)) | refine E_if_lt 24 d_Cr_addParty_1 rfl (fun h1 => ?_) (fun h1 => ?_)
        · refine E_iconst (v := nI 0) d_Cr_addParty_24 rfl ?_
          refine E_retZ d_Cr_addParty_25 rfl (by decide) ?_
          exact ⟨rfl, rfl⟩
        · refine E_iload_n d_Cr_addParty_4 rfl ?_
          refine E_iload_n d_Cr_addParty_5 rfl ?_
          first | (with_reducible refine E_isN2 ?_; refine E_icmp_gt 24 d_Cr_addParty_6 rfl (nb_lt (by omega) (by omega) fun h6 => ?_) (nb_nlt (by omega) (by omega) fun h6 => ?_)) | refine E_icmp_gt 24 d_Cr_addParty_6 rfl (fun h6 => ?_) (fun h6 => ?_)
          · refine E_iconst (v := nI 0) d_Cr_addParty_24 rfl ?_
            refine E_retZ d_Cr_addParty_25 rfl (by decide) ?_
            exact ⟨rfl, rfl⟩
          · refine E_iload_n d_Cr_addParty_9 rfl ?_
            refine E_bipush (v := nI 8) d_Cr_addParty_10 (by decide) ?_
            first | (with_reducible refine E_isN2 ?_; refine E_icmp_gt 24 d_Cr_addParty_12 rfl (nb_lt (by omega) (by omega) fun h12 => ?_) (nb_nlt (by omega) (by omega) fun h12 => ?_)) | refine E_icmp_gt 24 d_Cr_addParty_12 rfl (fun h12 => ?_) (fun h12 => ?_)
            · refine E_iconst (v := nI 0) d_Cr_addParty_24 rfl ?_
              refine E_retZ d_Cr_addParty_25 rfl (by decide) ?_
              exact ⟨rfl, rfl⟩
            · first | refine E_aload_n d_Cr_addParty_15 rfl ?_ | refine E_aload_nN d_Cr_addParty_15 rfl ?_
              refine E_getI d_Cr_addParty_16 gf_Cr_87 (by first | exact hG.s (by decide) rfl) (by first | exact hm.people | exact hpt | exact hsd | exact htx | rfl) ?_
              refine E_bipush (v := nI 8) d_Cr_addParty_19 (by decide) ?_
              first | (with_reducible refine E_isN2 ?_; refine E_icmp_lt 26 d_Cr_addParty_21 rfl (nb_lt (by omega) (by omega) fun h21 => ?_) (nb_nlt (by omega) (by omega) fun h21 => ?_)) | refine E_icmp_lt 26 d_Cr_addParty_21 rfl (fun h21 => ?_) (fun h21 => ?_)
              · exfalso; exact no h1 h6 h12 h21
              refine E_iconst (v := nI 0) d_Cr_addParty_24 rfl ?_
              refine E_retZ d_Cr_addParty_25 rfl (by decide) ?_
              exact ⟨rfl, rfl⟩
      refine E_iload_n d_TP_party_0 rfl ?_
      refine E_iconst (v := (-1)) d_TP_party_1 rfl ?_
      first | (with_reducible refine E_isN2 ?_; refine E_icmp_ne 15 d_TP_party_2 rfl (nb_ne fun h2 => ?_) (nb_eq (by omega) (by omega) fun h2 => ?_)) | refine E_icmp_ne 15 d_TP_party_2 rfl (fun h2 => ?_) (fun h2 => ?_)
      rotate_left
      · exfalso; exact h1 h2
      first | refine E_aload_n d_TP_party_15 rfl ?_ | refine E_aload_nN d_TP_party_15 rfl ?_
      refine E_getR d_TP_party_16 gf_TP_10 (by first | exact hG.s (by decide) rfl) (by first | exact hR.o rfl | exact hR.c cr1 rfl | exact hR.m0 ad2) ?_
      refine E_iload_n d_TP_party_19 rfl ?_
      refine E_iload_n d_TP_party_20 rfl ?_
      refine E_V2 (S0) d_TP_party_21 ml_TP_336 cb_Cr_addParty cv_Cr_addParty (by first | exact hG.s (by decide) rfl) ⟨by decide, rfl⟩ ⟨by decide, by decide⟩ rfl (Nat.le_of_ble_eq_true rfl) (Nat.le_of_ble_eq_true rfl) (kI fun r1 M1 hc => ?_)
      obtain ⟨rfl, rfl⟩ := hc
      first | (with_reducible refine E_isP ?_; refine E_if_eq 37 d_TP_party_24 rfl (pb_0 fun h24 => ?_) (pb_1 fun h24 => ?_)) | (with_reducible refine E_isN1 ?_; refine E_if_eq 37 d_TP_party_24 rfl (nz_eq (by omega) fun h24 => ?_) (nz_ne fun h24 => ?_)) | refine E_if_eq 37 d_TP_party_24 rfl (fun h24 => ?_) (fun h24 => ?_)
      rotate_left
      · exfalso; exact absurd rfl h24
      refine E_bipush (v := (-2)) d_TP_party_37 (by decide) ?_
      refine E_retI d_TP_party_39 rfl ?_
      exact ⟨rfl, hC, Sc.rf⟩
theorem sp_TP_said (hC : CM c G M) (x y : Int32) : E 2 0 0 Y_TP_said 0 [some (.ref 0), some (.int x), some (.int y)] [] G M (QI G fun r M' => r = ans_said c x y ∧ CM (st_said c x y) G M' ∧ Sc CW M M') := by
  have hG := hC.G
  have hR := hC.R
  have l8 := hC.w.saids
  have hsd := hC.H.saids
  have e8 : (nI 8).toInt = 8 := by decide
  by_cases h1 : x = -1
  · rw [ans_said, st_said, if_pos h1, if_pos h1]
    have ok := CM_sai (l := []) (M' := wI M 1 15 (nI 0)) hC (Sc.rf.wI (P := CW) (CW.r (by omega))) (fun _ => rfl) (by decide) (fun q hq => absurd hq List.not_mem_nil) (fun k k1 _ _ => mI_ne k1) (fun j hj => by rw [mI_wa, if_neg hj]) (by rw [mI_wa, if_pos rfl]; rfl) (fun i hi => absurd hi (Nat.not_lt_zero i))
    refine E_iload_n d_TP_said_0 rfl ?_
    refine E_iconst (v := (-1)) d_TP_said_1 rfl ?_
    first | (with_reducible refine E_isN2 ?_; refine E_icmp_ne 15 d_TP_said_2 rfl (nb_ne fun h2 => ?_) (nb_eq (by omega) (by omega) fun h2 => ?_)) | refine E_icmp_ne 15 d_TP_said_2 rfl (fun h2 => ?_) (fun h2 => ?_)
    · exfalso; exact h2 h1
    first | refine E_aload_n d_TP_said_5 rfl ?_ | refine E_aload_nN d_TP_said_5 rfl ?_
    refine E_getR d_TP_said_6 gf_TP_10 (by first | exact hG.s (by decide) rfl) (by first | exact hR.o rfl | exact hR.c cr1 rfl | exact hR.m0 ad2) ?_
    refine E_iconst (v := nI 0) d_TP_said_9 rfl ?_
    refine E_putI d_TP_said_10 gf_TP_361 (by first | exact hG.s (by decide) rfl) rfl rfl ?_
    refine E_iconst (v := nI 0) d_TP_said_13 rfl ?_
    refine E_retI d_TP_said_14 rfl ?_
    exact ⟨rfl, ok, Sc.rf.wI (CW.r (by omega))⟩
  · by_cases hp : saiP c x y
    · rw [ans_said, st_said, if_neg h1, if_neg h1, if_pos hp, if_pos hp]
      have ey := (in_nI hp.2.1).1
      have ex := (in_nI hp.1).1
      have ly := (in_nI hp.2.1).2
      have lx := (in_nI hp.1).2
      have hl8 := hp.2.2
      generalize hyy : tN y = b at ly ey ⊢
      generalize hxx : tN x = a at lx ex ⊢
      have ok := CM_saiA hC (a := a) (b := b) (by omega) (by omega) (by omega)
      have e12 : mI (wI (wI M (1 + 11) c.saids.length (nI a)) (1 + 12) c.saids.length (nI b)) 1 15 = nI c.saids.length := by rw [mI_wx (by decide), mI_wx (by decide)]; exact hsd
      have e14 : mI (wI M (1 + 11) c.saids.length (nI a)) 1 15 = nI c.saids.length := by rw [mI_wx (by decide)]; exact hsd
      have S0 : E 1 0 0 Y_Cr_addSaid 0 [some (.ref 1), some (.int x), some (.int y)] [] G M (QI G fun r M' => r = 1 ∧ M' = wI (wI (wI M (1 + 11) c.saids.length (nI a)) (1 + 12) c.saids.length (nI b)) 1 15 (nI (c.saids.length + 1))) := by
        rw [ex, ey]
        refine E_iload_n d_Cr_addSaid_0 rfl ?_
        first | (with_reducible refine E_isN1 ?_; refine E_if_lt 29 d_Cr_addSaid_1 rfl (nz_lt (by omega) fun h1 => ?_) (nz_nlt (by omega) fun h1 => ?_)) | refine E_if_lt 29 d_Cr_addSaid_1 rfl (fun h1 => ?_) (fun h1 => ?_)
        · exfalso; exact absurd h1 (Nat.not_lt_zero a)
        refine E_iload_n d_Cr_addSaid_4 rfl ?_
        refine E_bipush (v := nI 8) d_Cr_addSaid_5 (by decide) ?_
        first | (with_reducible refine E_isN2 ?_; refine E_icmp_gt 29 d_Cr_addSaid_7 rfl (nb_lt (by omega) (by omega) fun h7 => ?_) (nb_nlt (by omega) (by omega) fun h7 => ?_)) | refine E_icmp_gt 29 d_Cr_addSaid_7 rfl (fun h7 => ?_) (fun h7 => ?_)
        · exfalso; omega
        refine E_iload_n d_Cr_addSaid_10 rfl ?_
        first | (with_reducible refine E_isN1 ?_; refine E_if_lt 29 d_Cr_addSaid_11 rfl (nz_lt (by omega) fun h11 => ?_) (nz_nlt (by omega) fun h11 => ?_)) | refine E_if_lt 29 d_Cr_addSaid_11 rfl (fun h11 => ?_) (fun h11 => ?_)
        · exfalso; exact absurd h11 (Nat.not_lt_zero b)
        refine E_iload_n d_Cr_addSaid_14 rfl ?_
        refine E_bipush (v := nI 8) d_Cr_addSaid_15 (by decide) ?_
        first | (with_reducible refine E_isN2 ?_; refine E_icmp_gt 29 d_Cr_addSaid_17 rfl (nb_lt (by omega) (by omega) fun h17 => ?_) (nb_nlt (by omega) (by omega) fun h17 => ?_)) | refine E_icmp_gt 29 d_Cr_addSaid_17 rfl (fun h17 => ?_) (fun h17 => ?_)
        · exfalso; omega
        first | refine E_aload_n d_Cr_addSaid_20 rfl ?_ | refine E_aload_nN d_Cr_addSaid_20 rfl ?_
        refine E_getI d_Cr_addSaid_21 gf_Cr_90 (by first | exact hG.s (by decide) rfl) (by first | exact hm.people | exact hpt | exact hsd | exact htx | rfl) ?_
        refine E_bipush (v := nI 8) d_Cr_addSaid_24 (by decide) ?_
        first | (with_reducible refine E_isN2 ?_; refine E_icmp_lt 31 d_Cr_addSaid_26 rfl (nb_lt (by omega) (by omega) fun h26 => ?_) (nb_nlt (by omega) (by omega) fun h26 => ?_)) | refine E_icmp_lt 31 d_Cr_addSaid_26 rfl (fun h26 => ?_) (fun h26 => ?_)
        rotate_left
        · exfalso; omega
        first | refine E_aload_n d_Cr_addSaid_31 rfl ?_ | refine E_aload_nN d_Cr_addSaid_31 rfl ?_
        refine E_getR d_Cr_addSaid_32 gf_Cr_48 (by first | exact hG.s (by decide) rfl) (by first | exact hR.o rfl | exact hR.c cr1 rfl | exact hR.m0 ad2) ?_
        first | refine E_aload_n d_Cr_addSaid_35 rfl ?_ | refine E_aload_nN d_Cr_addSaid_35 rfl ?_
        refine E_getI d_Cr_addSaid_36 gf_Cr_90 (by first | exact hG.s (by decide) rfl) (by first | exact hm.people | exact hpt | exact hsd | exact htx | rfl) ?_
        refine E_iload_n d_Cr_addSaid_39 rfl ?_
        refine E_SN3 (sp_TP_put (hG.s (k := 1 + 11) (by decide) rfl) (by decide) (by omega)) d_Cr_addSaid_40 nl_Cr_99 cb_TP_put cs_TP_put ⟨by decide, by decide⟩ rfl (Nat.le_of_ble_eq_true rfl) (Nat.le_of_ble_eq_true rfl) (kV fun M1 hc => ?_)
        subst hc
        first | refine E_aload_n d_Cr_addSaid_43 rfl ?_ | refine E_aload_nN d_Cr_addSaid_43 rfl ?_
        refine E_getR d_Cr_addSaid_44 gf_Cr_51 (by first | exact hG.s (by decide) rfl) (by first | exact hR.o rfl | exact hR.c cr1 rfl | exact hR.m0 ad2) ?_
        first | refine E_aload_n d_Cr_addSaid_47 rfl ?_ | refine E_aload_nN d_Cr_addSaid_47 rfl ?_
        refine E_getI d_Cr_addSaid_48 gf_Cr_90 (by first | exact hG.s (by decide) rfl) (by exact e14) ?_
        refine E_iload_n d_Cr_addSaid_51 rfl ?_
        refine E_SN3 (sp_TP_put (hG.s (k := 1 + 12) (by decide) rfl) (by decide) (by omega)) d_Cr_addSaid_52 nl_Cr_99 cb_TP_put cs_TP_put ⟨by decide, by decide⟩ rfl (Nat.le_of_ble_eq_true rfl) (Nat.le_of_ble_eq_true rfl) (kV fun M1 hc => ?_)
        subst hc
        first | refine E_aload_n d_Cr_addSaid_55 rfl ?_ | refine E_aload_nN d_Cr_addSaid_55 rfl ?_
        refine E_dup d_Cr_addSaid_56 rfl ?_
        refine E_getI d_Cr_addSaid_57 gf_Cr_90 (by first | exact hG.s (by decide) rfl) (by exact e12) ?_
        refine E_iconst (v := nI 1) d_Cr_addSaid_60 rfl ?_
        first | (with_reducible refine E_isN2 ?_; refine E_iaddN d_Cr_addSaid_61 ?_) | refine E_iadd d_Cr_addSaid_61 ?_
        refine E_putI d_Cr_addSaid_62 gf_Cr_90 (by first | exact hG.s (by decide) rfl) rfl rfl ?_
        refine E_iconst (v := nI 1) d_Cr_addSaid_65 rfl ?_
        refine E_retZ d_Cr_addSaid_66 rfl (by decide) ?_
        exact ⟨rfl, rfl⟩
      have e13 : mI (wI (wI (wI M (1 + 11) c.saids.length (nI a)) (1 + 12) c.saids.length (nI b)) 1 15 (nI (c.saids.length + 1))) 1 15 = nI (c.saids.length + 1) := by rw [mI_wa, if_pos rfl]
      refine E_iload_n d_TP_said_0 rfl ?_
      refine E_iconst (v := (-1)) d_TP_said_1 rfl ?_
      first | (with_reducible refine E_isN2 ?_; refine E_icmp_ne 15 d_TP_said_2 rfl (nb_ne fun h2 => ?_) (nb_eq (by omega) (by omega) fun h2 => ?_)) | refine E_icmp_ne 15 d_TP_said_2 rfl (fun h2 => ?_) (fun h2 => ?_)
      rotate_left
      · exfalso; exact h1 h2
      first | refine E_aload_n d_TP_said_15 rfl ?_ | refine E_aload_nN d_TP_said_15 rfl ?_
      refine E_getR d_TP_said_16 gf_TP_10 (by first | exact hG.s (by decide) rfl) (by first | exact hR.o rfl | exact hR.c cr1 rfl | exact hR.m0 ad2) ?_
      refine E_iload_n d_TP_said_19 rfl ?_
      refine E_iload_n d_TP_said_20 rfl ?_
      refine E_V2 (S0) d_TP_said_21 ml_TP_364 cb_Cr_addSaid cv_Cr_addSaid (by first | exact hG.s (by decide) rfl) ⟨by decide, rfl⟩ ⟨by decide, by decide⟩ rfl (Nat.le_of_ble_eq_true rfl) (Nat.le_of_ble_eq_true rfl) (kI fun r1 M1 hc => ?_)
      obtain ⟨rfl, rfl⟩ := hc
      first | (with_reducible refine E_isP ?_; refine E_if_eq 37 d_TP_said_24 rfl (pb_0 fun h24 => ?_) (pb_1 fun h24 => ?_)) | (with_reducible refine E_isN1 ?_; refine E_if_eq 37 d_TP_said_24 rfl (nz_eq (by omega) fun h24 => ?_) (nz_ne fun h24 => ?_)) | refine E_if_eq 37 d_TP_said_24 rfl (fun h24 => ?_) (fun h24 => ?_)
      · exfalso; exact absurd h24 (by decide)
      first | refine E_aload_n d_TP_said_27 rfl ?_ | refine E_aload_nN d_TP_said_27 rfl ?_
      refine E_getR d_TP_said_28 gf_TP_10 (by first | exact hG.s (by decide) rfl) (by first | exact hR.o rfl | exact hR.c cr1 rfl | exact hR.m0 ad2) ?_
      refine E_getI d_TP_said_31 gf_TP_361 (by first | exact hG.s (by decide) rfl) (by exact e13) ?_
      refine E_goto 39 d_TP_said_34 rfl ?_
      refine E_retI d_TP_said_39 rfl ?_
      exact ⟨rfl, ok, ((Sc.rf.wI (CW.r (by omega))).wI (CW.r (by omega))).wI (CW.r (by omega))⟩
    · rw [ans_said, st_said, if_neg h1, if_neg h1, if_neg hp, if_neg hp]
      have no : ¬ x < 0 → ¬ nI 8 < x → ¬ y < 0 → ¬ nI 8 < y → c.saids.length < 8 → False := fun q1 q2 q3 q5 q4 => hp (by
        rw [lt_toInt, z32] at q1 q3
        rw [lt_toInt, e8] at q2 q5
        refine ⟨?_, ?_, by omega⟩
        · unfold inN; omega
        · unfold inN; omega)
      have S0 : E 1 0 0 Y_Cr_addSaid 0 [some (.ref 1), some (.int x), some (.int y)] [] G M (QI G fun r M' => r = 0 ∧ M' = M) := by
        refine E_iload_n d_Cr_addSaid_0 rfl ?_
        first | (with_reducible refine E_isN1 ?_; refine E_if_lt 29 d_Cr_addSaid_1 rfl (nz_lt (by omega) fun h1 => ?_) (nz_nlt (by omega) fun h1 => ?_)) | refine E_if_lt 29 d_Cr_addSaid_1 rfl (fun h1 => ?_) (fun h1 => ?_)
        · refine E_iconst (v := nI 0) d_Cr_addSaid_29 rfl ?_
          refine E_retZ d_Cr_addSaid_30 rfl (by decide) ?_
          exact ⟨rfl, rfl⟩
        · refine E_iload_n d_Cr_addSaid_4 rfl ?_
          refine E_bipush (v := nI 8) d_Cr_addSaid_5 (by decide) ?_
          first | (with_reducible refine E_isN2 ?_; refine E_icmp_gt 29 d_Cr_addSaid_7 rfl (nb_lt (by omega) (by omega) fun h7 => ?_) (nb_nlt (by omega) (by omega) fun h7 => ?_)) | refine E_icmp_gt 29 d_Cr_addSaid_7 rfl (fun h7 => ?_) (fun h7 => ?_)
          · refine E_iconst (v := nI 0) d_Cr_addSaid_29 rfl ?_
            refine E_retZ d_Cr_addSaid_30 rfl (by decide) ?_
            exact ⟨rfl, rfl⟩
          · refine E_iload_n d_Cr_addSaid_10 rfl ?_
            first | (with_reducible refine E_isN1 ?_; refine E_if_lt 29 d_Cr_addSaid_11 rfl (nz_lt (by omega) fun h11 => ?_) (nz_nlt (by omega) fun h11 => ?_)) | refine E_if_lt 29 d_Cr_addSaid_11 rfl (fun h11 => ?_) (fun h11 => ?_)
            · refine E_iconst (v := nI 0) d_Cr_addSaid_29 rfl ?_
              refine E_retZ d_Cr_addSaid_30 rfl (by decide) ?_
              exact ⟨rfl, rfl⟩
            · refine E_iload_n d_Cr_addSaid_14 rfl ?_
              refine E_bipush (v := nI 8) d_Cr_addSaid_15 (by decide) ?_
              first | (with_reducible refine E_isN2 ?_; refine E_icmp_gt 29 d_Cr_addSaid_17 rfl (nb_lt (by omega) (by omega) fun h17 => ?_) (nb_nlt (by omega) (by omega) fun h17 => ?_)) | refine E_icmp_gt 29 d_Cr_addSaid_17 rfl (fun h17 => ?_) (fun h17 => ?_)
              · refine E_iconst (v := nI 0) d_Cr_addSaid_29 rfl ?_
                refine E_retZ d_Cr_addSaid_30 rfl (by decide) ?_
                exact ⟨rfl, rfl⟩
              · first | refine E_aload_n d_Cr_addSaid_20 rfl ?_ | refine E_aload_nN d_Cr_addSaid_20 rfl ?_
                refine E_getI d_Cr_addSaid_21 gf_Cr_90 (by first | exact hG.s (by decide) rfl) (by first | exact hm.people | exact hpt | exact hsd | exact htx | rfl) ?_
                refine E_bipush (v := nI 8) d_Cr_addSaid_24 (by decide) ?_
                first | (with_reducible refine E_isN2 ?_; refine E_icmp_lt 31 d_Cr_addSaid_26 rfl (nb_lt (by omega) (by omega) fun h26 => ?_) (nb_nlt (by omega) (by omega) fun h26 => ?_)) | refine E_icmp_lt 31 d_Cr_addSaid_26 rfl (fun h26 => ?_) (fun h26 => ?_)
                · exfalso; exact no h1 h7 h11 h17 h26
                refine E_iconst (v := nI 0) d_Cr_addSaid_29 rfl ?_
                refine E_retZ d_Cr_addSaid_30 rfl (by decide) ?_
                exact ⟨rfl, rfl⟩
      refine E_iload_n d_TP_said_0 rfl ?_
      refine E_iconst (v := (-1)) d_TP_said_1 rfl ?_
      first | (with_reducible refine E_isN2 ?_; refine E_icmp_ne 15 d_TP_said_2 rfl (nb_ne fun h2 => ?_) (nb_eq (by omega) (by omega) fun h2 => ?_)) | refine E_icmp_ne 15 d_TP_said_2 rfl (fun h2 => ?_) (fun h2 => ?_)
      rotate_left
      · exfalso; exact h1 h2
      first | refine E_aload_n d_TP_said_15 rfl ?_ | refine E_aload_nN d_TP_said_15 rfl ?_
      refine E_getR d_TP_said_16 gf_TP_10 (by first | exact hG.s (by decide) rfl) (by first | exact hR.o rfl | exact hR.c cr1 rfl | exact hR.m0 ad2) ?_
      refine E_iload_n d_TP_said_19 rfl ?_
      refine E_iload_n d_TP_said_20 rfl ?_
      refine E_V2 (S0) d_TP_said_21 ml_TP_364 cb_Cr_addSaid cv_Cr_addSaid (by first | exact hG.s (by decide) rfl) ⟨by decide, rfl⟩ ⟨by decide, by decide⟩ rfl (Nat.le_of_ble_eq_true rfl) (Nat.le_of_ble_eq_true rfl) (kI fun r1 M1 hc => ?_)
      obtain ⟨rfl, rfl⟩ := hc
      first | (with_reducible refine E_isP ?_; refine E_if_eq 37 d_TP_said_24 rfl (pb_0 fun h24 => ?_) (pb_1 fun h24 => ?_)) | (with_reducible refine E_isN1 ?_; refine E_if_eq 37 d_TP_said_24 rfl (nz_eq (by omega) fun h24 => ?_) (nz_ne fun h24 => ?_)) | refine E_if_eq 37 d_TP_said_24 rfl (fun h24 => ?_) (fun h24 => ?_)
      rotate_left
      · exfalso; exact absurd rfl h24
      refine E_bipush (v := (-2)) d_TP_said_37 (by decide) ?_
      refine E_retI d_TP_said_39 rfl ?_
      exact ⟨rfl, hC, Sc.rf⟩
end CMa
