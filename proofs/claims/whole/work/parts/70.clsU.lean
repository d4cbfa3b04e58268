section TPd
variable {c : Cr} {G : Geo} {M : Mem}
theorem swA_lt (h : Wf c) {s : Nat} (hs : s < 2 ^ c.now.people) : ∀ n, sweepA c n s < 2 ^ c.now.people := by
  intro n
  induction n with
  | zero => exact hs
  | succ n ih =>
    rw [sweepA]
    split
    · exact or_lt ih (h.hears n)
    · exact ih
theorem itsw_lt (h : Wf c) {s : Nat} (hs : s < 2 ^ c.now.people) : ∀ n, itn (sweep c) n s < 2 ^ c.now.people := by
  intro n
  induction n with
  | zero => exact hs
  | succ n ih => exact swA_lt h ih _
theorem clo_lt2 (h : Wf c) (p : Nat) : clo c p < 256 := Nat.lt_of_lt_of_le (itsw_lt h (h.hears p) _) (pow2_256 h)
theorem sp_Cr_heardBy (hC : CM c G M) {p : Nat} (hp : p < c.now.people) : E 1 0 0 Y_Cr_heardBy 0 [some (.ref 1), some (.int (nI p)), none, none, none] [] G M (QI G fun r M' => r = nI (clo c p) ∧ M' = M) := by
  have hG := hC.G
  have hR := hC.R
  have hm := hC.now
  have hw := hC.w
  have hp8 := hw.p8
  have h256 := pow2_256 hw
  have LI : ∀ k q t s, q + k = c.now.people → s < 2 ^ c.now.people → (K : E 1 0 0 Y_Cr_heardBy 65 [some (.ref 1), some (.int (nI p)), some (.int (nI (sweep c s))), some (.int (nI t)), none] [] G M (QI G fun r M' => r = nI (clo c p) ∧ M' = M)) → E 1 0 0 Y_Cr_heardBy 25 [some (.ref 1), some (.int (nI p)), some (.int (nI (sweepA c q s))), some (.int (nI t)), some (.int (nI q))] [] G M (QI G fun r M' => r = nI (clo c p) ∧ M' = M) := by
    intro k
    induction k with
    | zero =>
      intro q t s hq hs K
      have hq2 : q = c.now.people := by omega
      subst hq2
      refine E_iload d_Cr_heardBy_25 rfl ?_
      first | refine E_aload_n d_Cr_heardBy_27 rfl ?_ | refine E_aload_nN d_Cr_heardBy_27 rfl ?_
      refine E_getR d_Cr_heardBy_28 gf_Cr_12 (by first | exact hG.s (by decide) rfl | exact hG.m1 ad2) (by first | exact hR.o rfl | exact hR.c cr1 rfl | exact hR.m0 ad2) ?_
      refine E_getI d_Cr_heardBy_31 gf_Cr_93 (by first | exact hG.s (by decide) rfl | exact hG.m1 ad2) (by first | exact hm.people | exact htx | exact hsa | rfl) ?_
      first | (with_reducible refine E_isN2 ?_; refine E_icmp_ge 65 d_Cr_heardBy_34 rfl (nb_le (by omega) (by omega) fun h34 => ?_) (nb_nle (by omega) (by omega) fun h34 => ?_)) | refine E_icmp_ge 65 d_Cr_heardBy_34 rfl (fun h34 => ?_) (fun h34 => ?_)
      rotate_left
      · exfalso; omega
      refine E_wk ?_ K; exact ⟨Or.inl rfl, Or.inl rfl, Or.inl rfl, Or.inl rfl, Or.inr rfl, trivial⟩
    | succ k ih =>
      intro q t s hq hs K
      have hlt := swA_lt hw hs q
      have hh := hC.H.hears (show q < 8 by omega)
      have ih2 := ih (q + 1) t s (by omega) hs K
      rw [sweepA] at ih2
      have ha : sweepA c q s / 2 ^ q &&& 1 ≤ 1 := Nat.and_le_right
      have i1 : sweepA c q s / 2 ^ q &&& 1 = 1 → (if (sweepA c q s).testBit q = true then sweepA c q s ||| c.hears q else sweepA c q s) = sweepA c q s ||| c.hears q := fun r => if_pos ((tb_div _ _).mpr r)
      have i0 : sweepA c q s / 2 ^ q &&& 1 ≠ 1 → (if (sweepA c q s).testBit q = true then sweepA c q s ||| c.hears q else sweepA c q s) = sweepA c q s := fun r => if_neg (fun u => r ((tb_div _ _).mp u))
      refine E_iload d_Cr_heardBy_25 rfl ?_
      first | refine E_aload_n d_Cr_heardBy_27 rfl ?_ | refine E_aload_nN d_Cr_heardBy_27 rfl ?_
      refine E_getR d_Cr_heardBy_28 gf_Cr_12 (by first | exact hG.s (by decide) rfl | exact hG.m1 ad2) (by first | exact hR.o rfl | exact hR.c cr1 rfl | exact hR.m0 ad2) ?_
      refine E_getI d_Cr_heardBy_31 gf_Cr_93 (by first | exact hG.s (by decide) rfl | exact hG.m1 ad2) (by first | exact hm.people | exact htx | exact hsa | rfl) ?_
      first | (with_reducible refine E_isN2 ?_; refine E_icmp_ge 65 d_Cr_heardBy_34 rfl (nb_le (by omega) (by omega) fun h34 => ?_) (nb_nle (by omega) (by omega) fun h34 => ?_)) | refine E_icmp_ge 65 d_Cr_heardBy_34 rfl (fun h34 => ?_) (fun h34 => ?_)
      · exfalso; omega
      refine E_iload_n d_Cr_heardBy_37 rfl ?_
      refine E_iload d_Cr_heardBy_38 rfl ?_
      first | (with_reducible refine E_isN2 ?_; refine E_ishrN d_Cr_heardBy_40 (by omega) (by omega) ?_) | refine E_ishr d_Cr_heardBy_40 ?_
      refine E_iconst (v := nI 1) d_Cr_heardBy_41 rfl ?_
      first | (with_reducible refine E_isN2 ?_; refine E_iandN d_Cr_heardBy_42 ?_) | refine E_iand d_Cr_heardBy_42 ?_
      refine E_iconst (v := nI 1) d_Cr_heardBy_43 rfl ?_
      first | (with_reducible refine E_isN2 ?_; refine E_icmp_ne 59 d_Cr_heardBy_44 rfl (nb_ne fun h44 => ?_) (nb_eq (by omega) (by omega) fun h44 => ?_)) | refine E_icmp_ne 59 d_Cr_heardBy_44 rfl (fun h44 => ?_) (fun h44 => ?_)
      · first | (with_reducible refine E_isL4 ?_; refine E_iincN4 (m := 1) d_Cr_heardBy_59 rfl rfl ?_) | refine E_iinc_4 d_Cr_heardBy_59 rfl rfl ?_
        refine E_goto 25 d_Cr_heardBy_62 rfl ?_
        first | (rw [i0 h44] at ih2; exact ih2) | (rw [i1 h44] at ih2; exact ih2)
      · refine E_iload_n d_Cr_heardBy_47 rfl ?_
        first | refine E_aload_n d_Cr_heardBy_48 rfl ?_ | refine E_aload_nN d_Cr_heardBy_48 rfl ?_
        refine E_getR d_Cr_heardBy_49 gf_Cr_25 (by first | exact hG.s (by decide) rfl | exact hG.m1 ad2) (by first | exact hR.o rfl | exact hR.c cr1 rfl | exact hR.m0 ad2) ?_
        refine E_iload d_Cr_heardBy_52 rfl ?_
        refine E_SN2 (sp_TP_at (hG.s (k := 1 + 6) (by decide) rfl) (by decide) (by omega) hh) d_Cr_heardBy_54 nl_Cr_107 cb_TP_at cs_TP_at ⟨by decide, by decide⟩ rfl (Nat.le_of_ble_eq_true rfl) (Nat.le_of_ble_eq_true rfl) (kI fun r1 M1 hc => ?_)
        obtain ⟨rfl, rfl⟩ := hc
        first | (with_reducible refine E_isN2 ?_; refine E_iorN d_Cr_heardBy_57 ?_) | refine E_ior d_Cr_heardBy_57 ?_
        refine E_istore_2 d_Cr_heardBy_58 rfl ?_
        first | (with_reducible refine E_isL4 ?_; refine E_iincN4 (m := 1) d_Cr_heardBy_59 rfl rfl ?_) | refine E_iinc_4 d_Cr_heardBy_59 rfl rfl ?_
        refine E_goto 25 d_Cr_heardBy_62 rfl ?_
        first | (rw [i0 h44] at ih2; exact ih2) | (rw [i1 h44] at ih2; exact ih2)
  have LO : ∀ k t, t + k = c.now.people → E 1 0 0 Y_Cr_heardBy 11 [some (.ref 1), some (.int (nI p)), some (.int (nI (itn (sweep c) t (c.hears p)))), some (.int (nI t)), none] [] G M (QI G fun r M' => r = nI (clo c p) ∧ M' = M) := by
    intro k
    induction k with
    | zero =>
      intro t ht
      have ht2 : t = c.now.people := by omega
      subst ht2
      refine E_iload_n d_Cr_heardBy_11 rfl ?_
      first | refine E_aload_n d_Cr_heardBy_12 rfl ?_ | refine E_aload_nN d_Cr_heardBy_12 rfl ?_
      refine E_getR d_Cr_heardBy_13 gf_Cr_12 (by first | exact hG.s (by decide) rfl | exact hG.m1 ad2) (by first | exact hR.o rfl | exact hR.c cr1 rfl | exact hR.m0 ad2) ?_
      refine E_getI d_Cr_heardBy_16 gf_Cr_93 (by first | exact hG.s (by decide) rfl | exact hG.m1 ad2) (by first | exact hm.people | exact htx | exact hsa | rfl) ?_
      first | (with_reducible refine E_isN2 ?_; refine E_icmp_ge 71 d_Cr_heardBy_19 rfl (nb_le (by omega) (by omega) fun h19 => ?_) (nb_nle (by omega) (by omega) fun h19 => ?_)) | refine E_icmp_ge 71 d_Cr_heardBy_19 rfl (fun h19 => ?_) (fun h19 => ?_)
      rotate_left
      · exfalso; omega
      refine E_iload_n d_Cr_heardBy_71 rfl ?_
      refine E_retI d_Cr_heardBy_72 rfl ?_
      exact ⟨rfl, rfl⟩
    | succ k ih =>
      intro t ht
      have ih2 := ih (t + 1) (by omega)
      have K : E 1 0 0 Y_Cr_heardBy 65 [some (.ref 1), some (.int (nI p)), some (.int (nI (sweep c (itn (sweep c) t (c.hears p))))), some (.int (nI t)), none] [] G M (QI G fun r M' => r = nI (clo c p) ∧ M' = M) := by
        first | (with_reducible refine E_isL3 ?_; refine E_iincN3 (m := 1) d_Cr_heardBy_65 rfl rfl ?_) | refine E_iinc_3 d_Cr_heardBy_65 rfl rfl ?_
        refine E_goto 11 d_Cr_heardBy_68 rfl ?_
        exact ih2
      refine E_iload_n d_Cr_heardBy_11 rfl ?_
      first | refine E_aload_n d_Cr_heardBy_12 rfl ?_ | refine E_aload_nN d_Cr_heardBy_12 rfl ?_
      refine E_getR d_Cr_heardBy_13 gf_Cr_12 (by first | exact hG.s (by decide) rfl | exact hG.m1 ad2) (by first | exact hR.o rfl | exact hR.c cr1 rfl | exact hR.m0 ad2) ?_
      refine E_getI d_Cr_heardBy_16 gf_Cr_93 (by first | exact hG.s (by decide) rfl | exact hG.m1 ad2) (by first | exact hm.people | exact htx | exact hsa | rfl) ?_
      first | (with_reducible refine E_isN2 ?_; refine E_icmp_ge 71 d_Cr_heardBy_19 rfl (nb_le (by omega) (by omega) fun h19 => ?_) (nb_nle (by omega) (by omega) fun h19 => ?_)) | refine E_icmp_ge 71 d_Cr_heardBy_19 rfl (fun h19 => ?_) (fun h19 => ?_)
      · exfalso; omega
      refine E_iconst (v := nI 0) d_Cr_heardBy_22 rfl ?_
      refine E_istore_4 d_Cr_heardBy_23 rfl ?_
      exact LI c.now.people 0 t _ (Nat.zero_add _) (itsw_lt hw (hw.hears p) t) K
  first | refine E_aload_n d_Cr_heardBy_0 rfl ?_ | refine E_aload_nN d_Cr_heardBy_0 rfl ?_
  refine E_getR d_Cr_heardBy_1 gf_Cr_25 (by first | exact hG.s (by decide) rfl | exact hG.m1 ad2) (by first | exact hR.o rfl | exact hR.c cr1 rfl | exact hR.m0 ad2) ?_
  refine E_iload_n d_Cr_heardBy_4 rfl ?_
  refine E_SN2 (sp_TP_at (hG.s (k := 1 + 6) (by decide) rfl) (by decide) (by omega) (hC.H.hears (by omega))) d_Cr_heardBy_5 nl_Cr_107 cb_TP_at cs_TP_at ⟨by decide, by decide⟩ rfl (Nat.le_of_ble_eq_true rfl) (Nat.le_of_ble_eq_true rfl) (kI fun r1 M1 hc => ?_)
  obtain ⟨rfl, rfl⟩ := hc
  refine E_istore_2 d_Cr_heardBy_8 rfl ?_
  refine E_iconst (v := nI 0) d_Cr_heardBy_9 rfl ?_
  refine E_istore_3 d_Cr_heardBy_10 rfl ?_
  exact LO c.now.people 0 (Nat.zero_add _)
theorem sp_TP_reach (hC : CM c G M) (x : Int32) : E 2 0 0 Y_TP_reach 0 [some (.ref 0), some (.int x)] [] G M (QI G fun r M' => r = ans_reach c x ∧ Sc CQ M M') := by
  have hG := hC.G
  have hR := hC.R
  revert x
  refine args1 c.now.people (fun p hp hx ht => ?_) (fun x hx => ?_)
  · rw [ans_reach, if_pos hx, ht]
    first | refine E_aload_n d_TP_reach_0 rfl ?_ | refine E_aload_nN d_TP_reach_0 rfl ?_
    refine E_getR d_TP_reach_1 gf_TP_10 (by first | exact hG.s (by decide) rfl | exact hG.m1 ad2) (by first | exact hR.o rfl | exact hR.c cr1 rfl | exact hR.m0 ad2) ?_
    refine E_getR d_TP_reach_4 gf_TP_128 (by first | exact hG.s (by decide) rfl | exact hG.m1 ad2) (by first | exact hR.o rfl | exact hR.c cr1 rfl | exact hR.m0 ad2) ?_
    refine E_iload_n d_TP_reach_7 rfl ?_
    refine E_V1 (sp_Mo_hasPerson hG ad2 hC.now hC.w.mo _) d_TP_reach_8 ml_TP_163 cb_Mo_hasPerson cv_Mo_hasPerson (by first | exact hG.s (by decide) rfl | exact hG.m1 ad2) ⟨by decide, rfl⟩ ⟨by decide, by decide⟩ rfl (Nat.le_of_ble_eq_true rfl) (Nat.le_of_ble_eq_true rfl) (kI fun r1 M1 hc => ?_)
    obtain ⟨rfl, rfl⟩ := hc
    first | (with_reducible refine E_isP ?_; refine E_if_eq 25 d_TP_reach_11 rfl (pb_0 fun h11 => ?_) (pb_1 fun h11 => ?_)) | (with_reducible refine E_isN1 ?_; refine E_if_eq 25 d_TP_reach_11 rfl (nz_eq (by omega) fun h11 => ?_) (nz_ne fun h11 => ?_)) | refine E_if_eq 25 d_TP_reach_11 rfl (fun h11 => ?_) (fun h11 => ?_)
    · exfalso; exact h11 hx
    first | refine E_aload_n d_TP_reach_14 rfl ?_ | refine E_aload_nN d_TP_reach_14 rfl ?_
    refine E_getR d_TP_reach_15 gf_TP_10 (by first | exact hG.s (by decide) rfl | exact hG.m1 ad2) (by first | exact hR.o rfl | exact hR.c cr1 rfl | exact hR.m0 ad2) ?_
    refine E_iload_n d_TP_reach_18 rfl ?_
    refine E_V1 (sp_Cr_heardBy hC hp) d_TP_reach_19 ml_TP_315 cb_Cr_heardBy cv_Cr_heardBy (by first | exact hG.s (by decide) rfl | exact hG.m1 ad2) ⟨by decide, rfl⟩ ⟨by decide, by decide⟩ rfl (Nat.le_of_ble_eq_true rfl) (Nat.le_of_ble_eq_true rfl) (kI fun r1 M1 hc => ?_)
    obtain ⟨rfl, rfl⟩ := hc
    refine E_goto 26 d_TP_reach_22 rfl ?_
    refine E_retI d_TP_reach_26 rfl ?_
    exact ⟨rfl, Sc.rf⟩
  · first | refine E_aload_n d_TP_reach_0 rfl ?_ | refine E_aload_nN d_TP_reach_0 rfl ?_
    refine E_getR d_TP_reach_1 gf_TP_10 (by first | exact hG.s (by decide) rfl | exact hG.m1 ad2) (by first | exact hR.o rfl | exact hR.c cr1 rfl | exact hR.m0 ad2) ?_
    refine E_getR d_TP_reach_4 gf_TP_128 (by first | exact hG.s (by decide) rfl | exact hG.m1 ad2) (by first | exact hR.o rfl | exact hR.c cr1 rfl | exact hR.m0 ad2) ?_
    refine E_iload_n d_TP_reach_7 rfl ?_
    refine E_V1 (sp_Mo_hasPerson hG ad2 hC.now hC.w.mo _) d_TP_reach_8 ml_TP_163 cb_Mo_hasPerson cv_Mo_hasPerson (by first | exact hG.s (by decide) rfl | exact hG.m1 ad2) ⟨by decide, rfl⟩ ⟨by decide, by decide⟩ rfl (Nat.le_of_ble_eq_true rfl) (Nat.le_of_ble_eq_true rfl) (kI fun r1 M1 hc => ?_)
    obtain ⟨rfl, rfl⟩ := hc
    first | (with_reducible refine E_isP ?_; refine E_if_eq 25 d_TP_reach_11 rfl (pb_0 fun h11 => ?_) (pb_1 fun h11 => ?_)) | (with_reducible refine E_isN1 ?_; refine E_if_eq 25 d_TP_reach_11 rfl (nz_eq (by omega) fun h11 => ?_) (nz_ne fun h11 => ?_)) | refine E_if_eq 25 d_TP_reach_11 rfl (fun h11 => ?_) (fun h11 => ?_)
    rotate_left
    · exfalso; exact hx h11
    refine E_iconst (v := (-1)) d_TP_reach_25 rfl ?_
    refine E_retI d_TP_reach_26 rfl ?_
    exact ⟨by rw [ans_reach, if_neg hx], Sc.rf⟩
theorem firstA_f {p : Nat} : ∀ j i, firstA c p i = false → firstA c p (i + j) = false := by
  intro j
  induction j with
  | zero => intro i h; exact h
  | succ j ih => intro i h; rw [← Nat.add_assoc, firstA, ih i h]; rfl
theorem sp_Cr_isLowest (hC : CM c G M) {p : Nat} (hp : p < c.now.people) : E 2 0 0 Y_Cr_isLowestOfCircle 0 [some (.ref 1), some (.int (nI p)), none, none] [] G M (QI G fun r M' => r = pI (firstA c p p = true) ∧ M' = M) := by
  have hG := hC.G
  have hw := hC.w
  have hp8 := hw.p8
  have c1 := clo_lt2 hw p
  have L : ∀ k q, q + k = p → firstA c p q = true → E 2 0 0 Y_Cr_isLowestOfCircle 8 [some (.ref 1), some (.int (nI p)), some (.int (nI (clo c p))), some (.int (nI q))] [] G M (QI G fun r M' => r = pI (firstA c p p = true) ∧ M' = M) := by
    intro k
    induction k with
    | zero =>
      intro q hq hv
      have hq2 : q = p := by omega
      subst hq2
      refine E_iload_n d_Cr_isLowestOfCircle_8 rfl ?_
      refine E_iload_n d_Cr_isLowestOfCircle_9 rfl ?_
      first | (with_reducible refine E_isN2 ?_; refine E_icmp_ge 43 d_Cr_isLowestOfCircle_10 rfl (nb_le (by omega) (by omega) fun h10 => ?_) (nb_nle (by omega) (by omega) fun h10 => ?_)) | refine E_icmp_ge 43 d_Cr_isLowestOfCircle_10 rfl (fun h10 => ?_) (fun h10 => ?_)
      rotate_left
      · exfalso; omega
      refine E_iconst (v := nI 1) d_Cr_isLowestOfCircle_43 rfl ?_
      refine E_retZ d_Cr_isLowestOfCircle_44 rfl (by decide) ?_
      exact ⟨(pI_t hv).symm, rfl⟩
    | succ k ih =>
      intro q hq hv
      have c2 := clo_lt2 hw q
      have e : firstA c p (q + 1) = (firstA c p q && !((clo c p).testBit q && (clo c q).testBit p)) := rfl
      rw [hv, Bool.true_and] at e
      have a1 : clo c p / 2 ^ q &&& 1 ≤ 1 := Nat.and_le_right
      have a2 : clo c q / 2 ^ p &&& 1 ≤ 1 := Nat.and_le_right
      have n1 : clo c p / 2 ^ q &&& 1 ≠ 1 → firstA c p (q + 1) = true := fun r => by
        rw [e, Bool.eq_false_iff.mpr (fun u => r ((tb_div _ _).mp u))]; rfl
      have n2 : clo c q / 2 ^ p &&& 1 ≠ 1 → firstA c p (q + 1) = true := fun r => by
        rw [e, Bool.eq_false_iff.mpr (fun u => r ((tb_div _ _).mp u)), Bool.and_false]; rfl
      have n3 : clo c p / 2 ^ q &&& 1 = 1 → clo c q / 2 ^ p &&& 1 = 1 → ¬ firstA c p p = true := fun r u => by
        have e2 : firstA c p (q + 1) = false := by rw [e, (tb_div _ _).mpr r, (tb_div _ _).mpr u]; rfl
        have := firstA_f k (q + 1) e2
        rw [show q + 1 + k = p by omega] at this
        rw [this]
        exact Bool.false_ne_true
      refine E_iload_n d_Cr_isLowestOfCircle_8 rfl ?_
      refine E_iload_n d_Cr_isLowestOfCircle_9 rfl ?_
      first | (with_reducible refine E_isN2 ?_; refine E_icmp_ge 43 d_Cr_isLowestOfCircle_10 rfl (nb_le (by omega) (by omega) fun h10 => ?_) (nb_nle (by omega) (by omega) fun h10 => ?_)) | refine E_icmp_ge 43 d_Cr_isLowestOfCircle_10 rfl (fun h10 => ?_) (fun h10 => ?_)
      · exfalso; omega
      refine E_iload_n d_Cr_isLowestOfCircle_13 rfl ?_
      refine E_iload_n d_Cr_isLowestOfCircle_14 rfl ?_
      first | (with_reducible refine E_isN2 ?_; refine E_ishrN d_Cr_isLowestOfCircle_15 (by omega) (by omega) ?_) | refine E_ishr d_Cr_isLowestOfCircle_15 ?_
      refine E_iconst (v := nI 1) d_Cr_isLowestOfCircle_16 rfl ?_
      first | (with_reducible refine E_isN2 ?_; refine E_iandN d_Cr_isLowestOfCircle_17 ?_) | refine E_iand d_Cr_isLowestOfCircle_17 ?_
      refine E_iconst (v := nI 1) d_Cr_isLowestOfCircle_18 rfl ?_
      first | (with_reducible refine E_isN2 ?_; refine E_icmp_ne 37 d_Cr_isLowestOfCircle_19 rfl (nb_ne fun h19 => ?_) (nb_eq (by omega) (by omega) fun h19 => ?_)) | refine E_icmp_ne 37 d_Cr_isLowestOfCircle_19 rfl (fun h19 => ?_) (fun h19 => ?_)
      · first | (with_reducible refine E_isL3 ?_; refine E_iincN3 (m := 1) d_Cr_isLowestOfCircle_37 rfl rfl ?_) | refine E_iinc_3 d_Cr_isLowestOfCircle_37 rfl rfl ?_
        refine E_goto 8 d_Cr_isLowestOfCircle_40 rfl ?_
        first | exact ih (q + 1) (by omega) (n1 h19) | exact ih (q + 1) (by omega) (n2 h32)
      · first | refine E_aload_n d_Cr_isLowestOfCircle_22 rfl ?_ | refine E_aload_nN d_Cr_isLowestOfCircle_22 rfl ?_
        refine E_iload_n d_Cr_isLowestOfCircle_23 rfl ?_
        refine E_V1 (sp_Cr_heardBy hC (show q < c.now.people by omega)) d_Cr_isLowestOfCircle_24 ml_Cr_122 cb_Cr_heardBy cv_Cr_heardBy (by first | exact hG.s (by decide) rfl | exact hG.m1 ad2) ⟨by decide, rfl⟩ ⟨by decide, by decide⟩ rfl (Nat.le_of_ble_eq_true rfl) (Nat.le_of_ble_eq_true rfl) (kI fun r1 M1 hc => ?_)
        obtain ⟨rfl, rfl⟩ := hc
        refine E_iload_n d_Cr_isLowestOfCircle_27 rfl ?_
        first | (with_reducible refine E_isN2 ?_; refine E_ishrN d_Cr_isLowestOfCircle_28 (by omega) (by omega) ?_) | refine E_ishr d_Cr_isLowestOfCircle_28 ?_
        refine E_iconst (v := nI 1) d_Cr_isLowestOfCircle_29 rfl ?_
        first | (with_reducible refine E_isN2 ?_; refine E_iandN d_Cr_isLowestOfCircle_30 ?_) | refine E_iand d_Cr_isLowestOfCircle_30 ?_
        refine E_iconst (v := nI 1) d_Cr_isLowestOfCircle_31 rfl ?_
        first | (with_reducible refine E_isN2 ?_; refine E_icmp_ne 37 d_Cr_isLowestOfCircle_32 rfl (nb_ne fun h32 => ?_) (nb_eq (by omega) (by omega) fun h32 => ?_)) | refine E_icmp_ne 37 d_Cr_isLowestOfCircle_32 rfl (fun h32 => ?_) (fun h32 => ?_)
        · first | (with_reducible refine E_isL3 ?_; refine E_iincN3 (m := 1) d_Cr_isLowestOfCircle_37 rfl rfl ?_) | refine E_iinc_3 d_Cr_isLowestOfCircle_37 rfl rfl ?_
          refine E_goto 8 d_Cr_isLowestOfCircle_40 rfl ?_
          first | exact ih (q + 1) (by omega) (n1 h19) | exact ih (q + 1) (by omega) (n2 h32)
        · refine E_iconst (v := nI 0) d_Cr_isLowestOfCircle_35 rfl ?_
          refine E_retZ d_Cr_isLowestOfCircle_36 rfl (by decide) ?_
          exact ⟨(pI_f (n3 h19 h32)).symm, rfl⟩
  first | refine E_aload_n d_Cr_isLowestOfCircle_0 rfl ?_ | refine E_aload_nN d_Cr_isLowestOfCircle_0 rfl ?_
  refine E_iload_n d_Cr_isLowestOfCircle_1 rfl ?_
  refine E_V1 (sp_Cr_heardBy hC hp) d_Cr_isLowestOfCircle_2 ml_Cr_122 cb_Cr_heardBy cv_Cr_heardBy (by first | exact hG.s (by decide) rfl | exact hG.m1 ad2) ⟨by decide, rfl⟩ ⟨by decide, by decide⟩ rfl (Nat.le_of_ble_eq_true rfl) (Nat.le_of_ble_eq_true rfl) (kI fun r1 M1 hc => ?_)
  obtain ⟨rfl, rfl⟩ := hc
  refine E_istore_2 d_Cr_isLowestOfCircle_5 rfl ?_
  refine E_iconst (v := nI 0) d_Cr_isLowestOfCircle_6 rfl ?_
  refine E_istore_3 d_Cr_isLowestOfCircle_7 rfl ?_
  exact L p 0 (Nat.zero_add _) rfl
theorem sp_TP_circles (hC : CM c G M) : E 4 0 0 Y_TP_circles 0 [some (.ref 0)] [] G M (QI G fun r M' => r = ans_circles c ∧ Sc CQ M M') := by
  have hG := hC.G
  have hR := hC.R
  have hm := hC.now
  have hp8 := hC.w.p8
  have L : ∀ k p, p + k = c.now.people → E 3 0 0 Y_Cr_circleCount 4 [some (.ref 1), some (.int (nI (cnt (fun p => firstA c p p) p))), some (.int (nI p))] [] G M (QI G fun r M' => r = ans_circles c ∧ M' = M) := by
    intro k
    induction k with
    | zero =>
      intro p hp
      have hp2 : p = c.now.people := by omega
      subst hp2
      refine E_iload_n d_Cr_circleCount_4 rfl ?_
      first | refine E_aload_n d_Cr_circleCount_5 rfl ?_ | refine E_aload_nN d_Cr_circleCount_5 rfl ?_
      refine E_getR d_Cr_circleCount_6 gf_Cr_12 (by first | exact hG.s (by decide) rfl | exact hG.m1 ad2) (by first | exact hR.o rfl | exact hR.c cr1 rfl | exact hR.m0 ad2) ?_
      refine E_getI d_Cr_circleCount_9 gf_Cr_93 (by first | exact hG.s (by decide) rfl | exact hG.m1 ad2) (by first | exact hm.people | exact htx | exact hsa | rfl) ?_
      first | (with_reducible refine E_isN2 ?_; refine E_icmp_ge 32 d_Cr_circleCount_12 rfl (nb_le (by omega) (by omega) fun h12 => ?_) (nb_nle (by omega) (by omega) fun h12 => ?_)) | refine E_icmp_ge 32 d_Cr_circleCount_12 rfl (fun h12 => ?_) (fun h12 => ?_)
      rotate_left
      · exfalso; omega
      refine E_iload_n d_Cr_circleCount_32 rfl ?_
      refine E_retI d_Cr_circleCount_33 rfl ?_
      exact ⟨rfl, rfl⟩
    | succ k ih =>
      intro p hp
      have ih2 := ih (p + 1) (by omega)
      have e : cnt (fun p => firstA c p p) (p + 1) = cnt (fun p => firstA c p p) p + (if firstA c p p = true then 1 else 0) := rfl
      rw [e] at ih2
      refine E_iload_n d_Cr_circleCount_4 rfl ?_
      first | refine E_aload_n d_Cr_circleCount_5 rfl ?_ | refine E_aload_nN d_Cr_circleCount_5 rfl ?_
      refine E_getR d_Cr_circleCount_6 gf_Cr_12 (by first | exact hG.s (by decide) rfl | exact hG.m1 ad2) (by first | exact hR.o rfl | exact hR.c cr1 rfl | exact hR.m0 ad2) ?_
      refine E_getI d_Cr_circleCount_9 gf_Cr_93 (by first | exact hG.s (by decide) rfl | exact hG.m1 ad2) (by first | exact hm.people | exact htx | exact hsa | rfl) ?_
      first | (with_reducible refine E_isN2 ?_; refine E_icmp_ge 32 d_Cr_circleCount_12 rfl (nb_le (by omega) (by omega) fun h12 => ?_) (nb_nle (by omega) (by omega) fun h12 => ?_)) | refine E_icmp_ge 32 d_Cr_circleCount_12 rfl (fun h12 => ?_) (fun h12 => ?_)
      · exfalso; omega
      first | refine E_aload_n d_Cr_circleCount_15 rfl ?_ | refine E_aload_nN d_Cr_circleCount_15 rfl ?_
      refine E_iload_n d_Cr_circleCount_16 rfl ?_
      refine E_V1 (sp_Cr_isLowest hC (by omega)) d_Cr_circleCount_17 ml_Cr_119 cb_Cr_isLowestOfCircle cv_Cr_isLowestOfCircle (by first | exact hG.s (by decide) rfl | exact hG.m1 ad2) ⟨by decide, rfl⟩ ⟨by decide, by decide⟩ rfl (Nat.le_of_ble_eq_true rfl) (Nat.le_of_ble_eq_true rfl) (kI fun r1 M1 hc => ?_)
      obtain ⟨rfl, rfl⟩ := hc
      first | (with_reducible refine E_isP ?_; refine E_if_eq 26 d_Cr_circleCount_20 rfl (pb_0 fun h20 => ?_) (pb_1 fun h20 => ?_)) | (with_reducible refine E_isN1 ?_; refine E_if_eq 26 d_Cr_circleCount_20 rfl (nz_eq (by omega) fun h20 => ?_) (nz_ne fun h20 => ?_)) | refine E_if_eq 26 d_Cr_circleCount_20 rfl (fun h20 => ?_) (fun h20 => ?_)
      · first | (with_reducible refine E_isL2 ?_; refine E_iincN2 (m := 1) d_Cr_circleCount_26 rfl rfl ?_) | refine E_iinc_2 d_Cr_circleCount_26 rfl rfl ?_
        refine E_goto 4 d_Cr_circleCount_29 rfl ?_
        first | (rw [if_neg h20] at ih2; exact ih2) | (rw [if_pos h20] at ih2; exact ih2)
      · first | (with_reducible refine E_isL1 ?_; refine E_iincN1 (m := 1) d_Cr_circleCount_23 rfl rfl ?_) | refine E_iinc_1 d_Cr_circleCount_23 rfl rfl ?_
        first | (with_reducible refine E_isL2 ?_; refine E_iincN2 (m := 1) d_Cr_circleCount_26 rfl rfl ?_) | refine E_iinc_2 d_Cr_circleCount_26 rfl rfl ?_
        refine E_goto 4 d_Cr_circleCount_29 rfl ?_
        first | (rw [if_neg h20] at ih2; exact ih2) | (rw [if_pos h20] at ih2; exact ih2)
  have S0 : E 3 0 0 Y_Cr_circleCount 0 [some (.ref 1), none, none] [] G M (QI G fun r M' => r = ans_circles c ∧ M' = M) := by
    refine E_iconst (v := nI 0) d_Cr_circleCount_0 rfl ?_
    refine E_istore_1 d_Cr_circleCount_1 rfl ?_
    refine E_iconst (v := nI 0) d_Cr_circleCount_2 rfl ?_
    refine E_istore_2 d_Cr_circleCount_3 rfl ?_
    exact L c.now.people 0 (Nat.zero_add _)
  first | refine E_aload_n d_TP_circles_0 rfl ?_ | refine E_aload_nN d_TP_circles_0 rfl ?_
  refine E_getR d_TP_circles_1 gf_TP_10 (by first | exact hG.s (by decide) rfl | exact hG.m1 ad2) (by first | exact hR.o rfl | exact hR.c cr1 rfl | exact hR.m0 ad2) ?_
  refine E_V0 (S0) d_TP_circles_4 ml_TP_318 cb_Cr_circleCount cv_Cr_circleCount (by first | exact hG.s (by decide) rfl | exact hG.m1 ad2) ⟨by decide, rfl⟩ ⟨by decide, by decide⟩ rfl (Nat.le_of_ble_eq_true rfl) (Nat.le_of_ble_eq_true rfl) (kI fun r1 M1 hc => ?_)
  obtain ⟨rfl, rfl⟩ := hc
  refine E_retI d_TP_circles_7 rfl ?_
  exact ⟨rfl, Sc.rf⟩
theorem sp_Cr_earsFor (hC : CM c G M) {p : Nat} (hp : p < c.now.people) : E 1 0 0 Y_Cr_earsFor 0 [some (.ref 1), some (.int (nI p)), none, none] [] G M (QI G fun r M' => r = nI (earsN c p) ∧ M' = M) := by
  have hG := hC.G
  have hR := hC.R
  have hm := hC.now
  have hw := hC.w
  have hp8 := hw.p8
  have L : ∀ k q, q + k = c.now.people → E 1 0 0 Y_Cr_earsFor 4 [some (.ref 1), some (.int (nI p)), some (.int (nI (cnt (fun q => (c.hears q).testBit p) q))), some (.int (nI q))] [] G M (QI G fun r M' => r = nI (earsN c p) ∧ M' = M) := by
    intro k
    induction k with
    | zero =>
      intro q hq
      have hq2 : q = c.now.people := by omega
      subst hq2
      refine E_iload_n d_Cr_earsFor_4 rfl ?_
      first | refine E_aload_n d_Cr_earsFor_5 rfl ?_ | refine E_aload_nN d_Cr_earsFor_5 rfl ?_
      refine E_getR d_Cr_earsFor_6 gf_Cr_12 (by first | exact hG.s (by decide) rfl | exact hG.m1 ad2) (by first | exact hR.o rfl | exact hR.c cr1 rfl | exact hR.m0 ad2) ?_
      refine E_getI d_Cr_earsFor_9 gf_Cr_93 (by first | exact hG.s (by decide) rfl | exact hG.m1 ad2) (by first | exact hm.people | exact htx | exact hsa | rfl) ?_
      first | (with_reducible refine E_isN2 ?_; refine E_icmp_ge 36 d_Cr_earsFor_12 rfl (nb_le (by omega) (by omega) fun h12 => ?_) (nb_nle (by omega) (by omega) fun h12 => ?_)) | refine E_icmp_ge 36 d_Cr_earsFor_12 rfl (fun h12 => ?_) (fun h12 => ?_)
      rotate_left
      · exfalso; omega
      refine E_iload_n d_Cr_earsFor_36 rfl ?_
      refine E_retI d_Cr_earsFor_37 rfl ?_
      exact ⟨rfl, rfl⟩
    | succ k ih =>
      intro q hq
      have h8 := hw.hears8 q
      have ih2 := ih (q + 1) (by omega)
      have e : cnt (fun q => (c.hears q).testBit p) (q + 1) = cnt (fun q => (c.hears q).testBit p) q + (if (c.hears q).testBit p = true then 1 else 0) := rfl
      rw [e, ← tb_and] at ih2
      refine E_iload_n d_Cr_earsFor_4 rfl ?_
      first | refine E_aload_n d_Cr_earsFor_5 rfl ?_ | refine E_aload_nN d_Cr_earsFor_5 rfl ?_
      refine E_getR d_Cr_earsFor_6 gf_Cr_12 (by first | exact hG.s (by decide) rfl | exact hG.m1 ad2) (by first | exact hR.o rfl | exact hR.c cr1 rfl | exact hR.m0 ad2) ?_
      refine E_getI d_Cr_earsFor_9 gf_Cr_93 (by first | exact hG.s (by decide) rfl | exact hG.m1 ad2) (by first | exact hm.people | exact htx | exact hsa | rfl) ?_
      first | (with_reducible refine E_isN2 ?_; refine E_icmp_ge 36 d_Cr_earsFor_12 rfl (nb_le (by omega) (by omega) fun h12 => ?_) (nb_nle (by omega) (by omega) fun h12 => ?_)) | refine E_icmp_ge 36 d_Cr_earsFor_12 rfl (fun h12 => ?_) (fun h12 => ?_)
      · exfalso; omega
      refine E_iload_n d_Cr_earsFor_15 rfl ?_
      first | refine E_aload_n d_Cr_earsFor_16 rfl ?_ | refine E_aload_nN d_Cr_earsFor_16 rfl ?_
      refine E_getR d_Cr_earsFor_17 gf_Cr_25 (by first | exact hG.s (by decide) rfl | exact hG.m1 ad2) (by first | exact hR.o rfl | exact hR.c cr1 rfl | exact hR.m0 ad2) ?_
      refine E_iload_n d_Cr_earsFor_20 rfl ?_
      refine E_SN2 (sp_TP_at (hG.s (k := 1 + 6) (by decide) rfl) (by decide) (by omega) (hC.H.hears (by omega))) d_Cr_earsFor_21 nl_Cr_107 cb_TP_at cs_TP_at ⟨by decide, by decide⟩ rfl (Nat.le_of_ble_eq_true rfl) (Nat.le_of_ble_eq_true rfl) (kI fun r1 M1 hc => ?_)
      obtain ⟨rfl, rfl⟩ := hc
      refine E_iload_n d_Cr_earsFor_24 rfl ?_
      first | (with_reducible refine E_isN2 ?_; refine E_ishrN d_Cr_earsFor_25 (by omega) (by omega) ?_) | refine E_ishr d_Cr_earsFor_25 ?_
      refine E_iconst (v := nI 1) d_Cr_earsFor_26 rfl ?_
      first | (with_reducible refine E_isN2 ?_; refine E_iandN d_Cr_earsFor_27 ?_) | refine E_iand d_Cr_earsFor_27 ?_
      first | (with_reducible refine E_isN2 ?_; refine E_iaddN d_Cr_earsFor_28 ?_) | refine E_iadd d_Cr_earsFor_28 ?_
      refine E_istore_2 d_Cr_earsFor_29 rfl ?_
      first | (with_reducible refine E_isL3 ?_; refine E_iincN3 (m := 1) d_Cr_earsFor_30 rfl rfl ?_) | refine E_iinc_3 d_Cr_earsFor_30 rfl rfl ?_
      refine E_goto 4 d_Cr_earsFor_33 rfl ?_
      exact ih2
  refine E_iconst (v := nI 0) d_Cr_earsFor_0 rfl ?_
  refine E_istore_2 d_Cr_earsFor_1 rfl ?_
  refine E_iconst (v := nI 0) d_Cr_earsFor_2 rfl ?_
  refine E_istore_3 d_Cr_earsFor_3 rfl ?_
  exact L c.now.people 0 (Nat.zero_add _)
theorem sp_TP_loud (hC : CM c G M) : E 3 0 0 Y_TP_loud 0 [some (.ref 0)] [] G M (QI G fun r M' => r = ans_loud c ∧ Sc CQ M M') := by
  have hG := hC.G
  have hR := hC.R
  have hm := hC.now
  have hp8 := hC.w.p8
  have e8 : ∀ p, earsN c p ≤ 8 := fun p => Nat.le_trans (cnt_le _ _) hp8
  have L : ∀ k p, p + k = c.now.people → E 2 0 0 Y_Cr_loudest 6 [some (.ref 1), some (.int (wE (loudA c p))), some (.int (nI (if loudA c p = 0 then 0 else earsN c (loudA c p - 1)))), some (.int (nI p)), none] [] G M (QI G fun r M' => r = ans_loud c ∧ M' = M) := by
    intro k
    induction k with
    | zero =>
      intro p hp
      have hp2 : p = c.now.people := by omega
      subst hp2
      refine E_iload_n d_Cr_loudest_6 rfl ?_
      first | refine E_aload_n d_Cr_loudest_7 rfl ?_ | refine E_aload_nN d_Cr_loudest_7 rfl ?_
      refine E_getR d_Cr_loudest_8 gf_Cr_12 (by first | exact hG.s (by decide) rfl | exact hG.m1 ad2) (by first | exact hR.o rfl | exact hR.c cr1 rfl | exact hR.m0 ad2) ?_
      refine E_getI d_Cr_loudest_11 gf_Cr_93 (by first | exact hG.s (by decide) rfl | exact hG.m1 ad2) (by first | exact hm.people | exact htx | exact hsa | rfl) ?_
      first | (with_reducible refine E_isN2 ?_; refine E_icmp_ge 41 d_Cr_loudest_14 rfl (nb_le (by omega) (by omega) fun h14 => ?_) (nb_nle (by omega) (by omega) fun h14 => ?_)) | refine E_icmp_ge 41 d_Cr_loudest_14 rfl (fun h14 => ?_) (fun h14 => ?_)
      rotate_left
      · exfalso; omega
      refine E_iload_n d_Cr_loudest_41 rfl ?_
      refine E_retI d_Cr_loudest_42 rfl ?_
      exact ⟨rfl, rfl⟩
    | succ k ih =>
      intro p hp
      have ih2 := ih (p + 1) (by omega)
      have ep := e8 p
      have el : (if loudA c p = 0 then 0 else earsN c (loudA c p - 1)) ≤ 8 := by split; exact Nat.zero_le _; exact e8 _
      have e : loudA c (p + 1) = if (if loudA c p = 0 then 0 else earsN c (loudA c p - 1)) < earsN c p then p + 1 else loudA c p := rfl
      have i0 : earsN c p ≤ (if loudA c p = 0 then 0 else earsN c (loudA c p - 1)) → loudA c (p + 1) = loudA c p := fun q => by rw [e, if_neg (by omega)]
      have i1 : (if loudA c p = 0 then 0 else earsN c (loudA c p - 1)) < earsN c p → loudA c (p + 1) = p + 1 := fun q => by rw [e, if_pos q]
      have wk : ∀ a b x, E 2 0 0 Y_Cr_loudest 6 [some (.ref 1), some (.int a), some (.int b), some (.int (nI (p + 1))), none] [] G M (QI G fun r M' => r = ans_loud c ∧ M' = M) → E 2 0 0 Y_Cr_loudest 6 [some (.ref 1), some (.int a), some (.int b), some (.int (nI (p + 1))), x] [] G M (QI G fun r M' => r = ans_loud c ∧ M' = M) := fun a b x h => E_wk (by exact ⟨Or.inl rfl, Or.inl rfl, Or.inl rfl, Or.inl rfl, Or.inr rfl, trivial⟩) h
      refine E_iload_n d_Cr_loudest_6 rfl ?_
      first | refine E_aload_n d_Cr_loudest_7 rfl ?_ | refine E_aload_nN d_Cr_loudest_7 rfl ?_
      refine E_getR d_Cr_loudest_8 gf_Cr_12 (by first | exact hG.s (by decide) rfl | exact hG.m1 ad2) (by first | exact hR.o rfl | exact hR.c cr1 rfl | exact hR.m0 ad2) ?_
      refine E_getI d_Cr_loudest_11 gf_Cr_93 (by first | exact hG.s (by decide) rfl | exact hG.m1 ad2) (by first | exact hm.people | exact htx | exact hsa | rfl) ?_
      first | (with_reducible refine E_isN2 ?_; refine E_icmp_ge 41 d_Cr_loudest_14 rfl (nb_le (by omega) (by omega) fun h14 => ?_) (nb_nle (by omega) (by omega) fun h14 => ?_)) | refine E_icmp_ge 41 d_Cr_loudest_14 rfl (fun h14 => ?_) (fun h14 => ?_)
      · exfalso; omega
      first | refine E_aload_n d_Cr_loudest_17 rfl ?_ | refine E_aload_nN d_Cr_loudest_17 rfl ?_
      refine E_iload_n d_Cr_loudest_18 rfl ?_
      refine E_V1 (sp_Cr_earsFor hC (by omega)) d_Cr_loudest_19 ml_Cr_126 cb_Cr_earsFor cv_Cr_earsFor (by first | exact hG.s (by decide) rfl | exact hG.m1 ad2) ⟨by decide, rfl⟩ ⟨by decide, by decide⟩ rfl (Nat.le_of_ble_eq_true rfl) (Nat.le_of_ble_eq_true rfl) (kI fun r1 M1 hc => ?_)
      obtain ⟨rfl, rfl⟩ := hc
      refine E_istore_4 d_Cr_loudest_22 rfl ?_
      refine E_iload d_Cr_loudest_24 rfl ?_
      refine E_iload_n d_Cr_loudest_26 rfl ?_
      first | (with_reducible refine E_isN2 ?_; refine E_icmp_le 35 d_Cr_loudest_27 rfl (nb_le (by omega) (by omega) fun h27 => ?_) (nb_nle (by omega) (by omega) fun h27 => ?_)) | refine E_icmp_le 35 d_Cr_loudest_27 rfl (fun h27 => ?_) (fun h27 => ?_)
      · first | (with_reducible refine E_isL3 ?_; refine E_iincN3 (m := 1) d_Cr_loudest_35 rfl rfl ?_) | refine E_iinc_3 d_Cr_loudest_35 rfl rfl ?_
        refine E_goto 6 d_Cr_loudest_38 rfl ?_
        first | (rw [i0 h27] at ih2; exact wk _ _ _ ih2) | (rw [i1 h27, if_neg (Nat.succ_ne_zero p), Nat.add_sub_cancel] at ih2; exact wk _ _ _ ih2)
      · refine E_iload d_Cr_loudest_30 rfl ?_
        refine E_istore_2 d_Cr_loudest_32 rfl ?_
        refine E_iload_n d_Cr_loudest_33 rfl ?_
        refine E_istore_1 d_Cr_loudest_34 rfl ?_
        first | (with_reducible refine E_isL3 ?_; refine E_iincN3 (m := 1) d_Cr_loudest_35 rfl rfl ?_) | refine E_iinc_3 d_Cr_loudest_35 rfl rfl ?_
        refine E_goto 6 d_Cr_loudest_38 rfl ?_
        first | (rw [i0 h27] at ih2; exact wk _ _ _ ih2) | (rw [i1 h27, if_neg (Nat.succ_ne_zero p), Nat.add_sub_cancel] at ih2; exact wk _ _ _ ih2)
  have S0 : E 2 0 0 Y_Cr_loudest 0 [some (.ref 1), none, none, none, none] [] G M (QI G fun r M' => r = ans_loud c ∧ M' = M) := by
    refine E_iconst (v := (-1)) d_Cr_loudest_0 rfl ?_
    refine E_istore_1 d_Cr_loudest_1 rfl ?_
    refine E_iconst (v := nI 0) d_Cr_loudest_2 rfl ?_
    refine E_istore_2 d_Cr_loudest_3 rfl ?_
    refine E_iconst (v := nI 0) d_Cr_loudest_4 rfl ?_
    refine E_istore_3 d_Cr_loudest_5 rfl ?_
    exact L c.now.people 0 (Nat.zero_add _)
  first | refine E_aload_n d_TP_loud_0 rfl ?_ | refine E_aload_nN d_TP_loud_0 rfl ?_
  refine E_getR d_TP_loud_1 gf_TP_10 (by first | exact hG.s (by decide) rfl | exact hG.m1 ad2) (by first | exact hR.o rfl | exact hR.c cr1 rfl | exact hR.m0 ad2) ?_
  refine E_V0 (S0) d_TP_loud_4 ml_TP_321 cb_Cr_loudest cv_Cr_loudest (by first | exact hG.s (by decide) rfl | exact hG.m1 ad2) ⟨by decide, rfl⟩ ⟨by decide, by decide⟩ rfl (Nat.le_of_ble_eq_true rfl) (Nat.le_of_ble_eq_true rfl) (kI fun r1 M1 hc => ?_)
  obtain ⟨rfl, rfl⟩ := hc
  refine E_retI d_TP_loud_7 rfl ?_
  exact ⟨rfl, Sc.rf⟩
theorem pc9_bcnt (P : Nat → Bool) : ∀ n, n ≤ 8 → pc9 (bset P n) = cnt P n := by
  intro n
  induction n with
  | zero => intro _; show pc9 0 = 0; decide
  | succ n ih => intro h; rw [pc9_bset P n (by omega), ih (by omega)]; rfl
theorem pc_yes (h : Wf c) (t f : Nat) : pc9 (yesTo c c.now (some (txAt c t)) f) = countN c t f := pc9_bcnt _ _ h.p8
theorem yesTo_256 (h : Wf c) (t : Option Tx) (f : Nat) : yesTo c c.now t f < 256 := Nat.lt_of_lt_of_le (bset_lt _ _) (pow2_256 h)
theorem sp_yesBitsT (hC : CM c G M) {t f la : Nat} {r : Option Nat} (hf : f ≤ 8) (hr : r = some la) (hL : LawV (some (txAt c t)) r G M) : E 4 0 0 Y_As_yesBits 0 [some (.ref 212), some (.ref 2), some (.ref la), some (.int (nI f)), none, none] [] G M (QI G fun r M' => r = nI (yesTo c c.now (some (txAt c t)) f) ∧ CM c G M' ∧ Sc SA M M') := by
  subst hr
  exact E_mono (sp_As_yesBits (AB.now hC) hL hf) (fun _ _ _ h => ⟨h.1, h.2.choose, h.2.choose_spec.1, h.2.choose_spec.2.1, hC.q (h.2.choose_spec.2.2.wk fun _ => SA.q), h.2.choose_spec.2.2⟩)
theorem law_some {x : Tx} {r : Option Nat} (h : LawV (some x) r G M) : ∃ la, r = some la := by
  cases r with
  | none => exact absurd h (fun q => q)
  | some la => exact ⟨la, rfl⟩
theorem sp_TP_unlikeCounts (hC : CM c G M) {f : Nat} (hf : f ≤ 8) : E 5 0 0 Y_TP_unlikeCounts 0 [some (.ref 0), some (.int (nI f)), none, none] [] G M (QI G fun r M' => r = nI (unlN c f) ∧ CM c G M' ∧ Sc SA M M') := by
  have h4 := hC.w.texts
  have hw := hC.w
  have L : ∀ k t M1, t + k = c.texts.length → CM c G M1 → Sc SA M M1 → E 5 0 0 Y_TP_unlikeCounts 4 [some (.ref 0), some (.int (nI f)), some (.int (nI (unlA c f t))), some (.int (nI t))] [] G M1 (QI G fun r M' => r = nI (unlN c f) ∧ CM c G M' ∧ Sc SA M M') := by
    intro k
    induction k with
    | zero =>
      intro t M1 ht hC hX
      have hG := hC.G
      have hR := hC.R
      have htx := hC.H.texts
      have ht2 : t = c.texts.length := by omega
      subst ht2
      refine E_iload_n d_TP_unlikeCounts_4 rfl ?_
      first | refine E_aload_n d_TP_unlikeCounts_5 rfl ?_ | refine E_aload_nN d_TP_unlikeCounts_5 rfl ?_
      refine E_getR d_TP_unlikeCounts_6 gf_TP_10 (by first | exact hG.s (by decide) rfl | exact hG.m1 ad2) (by first | exact hR.o rfl | exact hR.c cr1 rfl | exact hR.m0 ad2) ?_
      refine E_getI d_TP_unlikeCounts_9 gf_TP_100 (by first | exact hG.s (by decide) rfl | exact hG.m1 ad2) (by exact htx) ?_
      first | (with_reducible refine E_isN2 ?_; refine E_icmp_ge 52 d_TP_unlikeCounts_12 rfl (nb_le (by omega) (by omega) fun h12 => ?_) (nb_nle (by omega) (by omega) fun h12 => ?_)) | refine E_icmp_ge 52 d_TP_unlikeCounts_12 rfl (fun h12 => ?_) (fun h12 => ?_)
      rotate_left
      · exfalso; omega
      refine E_iload_n d_TP_unlikeCounts_52 rfl ?_
      refine E_S1 (sp_JI_bitCount (unlA_lt hw f _)) d_TP_unlikeCounts_53 ml_TP_256 cb_JI_bitCount cs_JI_bitCount ⟨by decide, by decide⟩ rfl (Nat.le_of_ble_eq_true rfl) (Nat.le_of_ble_eq_true rfl) (kI fun r1 M1 hc => ?_)
      obtain ⟨rfl, rfl⟩ := hc
      refine E_retI d_TP_unlikeCounts_56 rfl ?_
      exact ⟨rfl, hC, hX⟩
    | succ k ih =>
      intro t M1 ht hC hX
      have hG := hC.G
      have hR := hC.R
      have htx := hC.H.texts
      have htl : t < c.texts.length := by omega
      have hin : inN (nI t) c.texts.length := (inN_nI (by omega)).mpr htl
      have hcn := countN_le c t f
      have hp8 := hw.p8
      have hy := yesTo_256 hw (some (txAt c t)) f
      have K : ∀ r, LawV (some (txAt c t)) r G M1 → E 5 0 0 Y_TP_unlikeCounts 36 [some (.ref 0), some (.int (nI f)), some (.int (nI (unlA c f t))), some (.int (nI t))] [oV r, .ref 2, .ref 212, .int (nI 1), .int (nI (unlA c f t))] G M1 (QI G fun r M' => r = nI (unlN c f) ∧ CM c G M' ∧ Sc SA M M') := by
        intro r hL
        obtain ⟨la, hla⟩ := law_some hL
        have hs := sp_yesBitsT hC hf hla hL
        subst hla
        show E _ _ _ _ _ _ [.ref la, _, _, _, _] _ _ _
        refine E_iload_n d_TP_unlikeCounts_36 rfl ?_
        refine E_V3 (hs) d_TP_unlikeCounts_37 ml_TP_387 cb_As_yesBits cv_As_yesBits (by first | exact hG.s (by decide) rfl | exact hG.m1 ad2) ⟨by decide, rfl⟩ ⟨by decide, by decide⟩ rfl (Nat.le_of_ble_eq_true rfl) (Nat.le_of_ble_eq_true rfl) (kI fun r1 M1 hc => ?_)
        obtain ⟨rfl, hC1, hS1⟩ := hc
        refine E_S1 (sp_JI_bitCount (by omega)) d_TP_unlikeCounts_40 ml_TP_256 cb_JI_bitCount cs_JI_bitCount ⟨by decide, by decide⟩ rfl (Nat.le_of_ble_eq_true rfl) (Nat.le_of_ble_eq_true rfl) (kI fun r1 M1 hc => ?_)
        obtain ⟨rfl, rfl⟩ := hc; rw [pc_yes hw]
        first | (with_reducible refine E_isN2 ?_; first | refine E_ishl1 d_TP_unlikeCounts_43 (by omega) ?_ | refine E_ishlN d_TP_unlikeCounts_43 (by omega) (by omega) ?_) | refine E_ishl d_TP_unlikeCounts_43 ?_
        first | (with_reducible refine E_isN2 ?_; refine E_iorN d_TP_unlikeCounts_44 ?_) | refine E_ior d_TP_unlikeCounts_44 ?_
        refine E_istore_2 d_TP_unlikeCounts_45 rfl ?_
        first | (with_reducible refine E_isL3 ?_; refine E_iincN3 (m := 1) d_TP_unlikeCounts_46 rfl rfl ?_) | refine E_iinc_3 d_TP_unlikeCounts_46 rfl rfl ?_
        refine E_goto 4 d_TP_unlikeCounts_49 rfl ?_
        exact ih (t + 1) _ (by omega) hC1 (hX.tr hS1)
      refine E_iload_n d_TP_unlikeCounts_4 rfl ?_
      first | refine E_aload_n d_TP_unlikeCounts_5 rfl ?_ | refine E_aload_nN d_TP_unlikeCounts_5 rfl ?_
      refine E_getR d_TP_unlikeCounts_6 gf_TP_10 (by first | exact hG.s (by decide) rfl | exact hG.m1 ad2) (by first | exact hR.o rfl | exact hR.c cr1 rfl | exact hR.m0 ad2) ?_
      refine E_getI d_TP_unlikeCounts_9 gf_TP_100 (by first | exact hG.s (by decide) rfl | exact hG.m1 ad2) (by exact htx) ?_
      first | (with_reducible refine E_isN2 ?_; refine E_icmp_ge 52 d_TP_unlikeCounts_12 rfl (nb_le (by omega) (by omega) fun h12 => ?_) (nb_nle (by omega) (by omega) fun h12 => ?_)) | refine E_icmp_ge 52 d_TP_unlikeCounts_12 rfl (fun h12 => ?_) (fun h12 => ?_)
      · exfalso; omega
      refine E_iload_n d_TP_unlikeCounts_15 rfl ?_
      refine E_iconst (v := nI 1) d_TP_unlikeCounts_16 rfl ?_
      first | refine E_aload_n d_TP_unlikeCounts_17 rfl ?_ | refine E_aload_nN d_TP_unlikeCounts_17 rfl ?_
      refine E_getR d_TP_unlikeCounts_18 gf_TP_31 (by first | exact hG.s (by decide) rfl | exact hG.m1 ad2) (by first | exact hR.o rfl | exact hR.c cr1 rfl | exact hR.m0 ad2) ?_
      first | refine E_aload_n d_TP_unlikeCounts_21 rfl ?_ | refine E_aload_nN d_TP_unlikeCounts_21 rfl ?_
      refine E_getR d_TP_unlikeCounts_22 gf_TP_10 (by first | exact hG.s (by decide) rfl | exact hG.m1 ad2) (by first | exact hR.o rfl | exact hR.c cr1 rfl | exact hR.m0 ad2) ?_
      refine E_getR d_TP_unlikeCounts_25 gf_TP_128 (by first | exact hG.s (by decide) rfl | exact hG.m1 ad2) (by first | exact hR.o rfl | exact hR.c cr1 rfl | exact hR.m0 ad2) ?_
      first | refine E_aload_n d_TP_unlikeCounts_28 rfl ?_ | refine E_aload_nN d_TP_unlikeCounts_28 rfl ?_
      refine E_getR d_TP_unlikeCounts_29 gf_TP_10 (by first | exact hG.s (by decide) rfl | exact hG.m1 ad2) (by first | exact hR.o rfl | exact hR.c cr1 rfl | exact hR.m0 ad2) ?_
      refine E_iload_n d_TP_unlikeCounts_32 rfl ?_
      refine E_V1 (sp_Cr_textAt hC _) d_TP_unlikeCounts_33 ml_TP_117 cb_Cr_textAt cv_Cr_textAt (by first | exact hG.s (by decide) rfl | exact hG.m1 ad2) ⟨by decide, rfl⟩ ⟨by decide, by decide⟩ rfl (Nat.le_of_ble_eq_true rfl) (Nat.le_of_ble_eq_true rfl) (kR fun r1 M1 hc => ?_)
      obtain ⟨q1, -, rfl⟩ := hc; have q1 := q1 hin; rw [tN_nI (by omega)] at q1
      exact K r1 q1
  refine E_iconst (v := nI 0) d_TP_unlikeCounts_0 rfl ?_
  refine E_istore_2 d_TP_unlikeCounts_1 rfl ?_
  refine E_iconst (v := nI 0) d_TP_unlikeCounts_2 rfl ?_
  refine E_istore_3 d_TP_unlikeCounts_3 rfl ?_
  exact L c.texts.length 0 M (Nat.zero_add _) hC Sc.rf
theorem sp_TP_part (hC : CM c G M) : E 6 0 0 Y_TP_part 0 [some (.ref 0), none, none, none, none] [] G M (QI G fun r M' => r = ans_part c ∧ Sc CQ M M') := by
  have hw := hC.w
  have hp8 := hw.p8
  have L : ∀ k f M1, f + k = c.now.people → CM c G M1 → Sc SA M M1 → E 6 0 0 Y_TP_part 6 [some (.ref 0), some (.int (nI (partA c f))), some (.int (nI (unlN c (partA c f)))), some (.int (nI (f + 1))), none] [] G M1 (QI G fun r M' => r = ans_part c ∧ Sc CQ M M') := by
    intro k
    induction k with
    | zero =>
      intro f M1 hf hC hX
      have hG := hC.G
      have hR := hC.R
      have hm := hC.now
      have hf2 : f = c.now.people := by omega
      subst hf2
      refine E_iload_n d_TP_part_6 rfl ?_
      first | refine E_aload_n d_TP_part_7 rfl ?_ | refine E_aload_nN d_TP_part_7 rfl ?_
      refine E_getR d_TP_part_8 gf_TP_10 (by first | exact hG.s (by decide) rfl | exact hG.m1 ad2) (by first | exact hR.o rfl | exact hR.c cr1 rfl | exact hR.m0 ad2) ?_
      refine E_getR d_TP_part_11 gf_TP_128 (by first | exact hG.s (by decide) rfl | exact hG.m1 ad2) (by first | exact hR.o rfl | exact hR.c cr1 rfl | exact hR.m0 ad2) ?_
      refine E_getI d_TP_part_14 gf_TP_310 (by first | exact hG.s (by decide) rfl | exact hG.m1 ad2) (by exact hm.people) ?_
      first | (with_reducible refine E_isN2 ?_; refine E_icmp_gt 44 d_TP_part_17 rfl (nb_lt (by omega) (by omega) fun h17 => ?_) (nb_nlt (by omega) (by omega) fun h17 => ?_)) | refine E_icmp_gt 44 d_TP_part_17 rfl (fun h17 => ?_) (fun h17 => ?_)
      rotate_left
      · exfalso; omega
      refine E_iload_n d_TP_part_44 rfl ?_
      refine E_retI d_TP_part_45 rfl ?_
      exact ⟨rfl, hX.wk fun _ => SA.q⟩
    | succ k ih =>
      intro f M1 hf hC hX
      have hG := hC.G
      have hR := hC.R
      have hm := hC.now
      have u1 := unlN_le hw (f + 1)
      have u2 := unlN_le hw (partA c f)
      have e : partA c (f + 1) = if unlN c (partA c f) < unlN c (f + 1) then f + 1 else partA c f := rfl
      have i0 : unlN c (f + 1) ≤ unlN c (partA c f) → partA c (f + 1) = partA c f := fun q => by rw [e, if_neg (by omega)]
      have i1 : unlN c (partA c f) < unlN c (f + 1) → partA c (f + 1) = f + 1 := fun q => by rw [e, if_pos q]
      have up : ∀ M2 a b x, CM c G M2 → Sc SA M M2 → a = nI (partA c (f + 1)) → b = nI (unlN c (partA c (f + 1))) → E 6 0 0 Y_TP_part 6 [some (.ref 0), some (.int a), some (.int b), some (.int (nI (f + 1 + 1))), x] [] G M2 (QI G fun r M' => r = ans_part c ∧ Sc CQ M M') := fun M2 a b x hC2 hX2 ha hb => by
        rw [ha, hb]
        exact E_wk (by exact ⟨Or.inl rfl, Or.inl rfl, Or.inl rfl, Or.inl rfl, Or.inr rfl, trivial⟩) (ih (f + 1) M2 (by omega) hC2 hX2)
      refine E_iload_n d_TP_part_6 rfl ?_
      first | refine E_aload_n d_TP_part_7 rfl ?_ | refine E_aload_nN d_TP_part_7 rfl ?_
      refine E_getR d_TP_part_8 gf_TP_10 (by first | exact hG.s (by decide) rfl | exact hG.m1 ad2) (by first | exact hR.o rfl | exact hR.c cr1 rfl | exact hR.m0 ad2) ?_
      refine E_getR d_TP_part_11 gf_TP_128 (by first | exact hG.s (by decide) rfl | exact hG.m1 ad2) (by first | exact hR.o rfl | exact hR.c cr1 rfl | exact hR.m0 ad2) ?_
      refine E_getI d_TP_part_14 gf_TP_310 (by first | exact hG.s (by decide) rfl | exact hG.m1 ad2) (by exact hm.people) ?_
      first | (with_reducible refine E_isN2 ?_; refine E_icmp_gt 44 d_TP_part_17 rfl (nb_lt (by omega) (by omega) fun h17 => ?_) (nb_nlt (by omega) (by omega) fun h17 => ?_)) | refine E_icmp_gt 44 d_TP_part_17 rfl (fun h17 => ?_) (fun h17 => ?_)
      · exfalso; omega
      first | refine E_aload_n d_TP_part_20 rfl ?_ | refine E_aload_nN d_TP_part_20 rfl ?_
      refine E_iload_n d_TP_part_21 rfl ?_
      refine E_V1 (sp_TP_unlikeCounts hC (by omega)) d_TP_part_22 ml_TP_324 cb_TP_unlikeCounts cv_TP_unlikeCounts (by first | exact hG.s (by decide) rfl | exact hG.m1 ad2) ⟨by decide, rfl⟩ ⟨by decide, by decide⟩ rfl (Nat.le_of_ble_eq_true rfl) (Nat.le_of_ble_eq_true rfl) (kI fun r1 M1 hc => ?_)
      obtain ⟨rfl, hC1, hS1⟩ := hc
      refine E_istore_4 d_TP_part_25 rfl ?_
      refine E_iload d_TP_part_27 rfl ?_
      refine E_iload_n d_TP_part_29 rfl ?_
      first | (with_reducible refine E_isN2 ?_; refine E_icmp_le 38 d_TP_part_30 rfl (nb_le (by omega) (by omega) fun h30 => ?_) (nb_nle (by omega) (by omega) fun h30 => ?_)) | refine E_icmp_le 38 d_TP_part_30 rfl (fun h30 => ?_) (fun h30 => ?_)
      · first | (with_reducible refine E_isL3 ?_; refine E_iincN3 (m := 1) d_TP_part_38 rfl rfl ?_) | refine E_iinc_3 d_TP_part_38 rfl rfl ?_
        refine E_goto 6 d_TP_part_41 rfl ?_
        first | exact up _ _ _ _ hC1 (hX.tr hS1) (by rw [i0 h30]) (by rw [i0 h30]) | exact up _ _ _ _ hC1 (hX.tr hS1) (by rw [i1 h30]) (by rw [i1 h30])
      · refine E_iload d_TP_part_33 rfl ?_
        refine E_istore_2 d_TP_part_35 rfl ?_
        refine E_iload_n d_TP_part_36 rfl ?_
        refine E_istore_1 d_TP_part_37 rfl ?_
        first | (with_reducible refine E_isL3 ?_; refine E_iincN3 (m := 1) d_TP_part_38 rfl rfl ?_) | refine E_iinc_3 d_TP_part_38 rfl rfl ?_
        refine E_goto 6 d_TP_part_41 rfl ?_
        first | exact up _ _ _ _ hC1 (hX.tr hS1) (by rw [i0 h30]) (by rw [i0 h30]) | exact up _ _ _ _ hC1 (hX.tr hS1) (by rw [i1 h30]) (by rw [i1 h30])
  have hG := hC.G
  have hR := hC.R
  have hm := hC.now
  have u0 := unlN_le hw 0
  have wk : ∀ M2 a b x, CM c G M2 → Sc SA M M2 → a = nI (partA c 0) → b = nI (unlN c (partA c 0)) → E 6 0 0 Y_TP_part 6 [some (.ref 0), some (.int a), some (.int b), some (.int (nI (0 + 1))), x] [] G M2 (QI G fun r M' => r = ans_part c ∧ Sc CQ M M') := fun M2 a b x hC2 hX2 ha hb => by
    rw [ha, hb]
    exact E_wk (by exact ⟨Or.inl rfl, Or.inl rfl, Or.inl rfl, Or.inl rfl, Or.inr rfl, trivial⟩) (L c.now.people 0 M2 (Nat.zero_add _) hC2 hX2)
  have z1 : unlN c 0 ≤ 0 → nI 0 = nI (unlN c (partA c 0)) := fun q => congrArg nI (by show 0 = unlN c 0; omega)
  have st : E 6 0 0 Y_TP_part 6 [some (.ref 0), some (.int (nI 0)), some (.int (nI 0)), some (.int (nI 0)), none] [] G M (QI G fun r M' => r = ans_part c ∧ Sc CQ M M') := by
    refine E_iload_n d_TP_part_6 rfl ?_
    first | refine E_aload_n d_TP_part_7 rfl ?_ | refine E_aload_nN d_TP_part_7 rfl ?_
    refine E_getR d_TP_part_8 gf_TP_10 (by first | exact hG.s (by decide) rfl | exact hG.m1 ad2) (by first | exact hR.o rfl | exact hR.c cr1 rfl | exact hR.m0 ad2) ?_
    refine E_getR d_TP_part_11 gf_TP_128 (by first | exact hG.s (by decide) rfl | exact hG.m1 ad2) (by first | exact hR.o rfl | exact hR.c cr1 rfl | exact hR.m0 ad2) ?_
    refine E_getI d_TP_part_14 gf_TP_310 (by first | exact hG.s (by decide) rfl | exact hG.m1 ad2) (by exact hm.people) ?_
    first | (with_reducible refine E_isN2 ?_; refine E_icmp_gt 44 d_TP_part_17 rfl (nb_lt (by omega) (by omega) fun h17 => ?_) (nb_nlt (by omega) (by omega) fun h17 => ?_)) | refine E_icmp_gt 44 d_TP_part_17 rfl (fun h17 => ?_) (fun h17 => ?_)
    · exfalso; omega
    first | refine E_aload_n d_TP_part_20 rfl ?_ | refine E_aload_nN d_TP_part_20 rfl ?_
    refine E_iload_n d_TP_part_21 rfl ?_
    refine E_V1 (sp_TP_unlikeCounts hC (by omega)) d_TP_part_22 ml_TP_324 cb_TP_unlikeCounts cv_TP_unlikeCounts (by first | exact hG.s (by decide) rfl | exact hG.m1 ad2) ⟨by decide, rfl⟩ ⟨by decide, by decide⟩ rfl (Nat.le_of_ble_eq_true rfl) (Nat.le_of_ble_eq_true rfl) (kI fun r1 M1 hc => ?_)
    obtain ⟨rfl, hC1, hS1⟩ := hc
    refine E_istore_4 d_TP_part_25 rfl ?_
    refine E_iload d_TP_part_27 rfl ?_
    refine E_iload_n d_TP_part_29 rfl ?_
    first | (with_reducible refine E_isN2 ?_; refine E_icmp_le 38 d_TP_part_30 rfl (nb_le (by omega) (by omega) fun h30 => ?_) (nb_nle (by omega) (by omega) fun h30 => ?_)) | refine E_icmp_le 38 d_TP_part_30 rfl (fun h30 => ?_) (fun h30 => ?_)
    · first | (with_reducible refine E_isL3 ?_; refine E_iincN3 (m := 1) d_TP_part_38 rfl rfl ?_) | refine E_iinc_3 d_TP_part_38 rfl rfl ?_
      refine E_goto 6 d_TP_part_41 rfl ?_
      first | exact wk _ _ _ _ hC1 hS1 rfl (z1 h30) | exact wk _ _ _ _ hC1 hS1 rfl rfl
    · refine E_iload d_TP_part_33 rfl ?_
      refine E_istore_2 d_TP_part_35 rfl ?_
      refine E_iload_n d_TP_part_36 rfl ?_
      refine E_istore_1 d_TP_part_37 rfl ?_
      first | (with_reducible refine E_isL3 ?_; refine E_iincN3 (m := 1) d_TP_part_38 rfl rfl ?_) | refine E_iinc_3 d_TP_part_38 rfl rfl ?_
      refine E_goto 6 d_TP_part_41 rfl ?_
      first | exact wk _ _ _ _ hC1 hS1 rfl (z1 h30) | exact wk _ _ _ _ hC1 hS1 rfl rfl
  refine E_iconst (v := nI 0) d_TP_part_0 rfl ?_
  refine E_istore_1 d_TP_part_1 rfl ?_
  refine E_iconst (v := nI 0) d_TP_part_2 rfl ?_
  refine E_istore_2 d_TP_part_3 rfl ?_
  refine E_iconst (v := nI 0) d_TP_part_4 rfl ?_
  refine E_istore_3 d_TP_part_5 rfl ?_
  exact st
theorem whoB_f {t : Nat} : ∀ j i, whoB c t i = false → whoB c t (i + j) = false := by
  intro j
  induction j with
  | zero => intro i h; exact h
  | succ j ih => intro i h; rw [← Nat.add_assoc, whoB, ih i h]; rfl
theorem sp_TP_accounts (hC : CM c G M) {t la : Nat} {r : Option Nat} (hr : r = some la) (hL : LawV (some (txAt c t)) r G M) : E 5 0 0 Y_TP_accountsForSaid 0 [some (.ref 0), some (.ref la), none, none] [] G M (QI G fun r M' => r = pI (whoB c t c.saids.length = true) ∧ CM c G M' ∧ Sc SA M M') := by
  have hw := hC.w
  have h8 := hw.saids
  have L : ∀ k i M1, i + k = c.saids.length → whoB c t i = true → CM c G M1 → LawV (some (txAt c t)) r G M1 → Sc SA M M1 → E 5 0 0 Y_TP_accountsForSaid 2 [some (.ref 0), some (.ref la), some (.int (nI i)), none] [] G M1 (QI G fun r M' => r = pI (whoB c t c.saids.length = true) ∧ CM c G M' ∧ Sc SA M M') := by
    intro k
    induction k with
    | zero =>
      intro i M1 hi hv hC hL hX
      have hG := hC.G
      have hR := hC.R
      have hsa := hC.H.saids
      have hi2 : i = c.saids.length := by omega
      subst hi2
      refine E_iload_n d_TP_accountsForSaid_2 rfl ?_
      first | refine E_aload_n d_TP_accountsForSaid_3 rfl ?_ | refine E_aload_nN d_TP_accountsForSaid_3 rfl ?_
      refine E_getR d_TP_accountsForSaid_4 gf_TP_10 (by first | exact hG.s (by decide) rfl | exact hG.m1 ad2) (by first | exact hR.o rfl | exact hR.c cr1 rfl | exact hR.m0 ad2) ?_
      refine E_getI d_TP_accountsForSaid_7 gf_TP_361 (by first | exact hG.s (by decide) rfl | exact hG.m1 ad2) (by exact hsa) ?_
      first | (with_reducible refine E_isN2 ?_; refine E_icmp_ge 66 d_TP_accountsForSaid_10 rfl (nb_le (by omega) (by omega) fun h10 => ?_) (nb_nle (by omega) (by omega) fun h10 => ?_)) | refine E_icmp_ge 66 d_TP_accountsForSaid_10 rfl (fun h10 => ?_) (fun h10 => ?_)
      rotate_left
      · exfalso; omega
      refine E_iconst (v := nI 1) d_TP_accountsForSaid_66 rfl ?_
      refine E_retZ d_TP_accountsForSaid_67 rfl (by decide) ?_
      exact ⟨(pI_t hv).symm, hC, hX⟩
    | succ k ih =>
      intro i M1 hi hv hC hL hX
      have hG := hC.G
      have hR := hC.R
      have hsa := hC.H.saids
      have hil : i < c.saids.length := by omega
      have hsd := hw.said _ (getD_mem (d := (0, 0)) hil)
      have hsm := hC.H.said hil
      have hy := yesTo_256 hw (some (txAt c t)) (c.saids.getD i (0, 0)).1
      have hs := sp_yesBitsT hC hsd.1 hr hL
      have hcn := countN_le c t (c.saids.getD i (0, 0)).1
      have hp8 := hw.p8
      have e : whoB c t (i + 1) = (whoB c t i && decide (countN c t (c.saids.getD i (0, 0)).1 = (c.saids.getD i (0, 0)).2)) := rfl
      rw [hv, Bool.true_and] at e
      have i1 : countN c t (c.saids.getD i (0, 0)).1 = (c.saids.getD i (0, 0)).2 → whoB c t (i + 1) = true := fun q => by rw [e]; exact decide_eq_true q
      have i0 : countN c t (c.saids.getD i (0, 0)).1 ≠ (c.saids.getD i (0, 0)).2 → ¬ whoB c t c.saids.length = true := fun q => by
        have e2 : whoB c t (i + 1) = false := by rw [e]; exact decide_eq_false q
        have := whoB_f k (i + 1) e2
        rw [show i + 1 + k = c.saids.length by omega] at this
        rw [this]
        exact Bool.false_ne_true
      have wk : ∀ M2 x, CM c G M2 → LawV (some (txAt c t)) r G M2 → Sc SA M M2 → whoB c t (i + 1) = true → E 5 0 0 Y_TP_accountsForSaid 2 [some (.ref 0), some (.ref la), some (.int (nI (i + 1))), x] [] G M2 (QI G fun r M' => r = pI (whoB c t c.saids.length = true) ∧ CM c G M' ∧ Sc SA M M') := fun M2 x h1 h2 h3 h4 => E_wk (by exact ⟨Or.inl rfl, Or.inl rfl, Or.inl rfl, Or.inr rfl, trivial⟩) (ih (i + 1) M2 (by omega) h4 h1 h2 h3)
      refine E_iload_n d_TP_accountsForSaid_2 rfl ?_
      first | refine E_aload_n d_TP_accountsForSaid_3 rfl ?_ | refine E_aload_nN d_TP_accountsForSaid_3 rfl ?_
      refine E_getR d_TP_accountsForSaid_4 gf_TP_10 (by first | exact hG.s (by decide) rfl | exact hG.m1 ad2) (by first | exact hR.o rfl | exact hR.c cr1 rfl | exact hR.m0 ad2) ?_
      refine E_getI d_TP_accountsForSaid_7 gf_TP_361 (by first | exact hG.s (by decide) rfl | exact hG.m1 ad2) (by exact hsa) ?_
      first | (with_reducible refine E_isN2 ?_; refine E_icmp_ge 66 d_TP_accountsForSaid_10 rfl (nb_le (by omega) (by omega) fun h10 => ?_) (nb_nle (by omega) (by omega) fun h10 => ?_)) | refine E_icmp_ge 66 d_TP_accountsForSaid_10 rfl (fun h10 => ?_) (fun h10 => ?_)
      · exfalso; omega
      first | refine E_aload_n d_TP_accountsForSaid_13 rfl ?_ | refine E_aload_nN d_TP_accountsForSaid_13 rfl ?_
      refine E_getR d_TP_accountsForSaid_14 gf_TP_31 (by first | exact hG.s (by decide) rfl | exact hG.m1 ad2) (by first | exact hR.o rfl | exact hR.c cr1 rfl | exact hR.m0 ad2) ?_
      first | refine E_aload_n d_TP_accountsForSaid_17 rfl ?_ | refine E_aload_nN d_TP_accountsForSaid_17 rfl ?_
      refine E_getR d_TP_accountsForSaid_18 gf_TP_10 (by first | exact hG.s (by decide) rfl | exact hG.m1 ad2) (by first | exact hR.o rfl | exact hR.c cr1 rfl | exact hR.m0 ad2) ?_
      refine E_getR d_TP_accountsForSaid_21 gf_TP_128 (by first | exact hG.s (by decide) rfl | exact hG.m1 ad2) (by first | exact hR.o rfl | exact hR.c cr1 rfl | exact hR.m0 ad2) ?_
      first | refine E_aload_n d_TP_accountsForSaid_24 rfl ?_ | refine E_aload_nN d_TP_accountsForSaid_24 rfl ?_
      first | refine E_aload_n d_TP_accountsForSaid_25 rfl ?_ | refine E_aload_nN d_TP_accountsForSaid_25 rfl ?_
      refine E_getR d_TP_accountsForSaid_26 gf_TP_10 (by first | exact hG.s (by decide) rfl | exact hG.m1 ad2) (by first | exact hR.o rfl | exact hR.c cr1 rfl | exact hR.m0 ad2) ?_
      refine E_getR d_TP_accountsForSaid_29 gf_TP_400 (by first | exact hG.s (by decide) rfl | exact hG.m1 ad2) (by first | exact hR.o rfl | exact hR.c cr1 rfl | exact hR.m0 ad2) ?_
      refine E_iload_n d_TP_accountsForSaid_32 rfl ?_
      refine E_S2 (sp_TP_at (hG.s (k := 1 + 11) (by decide) rfl) (by decide) (by omega) hsm.1) d_TP_accountsForSaid_33 ml_TP_169 cb_TP_at cs_TP_at ⟨by decide, by decide⟩ rfl (Nat.le_of_ble_eq_true rfl) (Nat.le_of_ble_eq_true rfl) (kI fun r1 M1 hc => ?_)
      obtain ⟨rfl, rfl⟩ := hc
      refine E_V3 (hs) d_TP_accountsForSaid_36 ml_TP_387 cb_As_yesBits cv_As_yesBits (by first | exact hG.s (by decide) rfl | exact hG.m1 ad2) ⟨by decide, rfl⟩ ⟨by decide, by decide⟩ rfl (Nat.le_of_ble_eq_true rfl) (Nat.le_of_ble_eq_true rfl) (kI fun r1 M1 hc => ?_)
      obtain ⟨rfl, hC1, hS1⟩ := hc; have hsm1 := hC1.H.said hil; have hL1 := hL.sc hS1 (fun _ => SA.lt)
      refine E_istore_3 d_TP_accountsForSaid_39 rfl ?_
      refine E_iload_n d_TP_accountsForSaid_40 rfl ?_
      refine E_S1 (sp_JI_bitCount (by omega)) d_TP_accountsForSaid_41 ml_TP_256 cb_JI_bitCount cs_JI_bitCount ⟨by decide, by decide⟩ rfl (Nat.le_of_ble_eq_true rfl) (Nat.le_of_ble_eq_true rfl) (kI fun r1 M1 hc => ?_)
      obtain ⟨rfl, rfl⟩ := hc; rw [pc_yes hw]
      first | refine E_aload_n d_TP_accountsForSaid_44 rfl ?_ | refine E_aload_nN d_TP_accountsForSaid_44 rfl ?_
      refine E_getR d_TP_accountsForSaid_45 gf_TP_10 (by first | exact hG.s (by decide) rfl | exact hG.m1 ad2) (by exact hC1.R.o rfl) ?_
      refine E_getR d_TP_accountsForSaid_48 gf_TP_403 (by first | exact hG.s (by decide) rfl | exact hG.m1 ad2) (by exact hC1.R.c cr1 rfl) ?_
      refine E_iload_n d_TP_accountsForSaid_51 rfl ?_
      refine E_S2 (sp_TP_at (hG.s (k := 1 + 12) (by decide) rfl) (by decide) (by omega) hsm1.2) d_TP_accountsForSaid_52 ml_TP_169 cb_TP_at cs_TP_at ⟨by decide, by decide⟩ rfl (Nat.le_of_ble_eq_true rfl) (Nat.le_of_ble_eq_true rfl) (kI fun r1 M1 hc => ?_)
      obtain ⟨rfl, rfl⟩ := hc
      first | (with_reducible refine E_isN2 ?_; refine E_icmp_eq 60 d_TP_accountsForSaid_55 rfl (nb_eq (by omega) (by omega) fun h55 => ?_) (nb_ne fun h55 => ?_)) | refine E_icmp_eq 60 d_TP_accountsForSaid_55 rfl (fun h55 => ?_) (fun h55 => ?_)
      · first | (with_reducible refine E_isL2 ?_; refine E_iincN2 (m := 1) d_TP_accountsForSaid_60 rfl rfl ?_) | refine E_iinc_2 d_TP_accountsForSaid_60 rfl rfl ?_
        refine E_goto 2 d_TP_accountsForSaid_63 rfl ?_
        exact wk _ _ hC1 hL1 (hX.tr hS1) (i1 h55)
      · refine E_iconst (v := nI 0) d_TP_accountsForSaid_58 rfl ?_
        refine E_retZ d_TP_accountsForSaid_59 rfl (by decide) ?_
        exact ⟨(pI_f (i0 h55)).symm, hC1, hX.tr hS1⟩
  refine E_iconst (v := nI 0) d_TP_accountsForSaid_0 rfl ?_
  refine E_istore_2 d_TP_accountsForSaid_1 rfl ?_
  exact L c.saids.length 0 M (Nat.zero_add _) rfl hC hL Sc.rf
theorem sp_TP_whose (hC : CM c G M) : E 6 0 0 Y_TP_whose 0 [some (.ref 0), none, none] [] G M (QI G fun r M' => r = ans_whose c ∧ Sc CQ M M') := by
  have hw := hC.w
  have h4 := hw.texts
  have L : ∀ k t M1, t + k = c.texts.length → CM c G M1 → Sc SA M M1 → E 6 0 0 Y_TP_whose 4 [some (.ref 0), some (.int (nI (bset (fun t => whoB c t c.saids.length) t))), some (.int (nI t))] [] G M1 (QI G fun r M' => r = ans_whose c ∧ Sc CQ M M') := by
    intro k
    induction k with
    | zero =>
      intro t M1 ht hC hX
      have hG := hC.G
      have hR := hC.R
      have htx := hC.H.texts
      have ht2 : t = c.texts.length := by omega
      subst ht2
      refine E_iload_n d_TP_whose_4 rfl ?_
      first | refine E_aload_n d_TP_whose_5 rfl ?_ | refine E_aload_nN d_TP_whose_5 rfl ?_
      refine E_getR d_TP_whose_6 gf_TP_10 (by first | exact hG.s (by decide) rfl | exact hG.m1 ad2) (by first | exact hR.o rfl | exact hR.c cr1 rfl | exact hR.m0 ad2) ?_
      refine E_getI d_TP_whose_9 gf_TP_100 (by first | exact hG.s (by decide) rfl | exact hG.m1 ad2) (by exact htx) ?_
      first | (with_reducible refine E_isN2 ?_; refine E_icmp_ge 42 d_TP_whose_12 rfl (nb_le (by omega) (by omega) fun h12 => ?_) (nb_nle (by omega) (by omega) fun h12 => ?_)) | refine E_icmp_ge 42 d_TP_whose_12 rfl (fun h12 => ?_) (fun h12 => ?_)
      rotate_left
      · exfalso; omega
      refine E_iload_n d_TP_whose_42 rfl ?_
      refine E_retI d_TP_whose_43 rfl ?_
      exact ⟨rfl, hX.wk fun _ => SA.q⟩
    | succ k ih =>
      intro t M1 ht hC hX
      have hG := hC.G
      have hR := hC.R
      have htx := hC.H.texts
      have htl : t < c.texts.length := by omega
      have hin : inN (nI t) c.texts.length := (inN_nI (by omega)).mpr htl
      have ih2 := ih (t + 1)
      have K : ∀ r, LawV (some (txAt c t)) r G M1 → E 6 0 0 Y_TP_whose 24 [some (.ref 0), some (.int (nI (bset (fun t => whoB c t c.saids.length) t))), some (.int (nI t))] [oV r, .ref 0] G M1 (QI G fun r M' => r = ans_whose c ∧ Sc CQ M M') := by
        intro r hL
        obtain ⟨la, hla⟩ := law_some hL
        have hs := sp_TP_accounts hC hla hL
        subst hla
        show E _ _ _ _ _ _ [.ref la, _] _ _ _
        refine E_V1 (hs) d_TP_whose_24 ml_TP_367 cb_TP_accountsForSaid cv_TP_accountsForSaid (by first | exact hG.s (by decide) rfl | exact hG.m1 ad2) ⟨by decide, rfl⟩ ⟨by decide, by decide⟩ rfl (Nat.le_of_ble_eq_true rfl) (Nat.le_of_ble_eq_true rfl) (kI fun r1 M1 hc => ?_)
        obtain ⟨rfl, hC1, hS1⟩ := hc; have ih3 := ih2 _ (by omega) hC1 (hX.tr hS1)
        first | (with_reducible refine E_isP ?_; refine E_if_eq 36 d_TP_whose_27 rfl (pb_0 fun h27 => ?_) (pb_1 fun h27 => ?_)) | (with_reducible refine E_isN1 ?_; refine E_if_eq 36 d_TP_whose_27 rfl (nz_eq (by omega) fun h27 => ?_) (nz_ne fun h27 => ?_)) | refine E_if_eq 36 d_TP_whose_27 rfl (fun h27 => ?_) (fun h27 => ?_)
        · first | (with_reducible refine E_isL2 ?_; refine E_iincN2 (m := 1) d_TP_whose_36 rfl rfl ?_) | refine E_iinc_2 d_TP_whose_36 rfl rfl ?_
          refine E_goto 4 d_TP_whose_39 rfl ?_
          first | (rw [← bset_or1 (fun t => whoB c t c.saids.length) t h27] at ih3; exact ih3) | (rw [← bset_or0 (fun t => whoB c t c.saids.length) t h27] at ih3; exact ih3)
        · refine E_iload_n d_TP_whose_30 rfl ?_
          refine E_iconst (v := nI 1) d_TP_whose_31 rfl ?_
          refine E_iload_n d_TP_whose_32 rfl ?_
          first | (with_reducible refine E_isN2 ?_; first | refine E_ishl1 d_TP_whose_33 (by omega) ?_ | refine E_ishlN d_TP_whose_33 (by omega) (by omega) ?_) | refine E_ishl d_TP_whose_33 ?_
          first | (with_reducible refine E_isN2 ?_; refine E_iorN d_TP_whose_34 ?_) | refine E_ior d_TP_whose_34 ?_
          refine E_istore_1 d_TP_whose_35 rfl ?_
          first | (with_reducible refine E_isL2 ?_; refine E_iincN2 (m := 1) d_TP_whose_36 rfl rfl ?_) | refine E_iinc_2 d_TP_whose_36 rfl rfl ?_
          refine E_goto 4 d_TP_whose_39 rfl ?_
          first | (rw [← bset_or1 (fun t => whoB c t c.saids.length) t h27] at ih3; exact ih3) | (rw [← bset_or0 (fun t => whoB c t c.saids.length) t h27] at ih3; exact ih3)
      refine E_iload_n d_TP_whose_4 rfl ?_
      first | refine E_aload_n d_TP_whose_5 rfl ?_ | refine E_aload_nN d_TP_whose_5 rfl ?_
      refine E_getR d_TP_whose_6 gf_TP_10 (by first | exact hG.s (by decide) rfl | exact hG.m1 ad2) (by first | exact hR.o rfl | exact hR.c cr1 rfl | exact hR.m0 ad2) ?_
      refine E_getI d_TP_whose_9 gf_TP_100 (by first | exact hG.s (by decide) rfl | exact hG.m1 ad2) (by exact htx) ?_
      first | (with_reducible refine E_isN2 ?_; refine E_icmp_ge 42 d_TP_whose_12 rfl (nb_le (by omega) (by omega) fun h12 => ?_) (nb_nle (by omega) (by omega) fun h12 => ?_)) | refine E_icmp_ge 42 d_TP_whose_12 rfl (fun h12 => ?_) (fun h12 => ?_)
      · exfalso; omega
      first | refine E_aload_n d_TP_whose_15 rfl ?_ | refine E_aload_nN d_TP_whose_15 rfl ?_
      first | refine E_aload_n d_TP_whose_16 rfl ?_ | refine E_aload_nN d_TP_whose_16 rfl ?_
      refine E_getR d_TP_whose_17 gf_TP_10 (by first | exact hG.s (by decide) rfl | exact hG.m1 ad2) (by first | exact hR.o rfl | exact hR.c cr1 rfl | exact hR.m0 ad2) ?_
      refine E_iload_n d_TP_whose_20 rfl ?_
      refine E_V1 (sp_Cr_textAt hC _) d_TP_whose_21 ml_TP_117 cb_Cr_textAt cv_Cr_textAt (by first | exact hG.s (by decide) rfl | exact hG.m1 ad2) ⟨by decide, rfl⟩ ⟨by decide, by decide⟩ rfl (Nat.le_of_ble_eq_true rfl) (Nat.le_of_ble_eq_true rfl) (kR fun r1 M1 hc => ?_)
      obtain ⟨q1, -, rfl⟩ := hc; have q1 := q1 hin; rw [tN_nI (by omega)] at q1
      exact K r1 q1
  refine E_iconst (v := nI 0) d_TP_whose_0 rfl ?_
  refine E_istore_1 d_TP_whose_1 rfl ?_
  refine E_iconst (v := nI 0) d_TP_whose_2 rfl ?_
  refine E_istore_2 d_TP_whose_3 rfl ?_
  exact L c.texts.length 0 M (Nat.zero_add _) hC Sc.rf
end TPd
