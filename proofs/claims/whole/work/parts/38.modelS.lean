def whoB (c : Cr) (t : Nat) : Nat → Bool
  | 0 => true
  | n + 1 => whoB c t n && decide (countN c t (c.saids.getD n (0, 0)).1 = (c.saids.getD n (0, 0)).2)
def ans_whose (c : Cr) : Int32 := nI (bset (fun t => whoB c t c.saids.length) c.texts.length)
theorem lp_TM_whoI {c : Cr} {M0 : Mem} {t set : Nat} (ht : t < c.texts.length) {Q : Option Value → Geo → Mem → Prop} (K : ∀ M, HM c M → Sx SY M0 M → E 5 0 0 Y_TM_whose 76 [some (.ref 0), some (.int (nI set)), some (.int (nI t)), some (.int (pI (whoB c t c.saids.length = true))), none] [] GM M Q) :
    ∀ k n, n + k = c.saids.length → ∀ M, HM c M → Sx SY M0 M → E 5 0 0 Y_TM_whose 20 [some (.ref 0), some (.int (nI set)), some (.int (nI t)), some (.int (pI (whoB c t n = true))), some (.int (nI (42 + 2 * n)))] [] GM M Q := by
  intro k
  induction k with
  | zero =>
    intro n hn M hM hX
    have hR := hM.R
    have hA := hM.A
    have h8 := hM.w.saids
    have hn2 : n = c.saids.length := by omega
    subst hn2
    refine E_iload d_TM_whose_20 rfl ?_
    refine E_bipush (v := nI 42) d_TM_whose_22 (by decide) ?_
    refine E_iconst (v := nI 2) d_TM_whose_24 rfl ?_
    first | refine E_aload_n d_TM_whose_25 rfl ?_ | refine E_aload_nN d_TM_whose_25 rfl ?_
    refine E_getR (q := 1) d_TM_whose_26 gf_TM_7 (by exact ⟨by decide, rfl⟩) (by exact hR _ rfl) ?_
    refine E_iconst (v := nI 4) d_TM_whose_29 rfl ?_
    refine E_iald d_TM_whose_30 (by exact ⟨by decide, rfl⟩) (by exact ⟨by with_reducible rfl, by omega, by decide⟩) (by first | exact hA.people | exact hA.texts | exact hA.ruling | exact hA.steps | exact hA.saids | exact hA.round | exact hA.x | exact hA.figure | exact hA.answers | exact hA.lean (by omega) | exact hA.sort (by omega) | exact hA.hears (by omega) | rfl) ?_
    first | (with_reducible refine E_isN2 ?_; refine E_imulN d_TM_whose_31 ?_) | refine E_imul d_TM_whose_31 ?_
    first | (with_reducible refine E_isN2 ?_; refine E_iaddN d_TM_whose_32 ?_) | refine E_iadd d_TM_whose_32 ?_
    first | (with_reducible refine E_isN2 ?_; refine E_icmp_ge 76 d_TM_whose_33 rfl (nb_le (by omega) (by omega) fun h33 => ?_) (nb_nle (by omega) (by omega) fun h33 => ?_)) | refine E_icmp_ge 76 d_TM_whose_33 rfl (fun h33 => ?_) (fun h33 => ?_)
    rotate_left
    · exfalso; omega
    refine E_wk ?_ (K M hM hX); exact ⟨Or.inl rfl, Or.inl rfl, Or.inl rfl, Or.inl rfl, Or.inr rfl, trivial⟩
  | succ k ih =>
    intro n hn M hM hX
    have hR := hM.R
    have hA := hM.A
    have h8 := hM.w.saids
    have h4 := hM.w.texts
    have hn1 : n < c.saids.length := by omega
    have hsd := hM.w.said _ (getD_mem (d := (0, 0)) hn1)
    have hsa := hA.said hn1
    have e : whoB c t (n + 1) = (whoB c t n && decide (countN c t (c.saids.getD n (0, 0)).1 = (c.saids.getD n (0, 0)).2)) := rfl
    have hcn := countN_le c t (c.saids.getD n (0, 0)).1
    have hp8 := hM.w.p8
    have up : ∀ (P : Prop) [Decidable P], (P ↔ whoB c t (n + 1) = true) → ∀ (x : Int32), x = pI P → ∀ M, HM c M → Sx SY M0 M → E 5 0 0 Y_TM_whose 70 [some (.ref 0), some (.int (nI set)), some (.int (nI t)), some (.int x), some (.int (nI (42 + 2 * n)))] [] GM M Q := by
      intro P _ hP x hx M hM hX
      have hx2 : x = pI (whoB c t (n + 1) = true) := by rw [hx]; exact pI_congr hP
      subst hx2
      first | (with_reducible refine E_isL4 ?_; refine E_iincN4 (m := 2) d_TM_whose_70 rfl rfl ?_) | refine E_iinc_4 d_TM_whose_70 rfl rfl ?_
      refine E_goto 20 d_TM_whose_73 rfl ?_
      exact ih (n + 1) (by omega) M hM hX
    refine E_iload d_TM_whose_20 rfl ?_
    refine E_bipush (v := nI 42) d_TM_whose_22 (by decide) ?_
    refine E_iconst (v := nI 2) d_TM_whose_24 rfl ?_
    first | refine E_aload_n d_TM_whose_25 rfl ?_ | refine E_aload_nN d_TM_whose_25 rfl ?_
    refine E_getR (q := 1) d_TM_whose_26 gf_TM_7 (by exact ⟨by decide, rfl⟩) (by exact hR _ rfl) ?_
    refine E_iconst (v := nI 4) d_TM_whose_29 rfl ?_
    refine E_iald d_TM_whose_30 (by exact ⟨by decide, rfl⟩) (by exact ⟨by with_reducible rfl, by omega, by decide⟩) (by first | exact hA.people | exact hA.texts | exact hA.ruling | exact hA.steps | exact hA.saids | exact hA.round | exact hA.x | exact hA.figure | exact hA.answers | exact hA.lean (by omega) | exact hA.sort (by omega) | exact hA.hears (by omega) | rfl) ?_
    first | (with_reducible refine E_isN2 ?_; refine E_imulN d_TM_whose_31 ?_) | refine E_imul d_TM_whose_31 ?_
    first | (with_reducible refine E_isN2 ?_; refine E_iaddN d_TM_whose_32 ?_) | refine E_iadd d_TM_whose_32 ?_
    first | (with_reducible refine E_isN2 ?_; refine E_icmp_ge 76 d_TM_whose_33 rfl (nb_le (by omega) (by omega) fun h33 => ?_) (nb_nle (by omega) (by omega) fun h33 => ?_)) | refine E_icmp_ge 76 d_TM_whose_33 rfl (fun h33 => ?_) (fun h33 => ?_)
    · exfalso; omega
    refine E_iload_n d_TM_whose_36 rfl ?_
    first | (with_reducible refine E_isP ?_; refine E_if_eq 68 d_TM_whose_37 rfl (pb_0 fun h37 => ?_) (pb_1 fun h37 => ?_)) | (with_reducible refine E_isN1 ?_; refine E_if_eq 68 d_TM_whose_37 rfl (nz_eq (by omega) fun h37 => ?_) (nz_ne fun h37 => ?_)) | refine E_if_eq 68 d_TM_whose_37 rfl (fun h37 => ?_) (fun h37 => ?_)
    · refine E_iconst (v := nI 0) d_TM_whose_68 rfl ?_
      refine E_istore_3 d_TM_whose_69 rfl ?_
      first | exact up True (by rw [e, h37, Bool.true_and]; exact ⟨fun _ => decide_eq_true h61, fun _ => trivial⟩) _ rfl _ (hM.sy hS1) (hX.tr hS1) | exact up False (by rw [e, h37, Bool.true_and]; exact ⟨False.elim, fun q => h61 (of_decide_eq_true q)⟩) _ rfl _ (hM.sy hS1) (hX.tr hS1) | exact up False (by rw [e, Bool.eq_false_iff.mpr h37]; exact ⟨False.elim, fun q => Bool.noConfusion q⟩) _ rfl _ hM hX
    · first | refine E_aload_n d_TM_whose_40 rfl ?_ | refine E_aload_nN d_TM_whose_40 rfl ?_
      refine E_iload_n d_TM_whose_41 rfl ?_
      first | refine E_aload_n d_TM_whose_42 rfl ?_ | refine E_aload_nN d_TM_whose_42 rfl ?_
      refine E_getR (q := 1) d_TM_whose_43 gf_TM_7 (by exact ⟨by decide, rfl⟩) (by exact hR _ rfl) ?_
      refine E_iload d_TM_whose_46 rfl ?_
      refine E_iald d_TM_whose_48 (by exact ⟨by decide, rfl⟩) (by exact ⟨by with_reducible rfl, by omega, by decide⟩) (by exact hsa.1) ?_
      refine E_V2 (sp_TM_countBy hM ht hsd.1) d_TM_whose_49 ml_TM_422 cb_TM_countBy cv_TM_countBy (by exact ⟨by decide, rfl⟩) ⟨by decide, rfl⟩ ⟨by decide, by decide⟩ rfl (Nat.le_of_ble_eq_true rfl) (Nat.le_of_ble_eq_true rfl) (kI fun r1 M1 hc => ?_)
      obtain ⟨rfl, hS1⟩ := hc
      have hA1 := (hM.sy hS1).A
      have hR1 := (hM.sy hS1).R
      first | refine E_aload_n d_TM_whose_52 rfl ?_ | refine E_aload_nN d_TM_whose_52 rfl ?_
      refine E_getR (q := 1) d_TM_whose_53 gf_TM_7 (by exact ⟨by decide, rfl⟩) (by exact hR1 _ rfl) ?_
      refine E_iload d_TM_whose_56 rfl ?_
      refine E_iconst (v := nI 1) d_TM_whose_58 rfl ?_
      first | (with_reducible refine E_isN2 ?_; refine E_iaddN d_TM_whose_59 ?_) | refine E_iadd d_TM_whose_59 ?_
      refine E_iald d_TM_whose_60 (by exact ⟨by decide, rfl⟩) (by exact ⟨by with_reducible rfl, by omega, by decide⟩) (by exact (hA1.said hn1).2) ?_
      first | (with_reducible refine E_isN2 ?_; refine E_icmp_ne 68 d_TM_whose_61 rfl (nb_ne fun h61 => ?_) (nb_eq (by omega) (by omega) fun h61 => ?_)) | refine E_icmp_ne 68 d_TM_whose_61 rfl (fun h61 => ?_) (fun h61 => ?_)
      · refine E_iconst (v := nI 0) d_TM_whose_68 rfl ?_
        refine E_istore_3 d_TM_whose_69 rfl ?_
        first | exact up True (by rw [e, h37, Bool.true_and]; exact ⟨fun _ => decide_eq_true h61, fun _ => trivial⟩) _ rfl _ (hM.sy hS1) (hX.tr hS1) | exact up False (by rw [e, h37, Bool.true_and]; exact ⟨False.elim, fun q => h61 (of_decide_eq_true q)⟩) _ rfl _ (hM.sy hS1) (hX.tr hS1) | exact up False (by rw [e, Bool.eq_false_iff.mpr h37]; exact ⟨False.elim, fun q => Bool.noConfusion q⟩) _ rfl _ hM hX
      · refine E_iconst (v := nI 1) d_TM_whose_64 rfl ?_
        refine E_goto 69 d_TM_whose_65 rfl ?_
        refine E_istore_3 d_TM_whose_69 rfl ?_
        first | exact up True (by rw [e, h37, Bool.true_and]; exact ⟨fun _ => decide_eq_true h61, fun _ => trivial⟩) _ rfl _ (hM.sy hS1) (hX.tr hS1) | exact up False (by rw [e, h37, Bool.true_and]; exact ⟨False.elim, fun q => h61 (of_decide_eq_true q)⟩) _ rfl _ (hM.sy hS1) (hX.tr hS1) | exact up False (by rw [e, Bool.eq_false_iff.mpr h37]; exact ⟨False.elim, fun q => Bool.noConfusion q⟩) _ rfl _ hM hX
theorem lp_TM_who {c : Cr} {M0 : Mem} : ∀ k t, t + k = c.texts.length → ∀ M, HM c M → Sx SY M0 M → E 5 0 0 Y_TM_whose 4 [some (.ref 0), some (.int (nI (bset (fun t => whoB c t c.saids.length) t))), some (.int (nI t)), none, none] [] GM M (QI GM fun r M' => r = ans_whose c ∧ Sx SY M0 M') := by
  intro k
  induction k with
  | zero =>
    intro t ht M hM hX
    have hR := hM.R
    have hA := hM.A
    have h4 := hM.w.texts
    have ht2 : t = c.texts.length := by omega
    subst ht2
    refine E_iload_n d_TM_whose_4 rfl ?_
    first | refine E_aload_n d_TM_whose_5 rfl ?_ | refine E_aload_nN d_TM_whose_5 rfl ?_
    refine E_getR (q := 1) d_TM_whose_6 gf_TM_7 (by exact ⟨by decide, rfl⟩) (by exact hR _ rfl) ?_
    refine E_iconst (v := nI 1) d_TM_whose_9 rfl ?_
    refine E_iald d_TM_whose_10 (by exact ⟨by decide, rfl⟩) (by exact ⟨by with_reducible rfl, by omega, by decide⟩) (by first | exact hA.people | exact hA.texts | exact hA.ruling | exact hA.steps | exact hA.saids | exact hA.round | exact hA.x | exact hA.figure | exact hA.answers | exact hA.lean (by omega) | exact hA.sort (by omega) | exact hA.hears (by omega) | rfl) ?_
    first | (with_reducible refine E_isN2 ?_; refine E_icmp_ge 96 d_TM_whose_11 rfl (nb_le (by omega) (by omega) fun h11 => ?_) (nb_nle (by omega) (by omega) fun h11 => ?_)) | refine E_icmp_ge 96 d_TM_whose_11 rfl (fun h11 => ?_) (fun h11 => ?_)
    rotate_left
    · exfalso; omega
    refine E_iload_n d_TM_whose_96 rfl ?_
    refine E_retI d_TM_whose_97 rfl ?_
    exact ⟨rfl, hX⟩
  | succ k ih =>
    intro t ht M hM hX
    have hR := hM.R
    have hA := hM.A
    have h4 := hM.w.texts
    have K : ∀ M, HM c M → Sx SY M0 M → E 5 0 0 Y_TM_whose 76 [some (.ref 0), some (.int (nI (bset (fun t => whoB c t c.saids.length) t))), some (.int (nI t)), some (.int (pI (whoB c t c.saids.length = true))), none] [] GM M (QI GM fun r M' => r = ans_whose c ∧ Sx SY M0 M') := by
      intro M hM hX
      have ih2 := ih (t + 1) (by omega) M hM hX
      refine E_iload_n d_TM_whose_76 rfl ?_
      refine E_iload_n d_TM_whose_77 rfl ?_
      first | (with_reducible refine E_isP ?_; refine E_if_eq 87 d_TM_whose_78 rfl (pb_0 fun h78 => ?_) (pb_1 fun h78 => ?_)) | (with_reducible refine E_isN1 ?_; refine E_if_eq 87 d_TM_whose_78 rfl (nz_eq (by omega) fun h78 => ?_) (nz_ne fun h78 => ?_)) | refine E_if_eq 87 d_TM_whose_78 rfl (fun h78 => ?_) (fun h78 => ?_)
      · refine E_iconst (v := nI 0) d_TM_whose_87 rfl ?_
        first | (with_reducible refine E_isN2 ?_; refine E_iorN d_TM_whose_88 ?_) | refine E_ior d_TM_whose_88 ?_
        refine E_istore_1 d_TM_whose_89 rfl ?_
        first | (with_reducible refine E_isL2 ?_; refine E_iincN2 (m := 1) d_TM_whose_90 rfl rfl ?_) | refine E_iinc_2 d_TM_whose_90 rfl rfl ?_
        refine E_goto 4 d_TM_whose_93 rfl ?_
        refine E_wk (ls' := [some (.ref 0), some (.int (nI (bset (fun t => whoB c t c.saids.length) (t + 1)))), some (.int (nI (t + 1))), none, none]) ?_ ih2
        first | (rw [bset_or1 (fun t => whoB c t c.saids.length) t h78]; exact ⟨Or.inl rfl, Or.inl rfl, Or.inl rfl, Or.inr rfl, Or.inl rfl, trivial⟩) | (rw [Nat.or_zero, bset_or0 (fun t => whoB c t c.saids.length) t h78]; exact ⟨Or.inl rfl, Or.inl rfl, Or.inl rfl, Or.inr rfl, Or.inl rfl, trivial⟩)
      · refine E_iconst (v := nI 1) d_TM_whose_81 rfl ?_
        refine E_iload_n d_TM_whose_82 rfl ?_
        first | (with_reducible refine E_isN2 ?_; first | refine E_ishl1 d_TM_whose_83 (by omega) ?_ | refine E_ishlN d_TM_whose_83 (by omega) (by omega) ?_) | refine E_ishl d_TM_whose_83 ?_
        refine E_goto 88 d_TM_whose_84 rfl ?_
        first | (with_reducible refine E_isN2 ?_; refine E_iorN d_TM_whose_88 ?_) | refine E_ior d_TM_whose_88 ?_
        refine E_istore_1 d_TM_whose_89 rfl ?_
        first | (with_reducible refine E_isL2 ?_; refine E_iincN2 (m := 1) d_TM_whose_90 rfl rfl ?_) | refine E_iinc_2 d_TM_whose_90 rfl rfl ?_
        refine E_goto 4 d_TM_whose_93 rfl ?_
        refine E_wk (ls' := [some (.ref 0), some (.int (nI (bset (fun t => whoB c t c.saids.length) (t + 1)))), some (.int (nI (t + 1))), none, none]) ?_ ih2
        first | (rw [bset_or1 (fun t => whoB c t c.saids.length) t h78]; exact ⟨Or.inl rfl, Or.inl rfl, Or.inl rfl, Or.inr rfl, Or.inl rfl, trivial⟩) | (rw [Nat.or_zero, bset_or0 (fun t => whoB c t c.saids.length) t h78]; exact ⟨Or.inl rfl, Or.inl rfl, Or.inl rfl, Or.inr rfl, Or.inl rfl, trivial⟩)
    refine E_iload_n d_TM_whose_4 rfl ?_
    first | refine E_aload_n d_TM_whose_5 rfl ?_ | refine E_aload_nN d_TM_whose_5 rfl ?_
    refine E_getR (q := 1) d_TM_whose_6 gf_TM_7 (by exact ⟨by decide, rfl⟩) (by exact hR _ rfl) ?_
    refine E_iconst (v := nI 1) d_TM_whose_9 rfl ?_
    refine E_iald d_TM_whose_10 (by exact ⟨by decide, rfl⟩) (by exact ⟨by with_reducible rfl, by omega, by decide⟩) (by first | exact hA.people | exact hA.texts | exact hA.ruling | exact hA.steps | exact hA.saids | exact hA.round | exact hA.x | exact hA.figure | exact hA.answers | exact hA.lean (by omega) | exact hA.sort (by omega) | exact hA.hears (by omega) | rfl) ?_
    first | (with_reducible refine E_isN2 ?_; refine E_icmp_ge 96 d_TM_whose_11 rfl (nb_le (by omega) (by omega) fun h11 => ?_) (nb_nle (by omega) (by omega) fun h11 => ?_)) | refine E_icmp_ge 96 d_TM_whose_11 rfl (fun h11 => ?_) (fun h11 => ?_)
    · exfalso; omega
    refine E_iconst (v := nI 1) d_TM_whose_14 rfl ?_
    refine E_istore_3 d_TM_whose_15 rfl ?_
    refine E_bipush (v := nI 42) d_TM_whose_16 (by decide) ?_
    refine E_istore_4 d_TM_whose_18 rfl ?_
    exact lp_TM_whoI (by omega) K c.saids.length 0 (Nat.zero_add _) M hM hX
theorem sp_TM_whose {c : Cr} {M : Mem} (hM : HM c M) : E 5 0 0 Y_TM_whose 0 [some (.ref 0), none, none, none, none] [] GM M (QI GM fun r M' => r = ans_whose c ∧ Sx SY M M') := by
  refine E_iconst (v := nI 0) d_TM_whose_0 rfl ?_
  refine E_istore_1 d_TM_whose_1 rfl ?_
  refine E_iconst (v := nI 0) d_TM_whose_2 rfl ?_
  refine E_istore_2 d_TM_whose_3 rfl ?_
  exact lp_TM_who c.texts.length 0 (Nat.zero_add _) M hM Sx.rf
def ans_is (c : Cr) (x : Int32) : Int32 := if x = nI 0 then nI c.now.round else if x = nI 1 then nI c.now.x else if x = nI 2 then nI c.now.figure else if x = nI 3 then nI c.now.answers else if x = nI 4 then nI (sumN c.now.lean c.now.people) else -2
theorem lp_TM_is {c : Cr} {M : Mem} {x : Int32} (hM : HM c M) (hx : ¬ inN x 3) : ∀ k p, p + k = c.now.people → E 1 0 0 Y_TM_is 22 [some (.ref 0), some (.int x), some (.int (nI (sumN c.now.lean p))), some (.int (nI p))] [] GM M (QI GM fun r M' => r = ans_is c x ∧ M' = M) := by
  have hR := hM.R
  have hA := hM.A
  have hp8 := hM.w.p8
  have n0 : ¬ x = nI 0 := fun q => hx (by rw [q]; decide)
  have n1 : ¬ x = nI 1 := fun q => hx (by rw [q]; decide)
  have n2 : ¬ x = nI 2 := fun q => hx (by rw [q]; decide)
  intro k
  induction k with
  | zero =>
    intro p hp
    have hp2 : p = c.now.people := by omega
    subst hp2
    refine E_iload_n d_TM_is_22 rfl ?_
    first | refine E_aload_n d_TM_is_23 rfl ?_ | refine E_aload_nN d_TM_is_23 rfl ?_
    refine E_getR (q := 1) d_TM_is_24 gf_TM_7 (by exact ⟨by decide, rfl⟩) (by exact hR _ rfl) ?_
    refine E_iconst (v := nI 0) d_TM_is_27 rfl ?_
    refine E_iald d_TM_is_28 (by exact ⟨by decide, rfl⟩) (by exact ⟨by with_reducible rfl, by omega, by decide⟩) (by first | exact hA.people | exact hA.texts | exact hA.ruling | exact hA.steps | exact hA.saids | exact hA.round | exact hA.x | exact hA.figure | exact hA.answers | exact hA.lean (by omega) | exact hA.sort (by omega) | exact hA.hears (by omega) | rfl) ?_
    first | (with_reducible refine E_isN2 ?_; refine E_icmp_ge 50 d_TM_is_29 rfl (nb_le (by omega) (by omega) fun h29 => ?_) (nb_nle (by omega) (by omega) fun h29 => ?_)) | refine E_icmp_ge 50 d_TM_is_29 rfl (fun h29 => ?_) (fun h29 => ?_)
    rotate_left
    · exfalso; omega
    refine E_iload_n d_TM_is_50 rfl ?_
    refine E_iconst (v := nI 3) d_TM_is_51 rfl ?_
    first | (with_reducible refine E_isN2 ?_; refine E_icmp_ne 65 d_TM_is_52 rfl (nb_ne fun h52 => ?_) (nb_eq (by omega) (by omega) fun h52 => ?_)) | refine E_icmp_ne 65 d_TM_is_52 rfl (fun h52 => ?_) (fun h52 => ?_)
    · refine E_iload_n d_TM_is_65 rfl ?_
      refine E_iconst (v := nI 4) d_TM_is_66 rfl ?_
      first | (with_reducible refine E_isN2 ?_; refine E_icmp_ne 74 d_TM_is_67 rfl (nb_ne fun h67 => ?_) (nb_eq (by omega) (by omega) fun h67 => ?_)) | refine E_icmp_ne 74 d_TM_is_67 rfl (fun h67 => ?_) (fun h67 => ?_)
      · refine E_bipush (v := (-2)) d_TM_is_74 (by decide) ?_
        refine E_retI d_TM_is_76 rfl ?_
        first | exact ⟨by rw [ans_is, if_neg n0, if_neg n1, if_neg n2, if_pos h52], rfl⟩ | exact ⟨by rw [ans_is, if_neg n0, if_neg n1, if_neg n2, if_neg h52, if_pos h67], rfl⟩ | exact ⟨by rw [ans_is, if_neg n0, if_neg n1, if_neg n2, if_neg h52, if_neg h67], rfl⟩
      · refine E_iload_n d_TM_is_70 rfl ?_
        refine E_goto 76 d_TM_is_71 rfl ?_
        refine E_retI d_TM_is_76 rfl ?_
        first | exact ⟨by rw [ans_is, if_neg n0, if_neg n1, if_neg n2, if_pos h52], rfl⟩ | exact ⟨by rw [ans_is, if_neg n0, if_neg n1, if_neg n2, if_neg h52, if_pos h67], rfl⟩ | exact ⟨by rw [ans_is, if_neg n0, if_neg n1, if_neg n2, if_neg h52, if_neg h67], rfl⟩
    · first | refine E_aload_n d_TM_is_55 rfl ?_ | refine E_aload_nN d_TM_is_55 rfl ?_
      refine E_getR (q := 1) d_TM_is_56 gf_TM_7 (by exact ⟨by decide, rfl⟩) (by exact hR _ rfl) ?_
      refine E_bipush (v := nI 9) d_TM_is_59 (by decide) ?_
      refine E_iald d_TM_is_61 (by exact ⟨by decide, rfl⟩) (by exact ⟨by with_reducible rfl, by omega, by decide⟩) (by first | exact hA.people | exact hA.texts | exact hA.ruling | exact hA.steps | exact hA.saids | exact hA.round | exact hA.x | exact hA.figure | exact hA.answers | exact hA.lean (by omega) | exact hA.sort (by omega) | exact hA.hears (by omega) | rfl) ?_
      refine E_goto 76 d_TM_is_62 rfl ?_
      refine E_retI d_TM_is_76 rfl ?_
      first | exact ⟨by rw [ans_is, if_neg n0, if_neg n1, if_neg n2, if_pos h52], rfl⟩ | exact ⟨by rw [ans_is, if_neg n0, if_neg n1, if_neg n2, if_neg h52, if_pos h67], rfl⟩ | exact ⟨by rw [ans_is, if_neg n0, if_neg n1, if_neg n2, if_neg h52, if_neg h67], rfl⟩
  | succ k ih =>
    intro p hp
    refine E_iload_n d_TM_is_22 rfl ?_
    first | refine E_aload_n d_TM_is_23 rfl ?_ | refine E_aload_nN d_TM_is_23 rfl ?_
    refine E_getR (q := 1) d_TM_is_24 gf_TM_7 (by exact ⟨by decide, rfl⟩) (by exact hR _ rfl) ?_
    refine E_iconst (v := nI 0) d_TM_is_27 rfl ?_
    refine E_iald d_TM_is_28 (by exact ⟨by decide, rfl⟩) (by exact ⟨by with_reducible rfl, by omega, by decide⟩) (by first | exact hA.people | exact hA.texts | exact hA.ruling | exact hA.steps | exact hA.saids | exact hA.round | exact hA.x | exact hA.figure | exact hA.answers | exact hA.lean (by omega) | exact hA.sort (by omega) | exact hA.hears (by omega) | rfl) ?_
    first | (with_reducible refine E_isN2 ?_; refine E_icmp_ge 50 d_TM_is_29 rfl (nb_le (by omega) (by omega) fun h29 => ?_) (nb_nle (by omega) (by omega) fun h29 => ?_)) | refine E_icmp_ge 50 d_TM_is_29 rfl (fun h29 => ?_) (fun h29 => ?_)
    · exfalso; omega
    refine E_iload_n d_TM_is_32 rfl ?_
    first | refine E_aload_n d_TM_is_33 rfl ?_ | refine E_aload_nN d_TM_is_33 rfl ?_
    refine E_getR (q := 1) d_TM_is_34 gf_TM_7 (by exact ⟨by decide, rfl⟩) (by exact hR _ rfl) ?_
    refine E_bipush (v := nI 10) d_TM_is_37 (by decide) ?_
    refine E_iload_n d_TM_is_39 rfl ?_
    first | (with_reducible refine E_isN2 ?_; refine E_iaddN d_TM_is_40 ?_) | refine E_iadd d_TM_is_40 ?_
    refine E_iald d_TM_is_41 (by exact ⟨by decide, rfl⟩) (by exact ⟨by with_reducible rfl, by omega, by decide⟩) (by first | exact hA.people | exact hA.texts | exact hA.ruling | exact hA.steps | exact hA.saids | exact hA.round | exact hA.x | exact hA.figure | exact hA.answers | exact hA.lean (by omega) | exact hA.sort (by omega) | exact hA.hears (by omega) | rfl) ?_
    first | (with_reducible refine E_isN2 ?_; refine E_iaddN d_TM_is_42 ?_) | refine E_iadd d_TM_is_42 ?_
    refine E_istore_2 d_TM_is_43 rfl ?_
    first | (with_reducible refine E_isL3 ?_; refine E_iincN3 (m := 1) d_TM_is_44 rfl rfl ?_) | refine E_iinc_3 d_TM_is_44 rfl rfl ?_
    refine E_goto 22 d_TM_is_47 rfl ?_
    exact ih (p + 1) (by omega)
theorem sp_TM_is {c : Cr} {M : Mem} (hM : HM c M) (x : Int32) : E 1 0 0 Y_TM_is 0 [some (.ref 0), some (.int x), none, none] [] GM M (QI GM fun r M' => r = ans_is c x ∧ M' = M) := by
  have hR := hM.R
  have hA := hM.A
  revert x
  refine args1 3 (fun k hk hx ht => ?_) (fun x hx => ?_)
  · have e1 : mI M 1 (5 + k) = ans_is c (nI k) := by
      rcases (show k = 0 ∨ k = 1 ∨ k = 2 by omega) with rfl | rfl | rfl
      · exact hA.round
      · exact hA.x
      · exact hA.figure
    refine E_iload_n d_TM_is_0 rfl ?_
    refine E_iconst (v := nI 0) d_TM_is_1 rfl ?_
    refine E_iconst (v := nI 2) d_TM_is_2 rfl ?_
    refine E_S3 (sp_TM_in _ 2 (by decide)) d_TM_is_3 ml_TM_69 cb_TM_isIn cs_TM_isIn ⟨by decide, by decide⟩ rfl (Nat.le_of_ble_eq_true rfl) (Nat.le_of_ble_eq_true rfl) (kI fun r1 M1 hc => ?_)
    obtain ⟨rfl, rfl⟩ := hc
    first | (with_reducible refine E_isP ?_; refine E_if_eq 18 d_TM_is_6 rfl (pb_0 fun h6 => ?_) (pb_1 fun h6 => ?_)) | (with_reducible refine E_isN1 ?_; refine E_if_eq 18 d_TM_is_6 rfl (nz_eq (by omega) fun h6 => ?_) (nz_ne fun h6 => ?_)) | refine E_if_eq 18 d_TM_is_6 rfl (fun h6 => ?_) (fun h6 => ?_)
    · exfalso; exact h6 hx
    first | refine E_aload_n d_TM_is_9 rfl ?_ | refine E_aload_nN d_TM_is_9 rfl ?_
    refine E_getR (q := 1) d_TM_is_10 gf_TM_7 (by exact ⟨by decide, rfl⟩) (by exact hR _ rfl) ?_
    refine E_iconst (v := nI 5) d_TM_is_13 rfl ?_
    refine E_iload_n d_TM_is_14 rfl ?_
    first | (with_reducible refine E_isN2 ?_; refine E_iaddN d_TM_is_15 ?_) | refine E_iadd d_TM_is_15 ?_
    refine E_iald d_TM_is_16 (by exact ⟨by decide, rfl⟩) (by exact ⟨by with_reducible rfl, by omega, by decide⟩) (by exact e1) ?_
    refine E_retI d_TM_is_17 rfl ?_
    exact ⟨rfl, rfl⟩
  · refine E_iload_n d_TM_is_0 rfl ?_
    refine E_iconst (v := nI 0) d_TM_is_1 rfl ?_
    refine E_iconst (v := nI 2) d_TM_is_2 rfl ?_
    refine E_S3 (sp_TM_in _ 2 (by decide)) d_TM_is_3 ml_TM_69 cb_TM_isIn cs_TM_isIn ⟨by decide, by decide⟩ rfl (Nat.le_of_ble_eq_true rfl) (Nat.le_of_ble_eq_true rfl) (kI fun r1 M1 hc => ?_)
    obtain ⟨rfl, rfl⟩ := hc
    first | (with_reducible refine E_isP ?_; refine E_if_eq 18 d_TM_is_6 rfl (pb_0 fun h6 => ?_) (pb_1 fun h6 => ?_)) | (with_reducible refine E_isN1 ?_; refine E_if_eq 18 d_TM_is_6 rfl (nz_eq (by omega) fun h6 => ?_) (nz_ne fun h6 => ?_)) | refine E_if_eq 18 d_TM_is_6 rfl (fun h6 => ?_) (fun h6 => ?_)
    rotate_left
    · exfalso; exact hx h6
    refine E_iconst (v := nI 0) d_TM_is_18 rfl ?_
    refine E_istore_2 d_TM_is_19 rfl ?_
    refine E_iconst (v := nI 0) d_TM_is_20 rfl ?_
    refine E_istore_3 d_TM_is_21 rfl ?_
    exact lp_TM_is hM hx c.now.people 0 (Nat.zero_add _)
theorem sw_out {x : Int32} {n : Nat} (h : ¬ inN x (n + 1)) : x.toInt < 0 ∨ (n : Int) < x.toInt := by
  unfold inN at h
  omega
def ofW (c : Cr) (p y : Nat) : Int32 := match y with
  | 0 => nI (c.now.lean p)
  | 1 => nI (c.sort p)
  | 2 => nI (c.hears p)
  | 3 => nI (if c.now.answers.testBit p = true then 1 else 0)
  | 4 => iI (sway c c.now p c.now.figure 1)
  | _ => iI (sway c c.now p c.now.figure 0)
def ans_of (c : Cr) (x y : Int32) : Int32 := if inN x c.now.people ∧ inN y 6 then ofW c (tN x) (tN y) else -10
theorem sp_TM_of {c : Cr} {M : Mem} (hM : HM c M) (x y : Int32) : E 4 0 0 Y_TM_of 0 [some (.ref 0), some (.int x), some (.int y)] [] GM M (QI GM fun r M' => r = ans_of c x y ∧ Sx SY M M') := by
  have hR := hM.R
  have hA := hM.A
  have hw := hM.w
  have hp8 := hM.w.p8
  have hf := hM.w.fig8
  have ha := hM.w.ans8
  revert x y
  refine args2 c.now.people 6 (fun p j hp hx ht hj hy ht2 => ?_) (fun x y hx => ?_) (fun x y hx hy => ?_)
  · have e : ans_of c (nI p) (nI j) = ofW c p j := by rw [ans_of, if_pos ⟨hx, hy⟩, ht, ht2]
    rw [e]
    rcases (show j = 0 ∨ j = 1 ∨ j = 2 ∨ j = 3 ∨ j = 4 ∨ j = 5 by omega) with rfl | rfl | rfl | rfl | rfl | rfl
    · first | refine E_aload_n d_TM_of_0 rfl ?_ | refine E_aload_nN d_TM_of_0 rfl ?_
      refine E_iload_n d_TM_of_1 rfl ?_
      refine E_V1 (sp_TM_isPerson hR hA hw _) d_TM_of_2 ml_TM_73 cb_TM_isPerson cv_TM_isPerson (by exact ⟨by decide, rfl⟩) ⟨by decide, rfl⟩ ⟨by decide, by decide⟩ rfl (Nat.le_of_ble_eq_true rfl) (Nat.le_of_ble_eq_true rfl) (kI fun r1 M1 hc => ?_)
      obtain ⟨rfl, rfl⟩ := hc
      first | (with_reducible refine E_isP ?_; refine E_if_ne 11 d_TM_of_5 rfl (pb_1 fun h5 => ?_) (pb_0 fun h5 => ?_)) | (with_reducible refine E_isN1 ?_; refine E_if_ne 11 d_TM_of_5 rfl (nz_ne fun h5 => ?_) (nz_eq (by omega) fun h5 => ?_)) | refine E_if_ne 11 d_TM_of_5 rfl (fun h5 => ?_) (fun h5 => ?_)
      rotate_left
      · exfalso; exact h5 hx
      refine E_iload_n d_TM_of_11 rfl ?_
      refine E_tableIn 52 d_TM_of_12 (by decide) (by decide) (by first | rfl | decide) rfl ?_
      first | refine E_aload_n d_TM_of_52 rfl ?_ | refine E_aload_nN d_TM_of_52 rfl ?_
      refine E_getR (q := 1) d_TM_of_53 gf_TM_7 (by exact ⟨by decide, rfl⟩) (by exact hR _ rfl) ?_
      refine E_bipush (v := nI 10) d_TM_of_56 (by decide) ?_
      refine E_iload_n d_TM_of_58 rfl ?_
      first | (with_reducible refine E_isN2 ?_; refine E_iaddN d_TM_of_59 ?_) | refine E_iadd d_TM_of_59 ?_
      refine E_iald d_TM_of_60 (by exact ⟨by decide, rfl⟩) (by exact ⟨by with_reducible rfl, by omega, by decide⟩) (by first | exact hA.people | exact hA.texts | exact hA.ruling | exact hA.steps | exact hA.saids | exact hA.round | exact hA.x | exact hA.figure | exact hA.answers | exact hA.lean (by omega) | exact hA.sort (by omega) | exact hA.hears (by omega) | rfl) ?_
      refine E_retI d_TM_of_61 rfl ?_
      exact ⟨rfl, Sx.rf⟩
    · first | refine E_aload_n d_TM_of_0 rfl ?_ | refine E_aload_nN d_TM_of_0 rfl ?_
      refine E_iload_n d_TM_of_1 rfl ?_
      refine E_V1 (sp_TM_isPerson hR hA hw _) d_TM_of_2 ml_TM_73 cb_TM_isPerson cv_TM_isPerson (by exact ⟨by decide, rfl⟩) ⟨by decide, rfl⟩ ⟨by decide, by decide⟩ rfl (Nat.le_of_ble_eq_true rfl) (Nat.le_of_ble_eq_true rfl) (kI fun r1 M1 hc => ?_)
      obtain ⟨rfl, rfl⟩ := hc
      first | (with_reducible refine E_isP ?_; refine E_if_ne 11 d_TM_of_5 rfl (pb_1 fun h5 => ?_) (pb_0 fun h5 => ?_)) | (with_reducible refine E_isN1 ?_; refine E_if_ne 11 d_TM_of_5 rfl (nz_ne fun h5 => ?_) (nz_eq (by omega) fun h5 => ?_)) | refine E_if_ne 11 d_TM_of_5 rfl (fun h5 => ?_) (fun h5 => ?_)
      rotate_left
      · exfalso; exact h5 hx
      refine E_iload_n d_TM_of_11 rfl ?_
      refine E_tableIn 62 d_TM_of_12 (by decide) (by decide) (by first | rfl | decide) rfl ?_
      first | refine E_aload_n d_TM_of_62 rfl ?_ | refine E_aload_nN d_TM_of_62 rfl ?_
      refine E_getR (q := 1) d_TM_of_63 gf_TM_7 (by exact ⟨by decide, rfl⟩) (by exact hR _ rfl) ?_
      refine E_bipush (v := nI 18) d_TM_of_66 (by decide) ?_
      refine E_iload_n d_TM_of_68 rfl ?_
      first | (with_reducible refine E_isN2 ?_; refine E_iaddN d_TM_of_69 ?_) | refine E_iadd d_TM_of_69 ?_
      refine E_iald d_TM_of_70 (by exact ⟨by decide, rfl⟩) (by exact ⟨by with_reducible rfl, by omega, by decide⟩) (by first | exact hA.people | exact hA.texts | exact hA.ruling | exact hA.steps | exact hA.saids | exact hA.round | exact hA.x | exact hA.figure | exact hA.answers | exact hA.lean (by omega) | exact hA.sort (by omega) | exact hA.hears (by omega) | rfl) ?_
      refine E_retI d_TM_of_71 rfl ?_
      exact ⟨rfl, Sx.rf⟩
    · first | refine E_aload_n d_TM_of_0 rfl ?_ | refine E_aload_nN d_TM_of_0 rfl ?_
      refine E_iload_n d_TM_of_1 rfl ?_
      refine E_V1 (sp_TM_isPerson hR hA hw _) d_TM_of_2 ml_TM_73 cb_TM_isPerson cv_TM_isPerson (by exact ⟨by decide, rfl⟩) ⟨by decide, rfl⟩ ⟨by decide, by decide⟩ rfl (Nat.le_of_ble_eq_true rfl) (Nat.le_of_ble_eq_true rfl) (kI fun r1 M1 hc => ?_)
      obtain ⟨rfl, rfl⟩ := hc
      first | (with_reducible refine E_isP ?_; refine E_if_ne 11 d_TM_of_5 rfl (pb_1 fun h5 => ?_) (pb_0 fun h5 => ?_)) | (with_reducible refine E_isN1 ?_; refine E_if_ne 11 d_TM_of_5 rfl (nz_ne fun h5 => ?_) (nz_eq (by omega) fun h5 => ?_)) | refine E_if_ne 11 d_TM_of_5 rfl (fun h5 => ?_) (fun h5 => ?_)
      rotate_left
      · exfalso; exact h5 hx
      refine E_iload_n d_TM_of_11 rfl ?_
      refine E_tableIn 72 d_TM_of_12 (by decide) (by decide) (by first | rfl | decide) rfl ?_
      first | refine E_aload_n d_TM_of_72 rfl ?_ | refine E_aload_nN d_TM_of_72 rfl ?_
      refine E_getR (q := 1) d_TM_of_73 gf_TM_7 (by exact ⟨by decide, rfl⟩) (by exact hR _ rfl) ?_
      refine E_bipush (v := nI 34) d_TM_of_76 (by decide) ?_
      refine E_iload_n d_TM_of_78 rfl ?_
      first | (with_reducible refine E_isN2 ?_; refine E_iaddN d_TM_of_79 ?_) | refine E_iadd d_TM_of_79 ?_
      refine E_iald d_TM_of_80 (by exact ⟨by decide, rfl⟩) (by exact ⟨by with_reducible rfl, by omega, by decide⟩) (by first | exact hA.people | exact hA.texts | exact hA.ruling | exact hA.steps | exact hA.saids | exact hA.round | exact hA.x | exact hA.figure | exact hA.answers | exact hA.lean (by omega) | exact hA.sort (by omega) | exact hA.hears (by omega) | rfl) ?_
      refine E_retI d_TM_of_81 rfl ?_
      exact ⟨rfl, Sx.rf⟩
    · first | refine E_aload_n d_TM_of_0 rfl ?_ | refine E_aload_nN d_TM_of_0 rfl ?_
      refine E_iload_n d_TM_of_1 rfl ?_
      refine E_V1 (sp_TM_isPerson hR hA hw _) d_TM_of_2 ml_TM_73 cb_TM_isPerson cv_TM_isPerson (by exact ⟨by decide, rfl⟩) ⟨by decide, rfl⟩ ⟨by decide, by decide⟩ rfl (Nat.le_of_ble_eq_true rfl) (Nat.le_of_ble_eq_true rfl) (kI fun r1 M1 hc => ?_)
      obtain ⟨rfl, rfl⟩ := hc
      first | (with_reducible refine E_isP ?_; refine E_if_ne 11 d_TM_of_5 rfl (pb_1 fun h5 => ?_) (pb_0 fun h5 => ?_)) | (with_reducible refine E_isN1 ?_; refine E_if_ne 11 d_TM_of_5 rfl (nz_ne fun h5 => ?_) (nz_eq (by omega) fun h5 => ?_)) | refine E_if_ne 11 d_TM_of_5 rfl (fun h5 => ?_) (fun h5 => ?_)
      rotate_left
      · exfalso; exact h5 hx
      refine E_iload_n d_TM_of_11 rfl ?_
      refine E_tableIn 82 d_TM_of_12 (by decide) (by decide) (by first | rfl | decide) rfl ?_
      first | refine E_aload_n d_TM_of_82 rfl ?_ | refine E_aload_nN d_TM_of_82 rfl ?_
      refine E_getR (q := 1) d_TM_of_83 gf_TM_7 (by exact ⟨by decide, rfl⟩) (by exact hR _ rfl) ?_
      refine E_bipush (v := nI 9) d_TM_of_86 (by decide) ?_
      refine E_iald d_TM_of_88 (by exact ⟨by decide, rfl⟩) (by exact ⟨by with_reducible rfl, by omega, by decide⟩) (by first | exact hA.people | exact hA.texts | exact hA.ruling | exact hA.steps | exact hA.saids | exact hA.round | exact hA.x | exact hA.figure | exact hA.answers | exact hA.lean (by omega) | exact hA.sort (by omega) | exact hA.hears (by omega) | rfl) ?_
      refine E_iload_n d_TM_of_89 rfl ?_
      first | (with_reducible refine E_isN2 ?_; refine E_ishrN d_TM_of_90 (by omega) (by omega) ?_) | refine E_ishr d_TM_of_90 ?_
      refine E_iconst (v := nI 1) d_TM_of_91 rfl ?_
      first | (with_reducible refine E_isN2 ?_; refine E_iandN d_TM_of_92 ?_) | refine E_iand d_TM_of_92 ?_
      refine E_retI d_TM_of_93 rfl ?_
      exact ⟨by rw [tb_and]; rfl, Sx.rf⟩
    · first | refine E_aload_n d_TM_of_0 rfl ?_ | refine E_aload_nN d_TM_of_0 rfl ?_
      refine E_iload_n d_TM_of_1 rfl ?_
      refine E_V1 (sp_TM_isPerson hR hA hw _) d_TM_of_2 ml_TM_73 cb_TM_isPerson cv_TM_isPerson (by exact ⟨by decide, rfl⟩) ⟨by decide, rfl⟩ ⟨by decide, by decide⟩ rfl (Nat.le_of_ble_eq_true rfl) (Nat.le_of_ble_eq_true rfl) (kI fun r1 M1 hc => ?_)
      obtain ⟨rfl, rfl⟩ := hc
      first | (with_reducible refine E_isP ?_; refine E_if_ne 11 d_TM_of_5 rfl (pb_1 fun h5 => ?_) (pb_0 fun h5 => ?_)) | (with_reducible refine E_isN1 ?_; refine E_if_ne 11 d_TM_of_5 rfl (nz_ne fun h5 => ?_) (nz_eq (by omega) fun h5 => ?_)) | refine E_if_ne 11 d_TM_of_5 rfl (fun h5 => ?_) (fun h5 => ?_)
      rotate_left
      · exfalso; exact h5 hx
      refine E_iload_n d_TM_of_11 rfl ?_
      refine E_tableIn 94 d_TM_of_12 (by decide) (by decide) (by first | rfl | decide) rfl ?_
      first | refine E_aload_n d_TM_of_94 rfl ?_ | refine E_aload_nN d_TM_of_94 rfl ?_
      refine E_iload_n d_TM_of_95 rfl ?_
      first | refine E_aload_n d_TM_of_96 rfl ?_ | refine E_aload_nN d_TM_of_96 rfl ?_
      refine E_getR (q := 1) d_TM_of_97 gf_TM_7 (by exact ⟨by decide, rfl⟩) (by exact hR _ rfl) ?_
      refine E_bipush (v := nI 7) d_TM_of_100 (by decide) ?_
      refine E_iald d_TM_of_102 (by exact ⟨by decide, rfl⟩) (by exact ⟨by with_reducible rfl, by omega, by decide⟩) (by first | exact hA.people | exact hA.texts | exact hA.ruling | exact hA.steps | exact hA.saids | exact hA.round | exact hA.x | exact hA.figure | exact hA.answers | exact hA.lean (by omega) | exact hA.sort (by omega) | exact hA.hears (by omega) | rfl) ?_
      refine E_iconst (v := nI 1) d_TM_of_103 rfl ?_
      refine E_V3 (sp_TM_swaysOf hM hp hf (by decide)) d_TM_of_104 ml_TM_305 cb_TM_swaysOf cv_TM_swaysOf (by exact ⟨by decide, rfl⟩) ⟨by decide, rfl⟩ ⟨by decide, by decide⟩ rfl (Nat.le_of_ble_eq_true rfl) (Nat.le_of_ble_eq_true rfl) (kI fun r1 M1 hc => ?_)
      obtain ⟨rfl, hS1⟩ := hc
      refine E_retI d_TM_of_107 rfl ?_
      exact ⟨rfl, hS1⟩
    · first | refine E_aload_n d_TM_of_0 rfl ?_ | refine E_aload_nN d_TM_of_0 rfl ?_
      refine E_iload_n d_TM_of_1 rfl ?_
      refine E_V1 (sp_TM_isPerson hR hA hw _) d_TM_of_2 ml_TM_73 cb_TM_isPerson cv_TM_isPerson (by exact ⟨by decide, rfl⟩) ⟨by decide, rfl⟩ ⟨by decide, by decide⟩ rfl (Nat.le_of_ble_eq_true rfl) (Nat.le_of_ble_eq_true rfl) (kI fun r1 M1 hc => ?_)
      obtain ⟨rfl, rfl⟩ := hc
      first | (with_reducible refine E_isP ?_; refine E_if_ne 11 d_TM_of_5 rfl (pb_1 fun h5 => ?_) (pb_0 fun h5 => ?_)) | (with_reducible refine E_isN1 ?_; refine E_if_ne 11 d_TM_of_5 rfl (nz_ne fun h5 => ?_) (nz_eq (by omega) fun h5 => ?_)) | refine E_if_ne 11 d_TM_of_5 rfl (fun h5 => ?_) (fun h5 => ?_)
      rotate_left
      · exfalso; exact h5 hx
      refine E_iload_n d_TM_of_11 rfl ?_
      refine E_tableIn 108 d_TM_of_12 (by decide) (by decide) (by first | rfl | decide) rfl ?_
      first | refine E_aload_n d_TM_of_108 rfl ?_ | refine E_aload_nN d_TM_of_108 rfl ?_
      refine E_iload_n d_TM_of_109 rfl ?_
      first | refine E_aload_n d_TM_of_110 rfl ?_ | refine E_aload_nN d_TM_of_110 rfl ?_
      refine E_getR (q := 1) d_TM_of_111 gf_TM_7 (by exact ⟨by decide, rfl⟩) (by exact hR _ rfl) ?_
      refine E_bipush (v := nI 7) d_TM_of_114 (by decide) ?_
      refine E_iald d_TM_of_116 (by exact ⟨by decide, rfl⟩) (by exact ⟨by with_reducible rfl, by omega, by decide⟩) (by first | exact hA.people | exact hA.texts | exact hA.ruling | exact hA.steps | exact hA.saids | exact hA.round | exact hA.x | exact hA.figure | exact hA.answers | exact hA.lean (by omega) | exact hA.sort (by omega) | exact hA.hears (by omega) | rfl) ?_
      refine E_iconst (v := nI 0) d_TM_of_117 rfl ?_
      refine E_V3 (sp_TM_swaysOf hM hp hf (by decide)) d_TM_of_118 ml_TM_305 cb_TM_swaysOf cv_TM_swaysOf (by exact ⟨by decide, rfl⟩) ⟨by decide, rfl⟩ ⟨by decide, by decide⟩ rfl (Nat.le_of_ble_eq_true rfl) (Nat.le_of_ble_eq_true rfl) (kI fun r1 M1 hc => ?_)
      obtain ⟨rfl, hS1⟩ := hc
      refine E_retI d_TM_of_121 rfl ?_
      exact ⟨rfl, hS1⟩
  · first | refine E_aload_n d_TM_of_0 rfl ?_ | refine E_aload_nN d_TM_of_0 rfl ?_
    refine E_iload_n d_TM_of_1 rfl ?_
    refine E_V1 (sp_TM_isPerson hR hA hw _) d_TM_of_2 ml_TM_73 cb_TM_isPerson cv_TM_isPerson (by exact ⟨by decide, rfl⟩) ⟨by decide, rfl⟩ ⟨by decide, by decide⟩ rfl (Nat.le_of_ble_eq_true rfl) (Nat.le_of_ble_eq_true rfl) (kI fun r1 M1 hc => ?_)
    obtain ⟨rfl, rfl⟩ := hc
    first | (with_reducible refine E_isP ?_; refine E_if_ne 11 d_TM_of_5 rfl (pb_1 fun h5 => ?_) (pb_0 fun h5 => ?_)) | (with_reducible refine E_isN1 ?_; refine E_if_ne 11 d_TM_of_5 rfl (nz_ne fun h5 => ?_) (nz_eq (by omega) fun h5 => ?_)) | refine E_if_ne 11 d_TM_of_5 rfl (fun h5 => ?_) (fun h5 => ?_)
    · exfalso; exact hx h5
    refine E_bipush (v := (-10)) d_TM_of_8 (by decide) ?_
    refine E_retI d_TM_of_10 rfl ?_
    exact ⟨by rw [ans_of, if_neg (fun q => hx q.1)], Sx.rf⟩
  · first | refine E_aload_n d_TM_of_0 rfl ?_ | refine E_aload_nN d_TM_of_0 rfl ?_
    refine E_iload_n d_TM_of_1 rfl ?_
    refine E_V1 (sp_TM_isPerson hR hA hw _) d_TM_of_2 ml_TM_73 cb_TM_isPerson cv_TM_isPerson (by exact ⟨by decide, rfl⟩) ⟨by decide, rfl⟩ ⟨by decide, by decide⟩ rfl (Nat.le_of_ble_eq_true rfl) (Nat.le_of_ble_eq_true rfl) (kI fun r1 M1 hc => ?_)
    obtain ⟨rfl, rfl⟩ := hc
    first | (with_reducible refine E_isP ?_; refine E_if_ne 11 d_TM_of_5 rfl (pb_1 fun h5 => ?_) (pb_0 fun h5 => ?_)) | (with_reducible refine E_isN1 ?_; refine E_if_ne 11 d_TM_of_5 rfl (nz_ne fun h5 => ?_) (nz_eq (by omega) fun h5 => ?_)) | refine E_if_ne 11 d_TM_of_5 rfl (fun h5 => ?_) (fun h5 => ?_)
    rotate_left
    · exfalso; exact h5 hx
    refine E_iload_n d_TM_of_11 rfl ?_
    refine E_tableOut 122 d_TM_of_12 (by exact sw_out hy) rfl ?_
    refine E_bipush (v := (-10)) d_TM_of_122 (by decide) ?_
    refine E_retI d_TM_of_124 rfl ?_
    exact ⟨by rw [ans_of, if_neg (fun q => hy q.2)], Sx.rf⟩
def ans_says (c : Cr) (x y : Int32) : Int32 := pI (inN x c.now.people ∧ inN y 9 ∧ isYes c c.now (ruler c) (tN x) (tN y) = true)
theorem sp_TM_says {c : Cr} {M : Mem} (hM : HM c M) (x y : Int32) : E 5 0 0 Y_TM_says 0 [some (.ref 0), some (.int x), some (.int y)] [] GM M (QI GM fun r M' => r = ans_says c x y ∧ Sx SY M M') := by
  have hR := hM.R
  have hA := hM.A
  have hw := hM.w
  have hp8 := hM.w.p8
  revert x y
  refine args2 c.now.people 9 (fun p f hp hx ht hf hy ht2 => ?_) (fun x y hx => ?_) (fun x y hx hy => ?_)
  · have e : ans_says c (nI p) (nI f) = pI (isYes c c.now (ruler c) p f = true) := pI_congr (by rw [ht, ht2]; exact ⟨fun q => q.2.2, fun q => ⟨hx, hy, q⟩⟩)
    rw [e]
    first | refine E_aload_n d_TM_says_0 rfl ?_ | refine E_aload_nN d_TM_says_0 rfl ?_
    refine E_iload_n d_TM_says_1 rfl ?_
    refine E_V1 (sp_TM_isPerson hR hA hw _) d_TM_says_2 ml_TM_73 cb_TM_isPerson cv_TM_isPerson (by exact ⟨by decide, rfl⟩) ⟨by decide, rfl⟩ ⟨by decide, by decide⟩ rfl (Nat.le_of_ble_eq_true rfl) (Nat.le_of_ble_eq_true rfl) (kI fun r1 M1 hc => ?_)
    obtain ⟨rfl, rfl⟩ := hc
    first | (with_reducible refine E_isP ?_; refine E_if_eq 31 d_TM_says_5 rfl (pb_0 fun h5 => ?_) (pb_1 fun h5 => ?_)) | (with_reducible refine E_isN1 ?_; refine E_if_eq 31 d_TM_says_5 rfl (nz_eq (by omega) fun h5 => ?_) (nz_ne fun h5 => ?_)) | refine E_if_eq 31 d_TM_says_5 rfl (fun h5 => ?_) (fun h5 => ?_)
    · exfalso; exact h5 hx
    refine E_iload_n d_TM_says_8 rfl ?_
    refine E_iconst (v := nI 0) d_TM_says_9 rfl ?_
    refine E_bipush (v := nI 8) d_TM_says_10 (by decide) ?_
    refine E_S3 (sp_TM_in _ 8 (by decide)) d_TM_says_12 ml_TM_69 cb_TM_isIn cs_TM_isIn ⟨by decide, by decide⟩ rfl (Nat.le_of_ble_eq_true rfl) (Nat.le_of_ble_eq_true rfl) (kI fun r1 M1 hc => ?_)
    obtain ⟨rfl, rfl⟩ := hc
    first | (with_reducible refine E_isP ?_; refine E_if_eq 31 d_TM_says_15 rfl (pb_0 fun h15 => ?_) (pb_1 fun h15 => ?_)) | (with_reducible refine E_isN1 ?_; refine E_if_eq 31 d_TM_says_15 rfl (nz_eq (by omega) fun h15 => ?_) (nz_ne fun h15 => ?_)) | refine E_if_eq 31 d_TM_says_15 rfl (fun h15 => ?_) (fun h15 => ?_)
    · exfalso; exact h15 hy
    first | refine E_aload_n d_TM_says_18 rfl ?_ | refine E_aload_nN d_TM_says_18 rfl ?_
    refine E_iload_n d_TM_says_19 rfl ?_
    refine E_iload_n d_TM_says_20 rfl ?_
    refine E_V2 (sp_TM_isYes hM hp (by omega)) d_TM_says_21 ml_TM_299 cb_TM_isYes cv_TM_isYes (by exact ⟨by decide, rfl⟩) ⟨by decide, rfl⟩ ⟨by decide, by decide⟩ rfl (Nat.le_of_ble_eq_true rfl) (Nat.le_of_ble_eq_true rfl) (kI fun r1 M1 hc => ?_)
    obtain ⟨rfl, hS1⟩ := hc
    first | (with_reducible refine E_isP ?_; refine E_if_eq 31 d_TM_says_24 rfl (pb_0 fun h24 => ?_) (pb_1 fun h24 => ?_)) | (with_reducible refine E_isN1 ?_; refine E_if_eq 31 d_TM_says_24 rfl (nz_eq (by omega) fun h24 => ?_) (nz_ne fun h24 => ?_)) | refine E_if_eq 31 d_TM_says_24 rfl (fun h24 => ?_) (fun h24 => ?_)
    · refine E_iconst (v := nI 0) d_TM_says_31 rfl ?_
      refine E_retZ d_TM_says_32 rfl (by first | exact pI_01 _ | decide) ?_
      first | exact ⟨(pI_t h24).symm, hS1⟩ | exact ⟨(pI_f h24).symm, hS1⟩
    · refine E_iconst (v := nI 1) d_TM_says_27 rfl ?_
      refine E_goto 32 d_TM_says_28 rfl ?_
      refine E_retZ d_TM_says_32 rfl (by first | exact pI_01 _ | decide) ?_
      first | exact ⟨(pI_t h24).symm, hS1⟩ | exact ⟨(pI_f h24).symm, hS1⟩
  · first | refine E_aload_n d_TM_says_0 rfl ?_ | refine E_aload_nN d_TM_says_0 rfl ?_
    refine E_iload_n d_TM_says_1 rfl ?_
    refine E_V1 (sp_TM_isPerson hR hA hw _) d_TM_says_2 ml_TM_73 cb_TM_isPerson cv_TM_isPerson (by exact ⟨by decide, rfl⟩) ⟨by decide, rfl⟩ ⟨by decide, by decide⟩ rfl (Nat.le_of_ble_eq_true rfl) (Nat.le_of_ble_eq_true rfl) (kI fun r1 M1 hc => ?_)
    obtain ⟨rfl, rfl⟩ := hc
    first | (with_reducible refine E_isP ?_; refine E_if_eq 31 d_TM_says_5 rfl (pb_0 fun h5 => ?_) (pb_1 fun h5 => ?_)) | (with_reducible refine E_isN1 ?_; refine E_if_eq 31 d_TM_says_5 rfl (nz_eq (by omega) fun h5 => ?_) (nz_ne fun h5 => ?_)) | refine E_if_eq 31 d_TM_says_5 rfl (fun h5 => ?_) (fun h5 => ?_)
    rotate_left
    · exfalso; exact hx h5
    refine E_iconst (v := nI 0) d_TM_says_31 rfl ?_
    refine E_retZ d_TM_says_32 rfl (by decide) ?_
    exact ⟨(pI_f (fun q => hx q.1)).symm, Sx.rf⟩
  · first | refine E_aload_n d_TM_says_0 rfl ?_ | refine E_aload_nN d_TM_says_0 rfl ?_
    refine E_iload_n d_TM_says_1 rfl ?_
    refine E_V1 (sp_TM_isPerson hR hA hw _) d_TM_says_2 ml_TM_73 cb_TM_isPerson cv_TM_isPerson (by exact ⟨by decide, rfl⟩) ⟨by decide, rfl⟩ ⟨by decide, by decide⟩ rfl (Nat.le_of_ble_eq_true rfl) (Nat.le_of_ble_eq_true rfl) (kI fun r1 M1 hc => ?_)
    obtain ⟨rfl, rfl⟩ := hc
    first | (with_reducible refine E_isP ?_; refine E_if_eq 31 d_TM_says_5 rfl (pb_0 fun h5 => ?_) (pb_1 fun h5 => ?_)) | (with_reducible refine E_isN1 ?_; refine E_if_eq 31 d_TM_says_5 rfl (nz_eq (by omega) fun h5 => ?_) (nz_ne fun h5 => ?_)) | refine E_if_eq 31 d_TM_says_5 rfl (fun h5 => ?_) (fun h5 => ?_)
    · exfalso; exact h5 hx
    refine E_iload_n d_TM_says_8 rfl ?_
    refine E_iconst (v := nI 0) d_TM_says_9 rfl ?_
    refine E_bipush (v := nI 8) d_TM_says_10 (by decide) ?_
    refine E_S3 (sp_TM_in _ 8 (by decide)) d_TM_says_12 ml_TM_69 cb_TM_isIn cs_TM_isIn ⟨by decide, by decide⟩ rfl (Nat.le_of_ble_eq_true rfl) (Nat.le_of_ble_eq_true rfl) (kI fun r1 M1 hc => ?_)
    obtain ⟨rfl, rfl⟩ := hc
    first | (with_reducible refine E_isP ?_; refine E_if_eq 31 d_TM_says_15 rfl (pb_0 fun h15 => ?_) (pb_1 fun h15 => ?_)) | (with_reducible refine E_isN1 ?_; refine E_if_eq 31 d_TM_says_15 rfl (nz_eq (by omega) fun h15 => ?_) (nz_ne fun h15 => ?_)) | refine E_if_eq 31 d_TM_says_15 rfl (fun h15 => ?_) (fun h15 => ?_)
    rotate_left
    · exfalso; exact hy h15
    refine E_iconst (v := nI 0) d_TM_says_31 rfl ?_
    refine E_retZ d_TM_says_32 rfl (by decide) ?_
    exact ⟨(pI_f (fun q => hy q.2.1)).symm, Sx.rf⟩
def ans_about (c : Cr) (n : Nat) (x : Int32) : Int32 := if x = nI 0 then nI c.now.people else if x = nI 1 then nI c.texts.length else if x = nI 2 then enO c.ruling else if x = nI 3 then nI c.steps.length else if x = nI 4 then nI c.saids.length else if x = nI 5 then nI n else -2
theorem sp_TM_about {c : Cr} {M : Mem} {n : Nat} (hM : HM c M) (hn : mI M 0 4 = nI n) (x : Int32) : E 1 0 0 Y_TM_about 0 [some (.ref 0), some (.int x)] [] GM M (QI GM fun r M' => r = ans_about c n x ∧ M' = M) := by
  have hR := hM.R
  have hA := hM.A
  revert x
  refine args1 5 (fun k hk hx ht => ?_) (fun x hx => ?_)
  · have e1 : mI M 1 k = ans_about c n (nI k) := by
      rcases (show k = 0 ∨ k = 1 ∨ k = 2 ∨ k = 3 ∨ k = 4 by omega) with rfl | rfl | rfl | rfl | rfl
      · exact hA.people
      · exact hA.texts
      · exact hA.ruling
      · exact hA.steps
      · exact hA.saids
    refine E_iload_n d_TM_about_0 rfl ?_
    refine E_iconst (v := nI 0) d_TM_about_1 rfl ?_
    refine E_iconst (v := nI 4) d_TM_about_2 rfl ?_
    refine E_S3 (sp_TM_in _ 4 (by decide)) d_TM_about_3 ml_TM_69 cb_TM_isIn cs_TM_isIn ⟨by decide, by decide⟩ rfl (Nat.le_of_ble_eq_true rfl) (Nat.le_of_ble_eq_true rfl) (kI fun r1 M1 hc => ?_)
    obtain ⟨rfl, rfl⟩ := hc
    first | (with_reducible refine E_isP ?_; refine E_if_eq 18 d_TM_about_6 rfl (pb_0 fun h6 => ?_) (pb_1 fun h6 => ?_)) | (with_reducible refine E_isN1 ?_; refine E_if_eq 18 d_TM_about_6 rfl (nz_eq (by omega) fun h6 => ?_) (nz_ne fun h6 => ?_)) | refine E_if_eq 18 d_TM_about_6 rfl (fun h6 => ?_) (fun h6 => ?_)
    · exfalso; exact h6 hx
    first | refine E_aload_n d_TM_about_9 rfl ?_ | refine E_aload_nN d_TM_about_9 rfl ?_
    refine E_getR (q := 1) d_TM_about_10 gf_TM_7 (by exact ⟨by decide, rfl⟩) (by exact hR _ rfl) ?_
    refine E_iload_n d_TM_about_13 rfl ?_
    refine E_iald d_TM_about_14 (by exact ⟨by decide, rfl⟩) (by exact ⟨by with_reducible rfl, by omega, by decide⟩) (by exact e1) ?_
    refine E_goto 32 d_TM_about_15 rfl ?_
    refine E_retI d_TM_about_32 rfl ?_
    exact ⟨rfl, rfl⟩
  · have n0 : ¬ x = nI 0 := fun q => hx (by rw [q]; decide)
    have n1 : ¬ x = nI 1 := fun q => hx (by rw [q]; decide)
    have n2 : ¬ x = nI 2 := fun q => hx (by rw [q]; decide)
    have n3 : ¬ x = nI 3 := fun q => hx (by rw [q]; decide)
    have n4 : ¬ x = nI 4 := fun q => hx (by rw [q]; decide)
    refine E_iload_n d_TM_about_0 rfl ?_
    refine E_iconst (v := nI 0) d_TM_about_1 rfl ?_
    refine E_iconst (v := nI 4) d_TM_about_2 rfl ?_
    refine E_S3 (sp_TM_in _ 4 (by decide)) d_TM_about_3 ml_TM_69 cb_TM_isIn cs_TM_isIn ⟨by decide, by decide⟩ rfl (Nat.le_of_ble_eq_true rfl) (Nat.le_of_ble_eq_true rfl) (kI fun r1 M1 hc => ?_)
    obtain ⟨rfl, rfl⟩ := hc
    first | (with_reducible refine E_isP ?_; refine E_if_eq 18 d_TM_about_6 rfl (pb_0 fun h6 => ?_) (pb_1 fun h6 => ?_)) | (with_reducible refine E_isN1 ?_; refine E_if_eq 18 d_TM_about_6 rfl (nz_eq (by omega) fun h6 => ?_) (nz_ne fun h6 => ?_)) | refine E_if_eq 18 d_TM_about_6 rfl (fun h6 => ?_) (fun h6 => ?_)
    rotate_left
    · exfalso; exact hx h6
    refine E_iload_n d_TM_about_18 rfl ?_
    refine E_iconst (v := nI 5) d_TM_about_19 rfl ?_
    first | (with_reducible refine E_isN2 ?_; refine E_icmp_ne 30 d_TM_about_20 rfl (nb_ne fun h20 => ?_) (nb_eq (by omega) (by omega) fun h20 => ?_)) | refine E_icmp_ne 30 d_TM_about_20 rfl (fun h20 => ?_) (fun h20 => ?_)
    · refine E_bipush (v := (-2)) d_TM_about_30 (by decide) ?_
      refine E_retI d_TM_about_32 rfl ?_
      first | exact ⟨by rw [ans_about, if_neg n0, if_neg n1, if_neg n2, if_neg n3, if_neg n4, if_pos h20], rfl⟩ | exact ⟨by rw [ans_about, if_neg n0, if_neg n1, if_neg n2, if_neg n3, if_neg n4, if_neg h20], rfl⟩
    · first | refine E_aload_n d_TM_about_23 rfl ?_ | refine E_aload_nN d_TM_about_23 rfl ?_
      refine E_getI d_TM_about_24 gf_TM_77 (by exact ⟨by decide, rfl⟩) (by exact hn) ?_
      refine E_goto 32 d_TM_about_27 rfl ?_
      refine E_retI d_TM_about_32 rfl ?_
      first | exact ⟨by rw [ans_about, if_neg n0, if_neg n1, if_neg n2, if_neg n3, if_neg n4, if_pos h20], rfl⟩ | exact ⟨by rw [ans_about, if_neg n0, if_neg n1, if_neg n2, if_neg n3, if_neg n4, if_neg h20], rfl⟩
