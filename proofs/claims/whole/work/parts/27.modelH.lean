theorem pM_lt {n k : Nat} (hn : n < 2147483648) (hk : k < 2147483648) : pM n < nI k ↔ n < k + 1 := by
  cases n with
  | zero =>
    rw [lt_toInt, nI_toInt hk]
    have : (pM 0).toInt = -1 := by decide
    omega
  | succ n =>
    show nI n < nI k ↔ _
    rw [nI_ltI (by omega) hk]
    omega
theorem pM_m1 {n : Nat} (hn : n < 2147483648) : pM n = -1 ↔ n = 0 := by
  cases n with
  | zero => exact ⟨fun _ => rfl, fun _ => rfl⟩
  | succ n => exact ⟨fun q => absurd q (nI_nm1 (by omega)), fun q => absurd q (by omega)⟩
theorem alikeN_le (c : Cr) (p q : Nat) : alikeN c p q ≤ c.now.people + 1 := cnt_le _ _
def pairOk (S : Nat × Nat) : Prop := S.1 ≤ 80 ∧ S.2 ≤ 10
theorem pairS_ok {c : Cr} (hp8 : c.now.people ≤ 8) {p q : Nat} (hp : p < c.now.people) (hq : q < c.now.people) {S : Nat × Nat} (h : pairOk S) : pairOk (if S.2 < alikeN c p q + 1 then (8 * p + q + 1, alikeN c p q + 1) else S) := by
  split
  · have := alikeN_le c p q
    exact ⟨show 8 * p + q + 1 ≤ 80 by omega, show alikeN c p q + 1 ≤ 10 by omega⟩
  · exact h
theorem pairB_ok {c : Cr} (hp8 : c.now.people ≤ 8) {p : Nat} (hp : p < c.now.people) : ∀ k S, k ≤ c.now.people → pairOk S → pairOk (pairB c p k S) := by
  intro k
  induction k with
  | zero => intro S _ h; exact h
  | succ k ih => intro S hk h; exact ih _ (by omega) (pairS_ok hp8 hp (by omega) h)
theorem pairA_ok {c : Cr} (hp8 : c.now.people ≤ 8) : ∀ k S, k ≤ c.now.people → pairOk S → pairOk (pairA c k S) := by
  intro k
  induction k with
  | zero => intro S _ h; exact h
  | succ k ih => intro S hk h; exact ih _ (by omega) (pairB_ok hp8 (by omega) _ _ (by omega) h)
theorem lp_TM_pairB {c : Cr} {M0 : Mem} {z : Int32} {p : Nat} {Q : Option Value → Geo → Mem → Prop} (hp : p < c.now.people) (hp8 : c.now.people ≤ 8) (R : Nat × Nat)
    (K : ∀ M, HM c M → Sx SQ M0 M → E 6 0 0 Y_TM_pair 74 [some (.ref 0), some (.int z), some (.int (pM R.1)), some (.int (pM R.2)), some (.int (nI p)), none] [] GM M Q) :
    ∀ (k q : Nat) (S : Nat × Nat), q + k = c.now.people → pairOk S → pairB c p k S = R → ∀ M, HM c M → Sx SQ M0 M → E 6 0 0 Y_TM_pair 24 [some (.ref 0), some (.int z), some (.int (pM S.1)), some (.int (pM S.2)), some (.int (nI p)), some (.int (nI q))] [] GM M Q := by
  intro k
  induction k with
  | zero =>
    intro q S hq hS hv M hM hX
    have hR := hM.R
    have hA := hM.A
    rw [pairB] at hv
    subst hv
    refine E_iload d_TM_pair_24 rfl ?_
    first | refine E_aload_n d_TM_pair_26 rfl ?_ | refine E_aload_nN d_TM_pair_26 rfl ?_
    refine E_getR (q := 1) d_TM_pair_27 gf_TM_7 (by exact ⟨by decide, rfl⟩) (by exact hR _ rfl) ?_
    refine E_iconst (v := nI 0) d_TM_pair_30 rfl ?_
    refine E_iald d_TM_pair_31 (by exact ⟨by decide, rfl⟩) (by exact ⟨by with_reducible rfl, by omega, by decide⟩) (by first | exact hA.people | exact hA.figure | exact hA.lean (by omega) | exact hN _ (by omega) | rfl) ?_
    first | (with_reducible refine E_isN2 ?_; refine E_icmp_ge 74 d_TM_pair_32 rfl (nb_le (by omega) (by omega) fun h32 => ?_) (nb_nle (by omega) (by omega) fun h32 => ?_)) | refine E_icmp_ge 74 d_TM_pair_32 rfl (fun h32 => ?_) (fun h32 => ?_)
    rotate_left
    · exfalso; omega
    refine E_wk ?_ (K M hM hX); exact ⟨Or.inl rfl, Or.inl rfl, Or.inl rfl, Or.inl rfl, Or.inl rfl, Or.inr rfl, trivial⟩
  | succ k ih =>
    intro q S hq hS hv M hM hX
    have hR := hM.R
    have hA := hM.A
    have hl := alikeN_le c p q
    have h2 := hS.2
    rw [pairB, show c.now.people - (k + 1) = q by omega] at hv
    have ok := pairS_ok hp8 hp (show q < c.now.people by omega) hS
    refine E_iload d_TM_pair_24 rfl ?_
    first | refine E_aload_n d_TM_pair_26 rfl ?_ | refine E_aload_nN d_TM_pair_26 rfl ?_
    refine E_getR (q := 1) d_TM_pair_27 gf_TM_7 (by exact ⟨by decide, rfl⟩) (by exact hR _ rfl) ?_
    refine E_iconst (v := nI 0) d_TM_pair_30 rfl ?_
    refine E_iald d_TM_pair_31 (by exact ⟨by decide, rfl⟩) (by exact ⟨by with_reducible rfl, by omega, by decide⟩) (by first | exact hA.people | exact hA.figure | exact hA.lean (by omega) | exact hN _ (by omega) | rfl) ?_
    first | (with_reducible refine E_isN2 ?_; refine E_icmp_ge 74 d_TM_pair_32 rfl (nb_le (by omega) (by omega) fun h32 => ?_) (nb_nle (by omega) (by omega) fun h32 => ?_)) | refine E_icmp_ge 74 d_TM_pair_32 rfl (fun h32 => ?_) (fun h32 => ?_)
    · exfalso; omega
    first | refine E_aload_n d_TM_pair_35 rfl ?_ | refine E_aload_nN d_TM_pair_35 rfl ?_
    refine E_iload d_TM_pair_36 rfl ?_
    refine E_iload d_TM_pair_38 rfl ?_
    refine E_V2 (sp_TM_alikeOf hM hp (by omega)) d_TM_pair_40 ml_TM_388 cb_TM_alikeOf cv_TM_alikeOf (by exact ⟨by decide, rfl⟩) ⟨by decide, rfl⟩ ⟨by decide, by decide⟩ rfl (Nat.le_of_ble_eq_true rfl) (Nat.le_of_ble_eq_true rfl) (kI fun r1 M1 hc => ?_)
    obtain ⟨rfl, hS1⟩ := hc
    have hM1 := hM.sx hS1
    have hX1 := hX.tr hS1
    refine E_iload_n d_TM_pair_43 rfl ?_
    first | (with_reducible refine E_isN2 ?_; refine E_icmp_gt 50 d_TM_pair_44 rfl (nb_lt (by omega) (by omega) fun h44 => ?_) (nb_nlt (by omega) (by omega) fun h44 => ?_)) | refine E_icmp_gt 50 d_TM_pair_44 rfl (fun h44 => ?_) (fun h44 => ?_)
    · first | refine E_aload_n d_TM_pair_50 rfl ?_ | refine E_aload_nN d_TM_pair_50 rfl ?_
      refine E_iload d_TM_pair_51 rfl ?_
      refine E_iload d_TM_pair_53 rfl ?_
      refine E_V2 (sp_TM_alikeOf hM1 hp (by omega)) d_TM_pair_55 ml_TM_388 cb_TM_alikeOf cv_TM_alikeOf (by exact ⟨by decide, rfl⟩) ⟨by decide, rfl⟩ ⟨by decide, by decide⟩ rfl (Nat.le_of_ble_eq_true rfl) (Nat.le_of_ble_eq_true rfl) (kI fun r1 M1 hc => ?_)
      obtain ⟨rfl, hS2⟩ := hc
      have hX1 := hX1.tr hS2
      have hM1 := hM1.sx hS2
      rw [if_pos ((pM_lt (by omega) (by omega)).mp h44)] at hv ok
      refine E_istore_3 d_TM_pair_58 rfl ?_
      refine E_bipush (v := nI 8) d_TM_pair_59 (by decide) ?_
      refine E_iload d_TM_pair_61 rfl ?_
      first | (with_reducible refine E_isN2 ?_; refine E_imulN d_TM_pair_63 ?_) | refine E_imul d_TM_pair_63 ?_
      refine E_iload d_TM_pair_64 rfl ?_
      first | (with_reducible refine E_isN2 ?_; refine E_iaddN d_TM_pair_66 ?_) | refine E_iadd d_TM_pair_66 ?_
      refine E_istore_2 d_TM_pair_67 rfl ?_
      first | (with_reducible refine E_isL5 ?_; refine E_iincN5 (m := 1) d_TM_pair_68 rfl rfl ?_) | refine E_iinc_5 d_TM_pair_68 rfl rfl ?_
      refine E_goto 24 d_TM_pair_71 rfl ?_
      first | exact ih (q + 1) _ (by omega) ok hv _ hM1 hX1 | (rw [if_neg (fun q => h44 ((pM_lt (by omega) (by omega)).mpr q))] at hv ok; exact ih (q + 1) _ (by omega) ok hv _ hM1 hX1)
    · refine E_goto 68 d_TM_pair_47 rfl ?_
      first | (with_reducible refine E_isL5 ?_; refine E_iincN5 (m := 1) d_TM_pair_68 rfl rfl ?_) | refine E_iinc_5 d_TM_pair_68 rfl rfl ?_
      refine E_goto 24 d_TM_pair_71 rfl ?_
      first | exact ih (q + 1) _ (by omega) ok hv _ hM1 hX1 | (rw [if_neg (fun q => h44 ((pM_lt (by omega) (by omega)).mpr q))] at hv ok; exact ih (q + 1) _ (by omega) ok hv _ hM1 hX1)
theorem lp_TM_pairA {c : Cr} {M0 : Mem} {z : Int32} {Q : Option Value → Geo → Mem → Prop} (hp8 : c.now.people ≤ 8) (R : Nat × Nat)
    (K : ∀ M, HM c M → Sx SQ M0 M → E 6 0 0 Y_TM_pair 80 [some (.ref 0), some (.int z), some (.int (pM R.1)), none, none, none] [] GM M Q) :
    ∀ (k p : Nat) (S : Nat × Nat), p + k = c.now.people → pairOk S → pairA c k S = R → ∀ M, HM c M → Sx SQ M0 M → E 6 0 0 Y_TM_pair 7 [some (.ref 0), some (.int z), some (.int (pM S.1)), some (.int (pM S.2)), some (.int (nI p)), none] [] GM M Q := by
  intro k
  induction k with
  | zero =>
    intro p S hq hS hv M hM hX
    have hR := hM.R
    have hA := hM.A
    rw [pairA] at hv
    subst hv
    refine E_iload d_TM_pair_7 rfl ?_
    first | refine E_aload_n d_TM_pair_9 rfl ?_ | refine E_aload_nN d_TM_pair_9 rfl ?_
    refine E_getR (q := 1) d_TM_pair_10 gf_TM_7 (by exact ⟨by decide, rfl⟩) (by exact hR _ rfl) ?_
    refine E_iconst (v := nI 0) d_TM_pair_13 rfl ?_
    refine E_iald d_TM_pair_14 (by exact ⟨by decide, rfl⟩) (by exact ⟨by with_reducible rfl, by omega, by decide⟩) (by first | exact hA.people | exact hA.figure | exact hA.lean (by omega) | exact hN _ (by omega) | rfl) ?_
    first | (with_reducible refine E_isN2 ?_; refine E_icmp_ge 80 d_TM_pair_15 rfl (nb_le (by omega) (by omega) fun h15 => ?_) (nb_nle (by omega) (by omega) fun h15 => ?_)) | refine E_icmp_ge 80 d_TM_pair_15 rfl (fun h15 => ?_) (fun h15 => ?_)
    rotate_left
    · exfalso; omega
    refine E_wk ?_ (K M hM hX); exact ⟨Or.inl rfl, Or.inl rfl, Or.inl rfl, Or.inr rfl, Or.inr rfl, Or.inl rfl, trivial⟩
  | succ k ih =>
    intro p S hq hS hv M hM hX
    have hR := hM.R
    have hA := hM.A
    rw [pairA, show c.now.people - (k + 1) = p by omega] at hv
    have ok := pairB_ok hp8 (show p < c.now.people by omega) k S (by omega) hS
    have K2 : ∀ M, HM c M → Sx SQ M0 M → E 6 0 0 Y_TM_pair 74 [some (.ref 0), some (.int z), some (.int (pM (pairB c p k S).1)), some (.int (pM (pairB c p k S).2)), some (.int (nI p)), none] [] GM M Q := by
      intro M hM hX
      first | (with_reducible refine E_isL4 ?_; refine E_iincN4 (m := 1) d_TM_pair_74 rfl rfl ?_) | refine E_iinc_4 d_TM_pair_74 rfl rfl ?_
      refine E_goto 7 d_TM_pair_77 rfl ?_
      exact ih (p + 1) _ (by omega) ok hv M hM hX
    refine E_iload d_TM_pair_7 rfl ?_
    first | refine E_aload_n d_TM_pair_9 rfl ?_ | refine E_aload_nN d_TM_pair_9 rfl ?_
    refine E_getR (q := 1) d_TM_pair_10 gf_TM_7 (by exact ⟨by decide, rfl⟩) (by exact hR _ rfl) ?_
    refine E_iconst (v := nI 0) d_TM_pair_13 rfl ?_
    refine E_iald d_TM_pair_14 (by exact ⟨by decide, rfl⟩) (by exact ⟨by with_reducible rfl, by omega, by decide⟩) (by first | exact hA.people | exact hA.figure | exact hA.lean (by omega) | exact hN _ (by omega) | rfl) ?_
    first | (with_reducible refine E_isN2 ?_; refine E_icmp_ge 80 d_TM_pair_15 rfl (nb_le (by omega) (by omega) fun h15 => ?_) (nb_nle (by omega) (by omega) fun h15 => ?_)) | refine E_icmp_ge 80 d_TM_pair_15 rfl (fun h15 => ?_) (fun h15 => ?_)
    · exfalso; omega
    refine E_iload d_TM_pair_18 rfl ?_
    refine E_iconst (v := nI 1) d_TM_pair_20 rfl ?_
    first | (with_reducible refine E_isN2 ?_; refine E_iaddN d_TM_pair_21 ?_) | refine E_iadd d_TM_pair_21 ?_
    refine E_istore_5 d_TM_pair_22 rfl ?_
    exact lp_TM_pairB (by omega) hp8 _ K2 k (p + 1) S (by omega) hS rfl M hM hX
theorem sp_TM_pair {c : Cr} {M : Mem} (hM : HM c M) (z : Int32) : E 6 0 0 Y_TM_pair 0 [some (.ref 0), some (.int z), none, none, none, none] [] GM M (QI GM fun r M' => r = ans_pair c z ∧ Sx SQ M M') := by
  have hp8 := hM.w.p8
  have ok := pairA_ok hp8 c.now.people (0, 0) (Nat.le_refl _) ⟨by decide, by decide⟩
  have K : ∀ M1, HM c M1 → Sx SQ M M1 → E 6 0 0 Y_TM_pair 80 [some (.ref 0), some (.int z), some (.int (pM (pairA c c.now.people (0, 0)).1)), none, none, none] [] GM M1 (QI GM fun r M' => r = ans_pair c z ∧ Sx SQ M M') := by
    intro M1 hM1 hX
    have ha : ans_pair c z = if (pairA c c.now.people (0, 0)).1 = 0 then -1 else if z = 0 then nI (((pairA c c.now.people (0, 0)).1 - 1) / 8) else nI (((pairA c c.now.people (0, 0)).1 - 1) % 8) := rfl
    revert ha ok
    generalize (pairA c c.now.people (0, 0)) = R
    intro ok ha
    have ok1 := ok.1
    by_cases h0 : R.1 = 0
    · rw [h0]
      rw [if_pos h0] at ha
      refine E_iload_n d_TM_pair_80 rfl ?_
      refine E_iconst (v := (-1)) d_TM_pair_81 rfl ?_
      first | (with_reducible refine E_isN2 ?_; refine E_icmp_ne 89 d_TM_pair_82 rfl (nb_ne fun h82 => ?_) (nb_eq (by omega) (by omega) fun h82 => ?_)) | refine E_icmp_ne 89 d_TM_pair_82 rfl (fun h82 => ?_) (fun h82 => ?_)
      · exfalso; exact h82 rfl
      refine E_iconst (v := (-1)) d_TM_pair_85 rfl ?_
      refine E_goto 104 d_TM_pair_86 rfl ?_
      refine E_retI d_TM_pair_104 rfl ?_
      exact ⟨ha.symm, hX⟩
    · rw [pM_pred (show 1 ≤ R.1 by omega)]
      rw [if_neg h0] at ha
      refine E_iload_n d_TM_pair_80 rfl ?_
      refine E_iconst (v := (-1)) d_TM_pair_81 rfl ?_
      first | (with_reducible refine E_isN2 ?_; refine E_icmp_ne 89 d_TM_pair_82 rfl (nb_ne fun h82 => ?_) (nb_eq (by omega) (by omega) fun h82 => ?_)) | refine E_icmp_ne 89 d_TM_pair_82 rfl (fun h82 => ?_) (fun h82 => ?_)
      rotate_left
      · exfalso; exact nI_nm1 (by omega) h82
      refine E_iload_n d_TM_pair_89 rfl ?_
      first | (with_reducible refine E_isP ?_; refine E_if_eq 100 d_TM_pair_90 rfl (pb_0 fun h90 => ?_) (pb_1 fun h90 => ?_)) | (with_reducible refine E_isN1 ?_; refine E_if_eq 100 d_TM_pair_90 rfl (nz_eq (by omega) fun h90 => ?_) (nz_ne fun h90 => ?_)) | refine E_if_eq 100 d_TM_pair_90 rfl (fun h90 => ?_) (fun h90 => ?_)
      · refine E_iload_n d_TM_pair_100 rfl ?_
        refine E_bipush (v := nI 8) d_TM_pair_101 (by decide) ?_
        first | (with_reducible refine E_isN2 ?_; refine E_idivN d_TM_pair_103 (by omega) (by omega) (by omega) ?_) | refine E_idiv d_TM_pair_103 (by decide) ?_
        refine E_retI d_TM_pair_104 rfl ?_
        first | (rw [if_pos (by assumption)] at ha; exact ⟨ha.symm, hX⟩) | (rw [if_neg (by assumption)] at ha; exact ⟨ha.symm, hX⟩)
      · refine E_iload_n d_TM_pair_93 rfl ?_
        refine E_bipush (v := nI 8) d_TM_pair_94 (by decide) ?_
        first | (with_reducible refine E_isN2 ?_; refine E_iremN d_TM_pair_96 (by omega) (by omega) (by omega) ?_) | refine E_irem d_TM_pair_96 (by decide) ?_
        refine E_goto 104 d_TM_pair_97 rfl ?_
        refine E_retI d_TM_pair_104 rfl ?_
        first | (rw [if_pos (by assumption)] at ha; exact ⟨ha.symm, hX⟩) | (rw [if_neg (by assumption)] at ha; exact ⟨ha.symm, hX⟩)
  refine E_iconst (v := (-1)) d_TM_pair_0 rfl ?_
  refine E_istore_2 d_TM_pair_1 rfl ?_
  refine E_iconst (v := (-1)) d_TM_pair_2 rfl ?_
  refine E_istore_3 d_TM_pair_3 rfl ?_
  refine E_iconst (v := nI 0) d_TM_pair_4 rfl ?_
  refine E_istore_4 d_TM_pair_5 rfl ?_
  exact lp_TM_pairA hp8 _ K c.now.people 0 (0, 0) (by omega) ⟨by decide, by decide⟩ rfl M hM Sx.rf
theorem sub_neg {a b : Nat} (h : a < b) (hb : b < 1073741824) : nI a - nI b < 0 := by
  rw [lt_toInt, pk_sub_toInt (by omega) hb]
  have : (0 : Int32).toInt = 0 := by decide
  omega
theorem mvT_t {c : Cr} {p f l : Nat} (h : ¬ pI (isYes c (setLean c.now p l) (ruler c) p f = true) = pI (isYes c c.now (ruler c) p f = true)) : mvT c p f l = true := by
  rw [pI_eq, ← Bool.eq_iff_iff] at h
  unfold mvT
  rw [bne_iff_ne]
  exact h
theorem mvT_f {c : Cr} {p f l : Nat} (h : pI (isYes c (setLean c.now p l) (ruler c) p f = true) = pI (isYes c c.now (ruler c) p f = true)) : ¬ mvT c p f l = true := by
  rw [pI_eq, ← Bool.eq_iff_iff] at h
  unfold mvT
  rw [bne_iff_ne]
  exact fun q => q h
theorem lp_TM_moveOf {c : Cr} {M0 : Mem} {p f : Nat} (hp : p < c.now.people) (hf : f ≤ 8) (R : Nat) : ∀ (k b : Nat), b + k = 10 → 1 ≤ b → moveA (mvT c p f) (c.now.lean p) k b = R → ∀ M, HM c M → Sx SY M0 M →
    E 6 0 0 Y_TM_moveOf 21 [some (.ref 0), some (.int (nI p)), some (.int (nI f)), some (.int (nI (c.now.lean p))), some (.int (pI (isYes c c.now (ruler c) p f = true))), some (.int (nI b))] [] GM M (QI GM fun r M' => r = wE R ∧ Sx SY M0 M') := by
  intro k
  induction k with
  | zero =>
    intro b hb h1 hv M hM hX
    rw [moveA] at hv
    subst hv
    refine E_iload d_TM_moveOf_21 rfl ?_
    refine E_bipush (v := nI 10) d_TM_moveOf_23 (by decide) ?_
    first | (with_reducible refine E_isN2 ?_; refine E_icmp_ge 90 d_TM_moveOf_25 rfl (nb_le (by omega) (by omega) fun h25 => ?_) (nb_nle (by omega) (by omega) fun h25 => ?_)) | refine E_icmp_ge 90 d_TM_moveOf_25 rfl (fun h25 => ?_) (fun h25 => ?_)
    rotate_left
    · exfalso; omega
    refine E_iconst (v := (-1)) d_TM_moveOf_90 rfl ?_
    refine E_retI d_TM_moveOf_91 rfl ?_
    exact ⟨rfl, hX⟩
  | succ k ih =>
    intro b hb h1 hv M hM hX
    have hl9 := hM.w.lean9 p
    rw [moveA] at hv
    by_cases hbo : b ≤ c.now.lean p
    · refine E_iload d_TM_moveOf_21 rfl ?_
      refine E_bipush (v := nI 10) d_TM_moveOf_23 (by decide) ?_
      first | (with_reducible refine E_isN2 ?_; refine E_icmp_ge 90 d_TM_moveOf_25 rfl (nb_le (by omega) (by omega) fun h25 => ?_) (nb_nle (by omega) (by omega) fun h25 => ?_)) | refine E_icmp_ge 90 d_TM_moveOf_25 rfl (fun h25 => ?_) (fun h25 => ?_)
      · exfalso; omega
      refine E_iload_n d_TM_moveOf_28 rfl ?_
      refine E_iload d_TM_moveOf_29 rfl ?_
      first | (with_reducible refine E_isN2 ?_; refine E_isubN d_TM_moveOf_31 (by omega) ?_) | refine E_isub d_TM_moveOf_31 ?_
      first | (with_reducible refine E_isN1 ?_; refine E_if_lt 55 d_TM_moveOf_32 rfl (nz_lt (by omega) fun h32 => ?_) (nz_nlt (by omega) fun h32 => ?_)) | refine E_if_lt 55 d_TM_moveOf_32 rfl (fun h32 => ?_) (fun h32 => ?_)
      · exfalso; omega
      first | refine E_aload_n d_TM_moveOf_35 rfl ?_ | refine E_aload_nN d_TM_moveOf_35 rfl ?_
      refine E_iload_n d_TM_moveOf_36 rfl ?_
      refine E_iload_n d_TM_moveOf_37 rfl ?_
      refine E_iload d_TM_moveOf_38 rfl ?_
      first | (with_reducible refine E_isN2 ?_; refine E_isubN d_TM_moveOf_40 (by omega) ?_) | refine E_isub d_TM_moveOf_40 ?_
      refine E_iload_n d_TM_moveOf_41 rfl ?_
      refine E_V3 (sp_TM_saysByLean hM hp (by omega) hf) d_TM_moveOf_42 ml_TM_391 cb_TM_saysByLean cv_TM_saysByLean (by exact ⟨by decide, rfl⟩) ⟨by decide, rfl⟩ ⟨by decide, by decide⟩ rfl (Nat.le_of_ble_eq_true rfl) (Nat.le_of_ble_eq_true rfl) (kI fun r1 M1 hc => ?_)
      obtain ⟨rfl, hS1⟩ := hc
      have hM1 := hM.sy hS1
      have hX1 := hX.tr hS1
      refine E_iload d_TM_moveOf_45 rfl ?_
      first | (with_reducible refine E_isN2 ?_; refine E_icmp_eq 55 d_TM_moveOf_47 rfl (nb_eq (by omega) (by omega) fun h47 => ?_) (nb_ne fun h47 => ?_)) | refine E_icmp_eq 55 d_TM_moveOf_47 rfl (fun h47 => ?_) (fun h47 => ?_)
      · rw [if_neg (fun q : b ≤ c.now.lean p ∧ mvT c p f (c.now.lean p - b) = true => mvT_f h47 q.2)] at hv
        refine E_iload_n d_TM_moveOf_55 rfl ?_
        refine E_iload d_TM_moveOf_56 rfl ?_
        first | (with_reducible refine E_isN2 ?_; refine E_iaddN d_TM_moveOf_58 ?_) | refine E_iadd d_TM_moveOf_58 ?_
        refine E_bipush (v := nI 9) d_TM_moveOf_59 (by decide) ?_
        first | (with_reducible refine E_isN2 ?_; refine E_icmp_gt 84 d_TM_moveOf_61 rfl (nb_lt (by omega) (by omega) fun h61 => ?_) (nb_nlt (by omega) (by omega) fun h61 => ?_)) | refine E_icmp_gt 84 d_TM_moveOf_61 rfl (fun h61 => ?_) (fun h61 => ?_)
        · first | (with_reducible refine E_isL5 ?_; refine E_iincN5 (m := 1) d_TM_moveOf_84 rfl rfl ?_) | refine E_iinc_5 d_TM_moveOf_84 rfl rfl ?_
          refine E_goto 21 d_TM_moveOf_87 rfl ?_
          first | (rw [if_neg (fun q : c.now.lean p + b ≤ 9 ∧ mvT c p f (c.now.lean p + b) = true => absurd q.1 (by omega))] at hv; exact ih (b + 1) (by omega) (by omega) hv _ hM1 hX1) | (rw [if_neg (fun q : c.now.lean p + b ≤ 9 ∧ mvT c p f (c.now.lean p + b) = true => mvT_f h76 q.2)] at hv; exact ih (b + 1) (by omega) (by omega) hv _ hM1 hX1)
        · first | refine E_aload_n d_TM_moveOf_64 rfl ?_ | refine E_aload_nN d_TM_moveOf_64 rfl ?_
          refine E_iload_n d_TM_moveOf_65 rfl ?_
          refine E_iload_n d_TM_moveOf_66 rfl ?_
          refine E_iload d_TM_moveOf_67 rfl ?_
          first | (with_reducible refine E_isN2 ?_; refine E_iaddN d_TM_moveOf_69 ?_) | refine E_iadd d_TM_moveOf_69 ?_
          refine E_iload_n d_TM_moveOf_70 rfl ?_
          refine E_V3 (sp_TM_saysByLean hM1 hp (by omega) hf) d_TM_moveOf_71 ml_TM_391 cb_TM_saysByLean cv_TM_saysByLean (by exact ⟨by decide, rfl⟩) ⟨by decide, rfl⟩ ⟨by decide, by decide⟩ rfl (Nat.le_of_ble_eq_true rfl) (Nat.le_of_ble_eq_true rfl) (kI fun r1 M1 hc => ?_)
          obtain ⟨rfl, hS1⟩ := hc
          have hM1 := hM1.sy hS1
          have hX1 := hX1.tr hS1
          refine E_iload d_TM_moveOf_74 rfl ?_
          first | (with_reducible refine E_isN2 ?_; refine E_icmp_eq 84 d_TM_moveOf_76 rfl (nb_eq (by omega) (by omega) fun h76 => ?_) (nb_ne fun h76 => ?_)) | refine E_icmp_eq 84 d_TM_moveOf_76 rfl (fun h76 => ?_) (fun h76 => ?_)
          · first | (with_reducible refine E_isL5 ?_; refine E_iincN5 (m := 1) d_TM_moveOf_84 rfl rfl ?_) | refine E_iinc_5 d_TM_moveOf_84 rfl rfl ?_
            refine E_goto 21 d_TM_moveOf_87 rfl ?_
            first | (rw [if_neg (fun q : c.now.lean p + b ≤ 9 ∧ mvT c p f (c.now.lean p + b) = true => absurd q.1 (by omega))] at hv; exact ih (b + 1) (by omega) (by omega) hv _ hM1 hX1) | (rw [if_neg (fun q : c.now.lean p + b ≤ 9 ∧ mvT c p f (c.now.lean p + b) = true => mvT_f h76 q.2)] at hv; exact ih (b + 1) (by omega) (by omega) hv _ hM1 hX1)
          · refine E_iload_n d_TM_moveOf_79 rfl ?_
            refine E_iload d_TM_moveOf_80 rfl ?_
            first | (with_reducible refine E_isN2 ?_; refine E_iaddN d_TM_moveOf_82 ?_) | refine E_iadd d_TM_moveOf_82 ?_
            refine E_retI d_TM_moveOf_83 rfl ?_
            rw [if_pos (And.intro h61 (mvT_t h76))] at hv; subst hv; exact ⟨rfl, hX1⟩
      · refine E_iload_n d_TM_moveOf_50 rfl ?_
        refine E_iload d_TM_moveOf_51 rfl ?_
        first | (with_reducible refine E_isN2 ?_; refine E_isubN d_TM_moveOf_53 (by omega) ?_) | refine E_isub d_TM_moveOf_53 ?_
        refine E_retI d_TM_moveOf_54 rfl ?_
        rw [if_pos (And.intro hbo (mvT_t h47))] at hv; subst hv; exact ⟨rfl, hX1⟩
    · have hsn := sub_neg (a := c.now.lean p) (b := b) (by omega) (by omega)
      rw [if_neg (fun q : b ≤ c.now.lean p ∧ mvT c p f (c.now.lean p - b) = true => hbo q.1)] at hv
      refine E_iload d_TM_moveOf_21 rfl ?_
      refine E_bipush (v := nI 10) d_TM_moveOf_23 (by decide) ?_
      first | (with_reducible refine E_isN2 ?_; refine E_icmp_ge 90 d_TM_moveOf_25 rfl (nb_le (by omega) (by omega) fun h25 => ?_) (nb_nle (by omega) (by omega) fun h25 => ?_)) | refine E_icmp_ge 90 d_TM_moveOf_25 rfl (fun h25 => ?_) (fun h25 => ?_)
      · exfalso; omega
      refine E_iload_n d_TM_moveOf_28 rfl ?_
      refine E_iload d_TM_moveOf_29 rfl ?_
      first | (with_reducible refine E_isN2 ?_; refine E_isubN d_TM_moveOf_31 (by omega) ?_) | refine E_isub d_TM_moveOf_31 ?_
      first | (with_reducible refine E_isN1 ?_; refine E_if_lt 55 d_TM_moveOf_32 rfl (nz_lt (by omega) fun h32 => ?_) (nz_nlt (by omega) fun h32 => ?_)) | refine E_if_lt 55 d_TM_moveOf_32 rfl (fun h32 => ?_) (fun h32 => ?_)
      rotate_left
      · exfalso; exact h32 hsn
      refine E_iload_n d_TM_moveOf_55 rfl ?_
      refine E_iload d_TM_moveOf_56 rfl ?_
      first | (with_reducible refine E_isN2 ?_; refine E_iaddN d_TM_moveOf_58 ?_) | refine E_iadd d_TM_moveOf_58 ?_
      refine E_bipush (v := nI 9) d_TM_moveOf_59 (by decide) ?_
      first | (with_reducible refine E_isN2 ?_; refine E_icmp_gt 84 d_TM_moveOf_61 rfl (nb_lt (by omega) (by omega) fun h61 => ?_) (nb_nlt (by omega) (by omega) fun h61 => ?_)) | refine E_icmp_gt 84 d_TM_moveOf_61 rfl (fun h61 => ?_) (fun h61 => ?_)
      · first | (with_reducible refine E_isL5 ?_; refine E_iincN5 (m := 1) d_TM_moveOf_84 rfl rfl ?_) | refine E_iinc_5 d_TM_moveOf_84 rfl rfl ?_
        refine E_goto 21 d_TM_moveOf_87 rfl ?_
        first | (rw [if_neg (fun q : c.now.lean p + b ≤ 9 ∧ mvT c p f (c.now.lean p + b) = true => absurd q.1 (by omega))] at hv; exact ih (b + 1) (by omega) (by omega) hv _ hM hX) | (rw [if_neg (fun q : c.now.lean p + b ≤ 9 ∧ mvT c p f (c.now.lean p + b) = true => mvT_f h76 q.2)] at hv; exact ih (b + 1) (by omega) (by omega) hv _ hM hX)
      · first | refine E_aload_n d_TM_moveOf_64 rfl ?_ | refine E_aload_nN d_TM_moveOf_64 rfl ?_
        refine E_iload_n d_TM_moveOf_65 rfl ?_
        refine E_iload_n d_TM_moveOf_66 rfl ?_
        refine E_iload d_TM_moveOf_67 rfl ?_
        first | (with_reducible refine E_isN2 ?_; refine E_iaddN d_TM_moveOf_69 ?_) | refine E_iadd d_TM_moveOf_69 ?_
        refine E_iload_n d_TM_moveOf_70 rfl ?_
        refine E_V3 (sp_TM_saysByLean hM hp (by omega) hf) d_TM_moveOf_71 ml_TM_391 cb_TM_saysByLean cv_TM_saysByLean (by exact ⟨by decide, rfl⟩) ⟨by decide, rfl⟩ ⟨by decide, by decide⟩ rfl (Nat.le_of_ble_eq_true rfl) (Nat.le_of_ble_eq_true rfl) (kI fun r1 M1 hc => ?_)
        obtain ⟨rfl, hS1⟩ := hc
        have hM := hM.sy hS1
        have hX := hX.tr hS1
        refine E_iload d_TM_moveOf_74 rfl ?_
        first | (with_reducible refine E_isN2 ?_; refine E_icmp_eq 84 d_TM_moveOf_76 rfl (nb_eq (by omega) (by omega) fun h76 => ?_) (nb_ne fun h76 => ?_)) | refine E_icmp_eq 84 d_TM_moveOf_76 rfl (fun h76 => ?_) (fun h76 => ?_)
        · first | (with_reducible refine E_isL5 ?_; refine E_iincN5 (m := 1) d_TM_moveOf_84 rfl rfl ?_) | refine E_iinc_5 d_TM_moveOf_84 rfl rfl ?_
          refine E_goto 21 d_TM_moveOf_87 rfl ?_
          first | (rw [if_neg (fun q : c.now.lean p + b ≤ 9 ∧ mvT c p f (c.now.lean p + b) = true => absurd q.1 (by omega))] at hv; exact ih (b + 1) (by omega) (by omega) hv _ hM hX) | (rw [if_neg (fun q : c.now.lean p + b ≤ 9 ∧ mvT c p f (c.now.lean p + b) = true => mvT_f h76 q.2)] at hv; exact ih (b + 1) (by omega) (by omega) hv _ hM hX)
        · refine E_iload_n d_TM_moveOf_79 rfl ?_
          refine E_iload d_TM_moveOf_80 rfl ?_
          first | (with_reducible refine E_isN2 ?_; refine E_iaddN d_TM_moveOf_82 ?_) | refine E_iadd d_TM_moveOf_82 ?_
          refine E_retI d_TM_moveOf_83 rfl ?_
          rw [if_pos (And.intro h61 (mvT_t h76))] at hv; subst hv; exact ⟨rfl, hX⟩
theorem sp_TM_moveOf {c : Cr} {M : Mem} {p f : Nat} (hM : HM c M) (hp : p < c.now.people) (hf : f ≤ 8) : E 6 0 0 Y_TM_moveOf 0 [some (.ref 0), some (.int (nI p)), some (.int (nI f)), none, none, none] [] GM M (QI GM fun r M' => r = wE (moveN c p f) ∧ Sx SY M M') := by
  have hR := hM.R
  have hA := hM.A
  have hp8 := hM.w.p8
  first | refine E_aload_n d_TM_moveOf_0 rfl ?_ | refine E_aload_nN d_TM_moveOf_0 rfl ?_
  refine E_getR (q := 1) d_TM_moveOf_1 gf_TM_7 (by exact ⟨by decide, rfl⟩) (by exact hR _ rfl) ?_
  refine E_bipush (v := nI 10) d_TM_moveOf_4 (by decide) ?_
  refine E_iload_n d_TM_moveOf_6 rfl ?_
  first | (with_reducible refine E_isN2 ?_; refine E_iaddN d_TM_moveOf_7 ?_) | refine E_iadd d_TM_moveOf_7 ?_
  refine E_iald d_TM_moveOf_8 (by exact ⟨by decide, rfl⟩) (by exact ⟨by with_reducible rfl, by omega, by decide⟩) (by first | exact hA.people | exact hA.figure | exact hA.lean (by omega) | exact hN _ (by omega) | rfl) ?_
  refine E_istore_3 d_TM_moveOf_9 rfl ?_
  first | refine E_aload_n d_TM_moveOf_10 rfl ?_ | refine E_aload_nN d_TM_moveOf_10 rfl ?_
  refine E_iload_n d_TM_moveOf_11 rfl ?_
  refine E_iload_n d_TM_moveOf_12 rfl ?_
  refine E_V2 (sp_TM_isYes hM hp hf) d_TM_moveOf_13 ml_TM_299 cb_TM_isYes cv_TM_isYes (by exact ⟨by decide, rfl⟩) ⟨by decide, rfl⟩ ⟨by decide, by decide⟩ rfl (Nat.le_of_ble_eq_true rfl) (Nat.le_of_ble_eq_true rfl) (kI fun r1 M1 hc => ?_)
  obtain ⟨rfl, hS1⟩ := hc
  refine E_istore_4 d_TM_moveOf_16 rfl ?_
  refine E_iconst (v := nI 1) d_TM_moveOf_18 rfl ?_
  refine E_istore_5 d_TM_moveOf_19 rfl ?_
  exact lp_TM_moveOf hp hf _ 9 1 (by omega) (by omega) rfl _ (hM.sy hS1) hS1
theorem sp_TM_move {c : Cr} {M : Mem} (hM : HM c M) (x y : Int32) : E 7 0 0 Y_TM_move 0 [some (.ref 0), some (.int x), some (.int y)] [] GM M (QI GM fun r M' => r = ans_move c x y ∧ Sx SQ M M') := by
  have hp8 := hM.w.p8
  revert x y
  refine args2 c.now.people (c.now.people + 1) (fun k j hk hx ht hj hy ht2 => ?_) (fun x y hx => ?_) (fun x y hx hy => ?_)
  · first | refine E_aload_n d_TM_move_0 rfl ?_ | refine E_aload_nN d_TM_move_0 rfl ?_
    refine E_iload_n d_TM_move_1 rfl ?_
    refine E_V1 (sp_TM_isPerson hM.R hM.A hM.w _) d_TM_move_2 ml_TM_73 cb_TM_isPerson cv_TM_isPerson (by exact ⟨by decide, rfl⟩) ⟨by decide, rfl⟩ ⟨by decide, by decide⟩ rfl (Nat.le_of_ble_eq_true rfl) (Nat.le_of_ble_eq_true rfl) (kI fun r1 M1 hc => ?_)
    obtain ⟨rfl, rfl⟩ := hc
    first | (with_reducible refine E_isP ?_; refine E_if_eq 25 d_TM_move_5 rfl (pb_0 fun h5 => ?_) (pb_1 fun h5 => ?_)) | (with_reducible refine E_isN1 ?_; refine E_if_eq 25 d_TM_move_5 rfl (nz_eq (by omega) fun h5 => ?_) (nz_ne fun h5 => ?_)) | refine E_if_eq 25 d_TM_move_5 rfl (fun h5 => ?_) (fun h5 => ?_)
    · exfalso; exact h5 hx
    first | refine E_aload_n d_TM_move_8 rfl ?_ | refine E_aload_nN d_TM_move_8 rfl ?_
    refine E_iload_n d_TM_move_9 rfl ?_
    refine E_V1 (sp_TM_canBeTold hM.R hM.A hM.w _) d_TM_move_10 ml_TM_311 cb_TM_canBeTold cv_TM_canBeTold (by exact ⟨by decide, rfl⟩) ⟨by decide, rfl⟩ ⟨by decide, by decide⟩ rfl (Nat.le_of_ble_eq_true rfl) (Nat.le_of_ble_eq_true rfl) (kI fun r1 M1 hc => ?_)
    obtain ⟨rfl, rfl⟩ := hc
    first | (with_reducible refine E_isP ?_; refine E_if_eq 25 d_TM_move_13 rfl (pb_0 fun h13 => ?_) (pb_1 fun h13 => ?_)) | (with_reducible refine E_isN1 ?_; refine E_if_eq 25 d_TM_move_13 rfl (nz_eq (by omega) fun h13 => ?_) (nz_ne fun h13 => ?_)) | refine E_if_eq 25 d_TM_move_13 rfl (fun h13 => ?_) (fun h13 => ?_)
    · exfalso; exact h13 hy
    first | refine E_aload_n d_TM_move_16 rfl ?_ | refine E_aload_nN d_TM_move_16 rfl ?_
    refine E_iload_n d_TM_move_17 rfl ?_
    refine E_iload_n d_TM_move_18 rfl ?_
    refine E_V2 (sp_TM_moveOf hM hk (by omega)) d_TM_move_19 ml_TM_394 cb_TM_moveOf cv_TM_moveOf (by exact ⟨by decide, rfl⟩) ⟨by decide, rfl⟩ ⟨by decide, by decide⟩ rfl (Nat.le_of_ble_eq_true rfl) (Nat.le_of_ble_eq_true rfl) (kI fun r1 M1 hc => ?_)
    obtain ⟨rfl, hS1⟩ := hc
    have hS1 := hS1.wk fun _ => SY.q
    refine E_goto 26 d_TM_move_22 rfl ?_
    refine E_retI d_TM_move_26 rfl ?_
    exact ⟨by rw [ans_move, if_pos ⟨hx, hy⟩, ht, ht2], hS1⟩
  · first | refine E_aload_n d_TM_move_0 rfl ?_ | refine E_aload_nN d_TM_move_0 rfl ?_
    refine E_iload_n d_TM_move_1 rfl ?_
    refine E_V1 (sp_TM_isPerson hM.R hM.A hM.w _) d_TM_move_2 ml_TM_73 cb_TM_isPerson cv_TM_isPerson (by exact ⟨by decide, rfl⟩) ⟨by decide, rfl⟩ ⟨by decide, by decide⟩ rfl (Nat.le_of_ble_eq_true rfl) (Nat.le_of_ble_eq_true rfl) (kI fun r1 M1 hc => ?_)
    obtain ⟨rfl, rfl⟩ := hc
    first | (with_reducible refine E_isP ?_; refine E_if_eq 25 d_TM_move_5 rfl (pb_0 fun h5 => ?_) (pb_1 fun h5 => ?_)) | (with_reducible refine E_isN1 ?_; refine E_if_eq 25 d_TM_move_5 rfl (nz_eq (by omega) fun h5 => ?_) (nz_ne fun h5 => ?_)) | refine E_if_eq 25 d_TM_move_5 rfl (fun h5 => ?_) (fun h5 => ?_)
    rotate_left
    · exfalso; exact hx h5
    refine E_iconst (v := (-1)) d_TM_move_25 rfl ?_
    refine E_retI d_TM_move_26 rfl ?_
    exact ⟨by rw [ans_move, if_neg (fun q => hx q.1)], Sx.rf⟩
  · first | refine E_aload_n d_TM_move_0 rfl ?_ | refine E_aload_nN d_TM_move_0 rfl ?_
    refine E_iload_n d_TM_move_1 rfl ?_
    refine E_V1 (sp_TM_isPerson hM.R hM.A hM.w _) d_TM_move_2 ml_TM_73 cb_TM_isPerson cv_TM_isPerson (by exact ⟨by decide, rfl⟩) ⟨by decide, rfl⟩ ⟨by decide, by decide⟩ rfl (Nat.le_of_ble_eq_true rfl) (Nat.le_of_ble_eq_true rfl) (kI fun r1 M1 hc => ?_)
    obtain ⟨rfl, rfl⟩ := hc
    first | (with_reducible refine E_isP ?_; refine E_if_eq 25 d_TM_move_5 rfl (pb_0 fun h5 => ?_) (pb_1 fun h5 => ?_)) | (with_reducible refine E_isN1 ?_; refine E_if_eq 25 d_TM_move_5 rfl (nz_eq (by omega) fun h5 => ?_) (nz_ne fun h5 => ?_)) | refine E_if_eq 25 d_TM_move_5 rfl (fun h5 => ?_) (fun h5 => ?_)
    · exfalso; exact h5 hx
    first | refine E_aload_n d_TM_move_8 rfl ?_ | refine E_aload_nN d_TM_move_8 rfl ?_
    refine E_iload_n d_TM_move_9 rfl ?_
    refine E_V1 (sp_TM_canBeTold hM.R hM.A hM.w _) d_TM_move_10 ml_TM_311 cb_TM_canBeTold cv_TM_canBeTold (by exact ⟨by decide, rfl⟩) ⟨by decide, rfl⟩ ⟨by decide, by decide⟩ rfl (Nat.le_of_ble_eq_true rfl) (Nat.le_of_ble_eq_true rfl) (kI fun r1 M1 hc => ?_)
    obtain ⟨rfl, rfl⟩ := hc
    first | (with_reducible refine E_isP ?_; refine E_if_eq 25 d_TM_move_13 rfl (pb_0 fun h13 => ?_) (pb_1 fun h13 => ?_)) | (with_reducible refine E_isN1 ?_; refine E_if_eq 25 d_TM_move_13 rfl (nz_eq (by omega) fun h13 => ?_) (nz_ne fun h13 => ?_)) | refine E_if_eq 25 d_TM_move_13 rfl (fun h13 => ?_) (fun h13 => ?_)
    rotate_left
    · exfalso; exact hy h13
    refine E_iconst (v := (-1)) d_TM_move_25 rfl ?_
    refine E_retI d_TM_move_26 rfl ?_
    exact ⟨by rw [ans_move, if_neg (fun q => hy q.2)], Sx.rf⟩
