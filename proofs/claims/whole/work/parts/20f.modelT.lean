theorem sp_TM_summedUp {c : Cr} {M : Mem} {t k : Nat} {nm : Nat → Int} {q : Cd × Cd} (hM : HM c M) (ht : t < 4) (hk : k < 24) (hL : RepLaw (some q) (mI M 3) t (681 * t + 1 + 3 * k)) (hw : WC q.1 0 0) (hnm : HNm nm M) (hnz : ∀ i, i < 8 → zM (nm i)) : E 2 0 0 Y_TM_summedUp 0 [some (.ref 0), some (.int (nI t)), some (.int (nI k)), none, none, none, none, none, none, none] [] GM M (QL GM fun r M' => r = iL (worthR q.1 nm c.now) ∧ zM (worthR q.1 nm c.now) ∧ Sx SZ M M') := by
  have hR := hM.R
  obtain ⟨r, i0, hr, g1, g2, hi, hcode⟩ := hL
  have hr2 : q = r := Option.some.inj hr
  subst hr2
  have L := lp_TM_summed (R := worthR q.1 nm c.now) ht hk hcode g2 hi hnm hnz q.1 0 ([], []) (Nat.zero_add _).symm (fun n _ => by rw [Nat.zero_add]) hw (Nat.le_refl _) (Nat.le_refl _) rfl M hM Sx.rf trivial trivial
  refine E_sipush (v := nI 681) d_TM_summedUp_0 (by decide) ?_
  refine E_iload_n d_TM_summedUp_3 rfl ?_
  first | (with_reducible refine E_isN2 ?_; refine E_imulN d_TM_summedUp_4 ?_) | refine E_imul d_TM_summedUp_4 ?_
  refine E_iconst (v := nI 1) d_TM_summedUp_5 rfl ?_
  first | (with_reducible refine E_isN2 ?_; refine E_iaddN d_TM_summedUp_6 ?_) | refine E_iadd d_TM_summedUp_6 ?_
  refine E_iconst (v := nI 3) d_TM_summedUp_7 rfl ?_
  refine E_iload_n d_TM_summedUp_8 rfl ?_
  first | (with_reducible refine E_isN2 ?_; refine E_imulN d_TM_summedUp_9 ?_) | refine E_imul d_TM_summedUp_9 ?_
  first | (with_reducible refine E_isN2 ?_; refine E_iaddN d_TM_summedUp_10 ?_) | refine E_iadd d_TM_summedUp_10 ?_
  refine E_istore_3 d_TM_summedUp_11 rfl ?_
  refine E_sipush (v := nI 681) d_TM_summedUp_12 (by decide) ?_
  refine E_iload_n d_TM_summedUp_15 rfl ?_
  first | (with_reducible refine E_isN2 ?_; refine E_imulN d_TM_summedUp_16 ?_) | refine E_imul d_TM_summedUp_16 ?_
  refine E_bipush (v := nI 73) d_TM_summedUp_17 (by decide) ?_
  first | (with_reducible refine E_isN2 ?_; refine E_iaddN d_TM_summedUp_19 ?_) | refine E_iadd d_TM_summedUp_19 ?_
  refine E_istore_4 d_TM_summedUp_20 rfl ?_
  refine E_iconst (v := nI 0) d_TM_summedUp_22 rfl ?_
  refine E_istore_5 d_TM_summedUp_23 rfl ?_
  refine E_iconst (v := nI 0) d_TM_summedUp_25 rfl ?_
  refine E_istore_6 d_TM_summedUp_26 rfl ?_
  first | refine E_aload_n d_TM_summedUp_28 rfl ?_ | refine E_aload_nN d_TM_summedUp_28 rfl ?_
  refine E_getR (q := 3) d_TM_summedUp_29 gf_TM_16 (by exact ⟨by decide, rfl⟩) (by exact hR _ rfl) ?_
  refine E_iload_n d_TM_summedUp_32 rfl ?_
  refine E_iconst (v := nI 1) d_TM_summedUp_33 rfl ?_
  first | (with_reducible refine E_isN2 ?_; refine E_iaddN d_TM_summedUp_34 ?_) | refine E_iadd d_TM_summedUp_34 ?_
  refine E_iald d_TM_summedUp_35 (by exact ⟨by decide, rfl⟩) (by exact ⟨by with_reducible rfl, by omega, by decide⟩) (by exact g1) ?_
  refine E_istore_7 d_TM_summedUp_36 rfl ?_
  exact L
theorem nm_zM {c : Cr} (h : Wf c) {p f y : Nat} (hp : p < c.now.people) (hf : f ≤ 8) (hy : y ≤ 1) : ∀ i, i < 8 → zM (nmOf c c.now p f y i) := by
  intro i hi
  have h8 : i = 0 ∨ i = 1 ∨ i = 2 ∨ i = 3 ∨ i = 4 ∨ i = 5 ∨ i = 6 ∨ i = 7 := by omega
  have p8 := h.p8
  have k : ∀ n : Nat, n ≤ 1000000 → zM (n : Int) := fun n hn => ⟨by omega, by omega⟩
  have hh : pc9 (c.hears p &&& c.now.answers) ≤ 9 := pc9_le9 (Nat.lt_of_le_of_lt Nat.and_le_left (by have := h.hears8 p; omega))
  rcases h8 with rfl | rfl | rfl | rfl | rfl | rfl | rfl | rfl
  · exact k _ (by have := h.round; omega)
  · exact k p (by omega)
  · exact k _ (by have := h.lean9 p; omega)
  · exact k _ (by have := h.sort3 p; omega)
  · exact k _ (by omega)
  · exact k _ (by omega)
  · exact k f (by omega)
  · exact k y (by omega)
theorem clA_says {x : Tx} (h : WTx x) : (clA x 0 x.clauses.length 0 = 0 ↔ x.says = none) := by
  constructor
  · intro e
    cases hs : x.says with
    | none => rfl
    | some q =>
      obtain ⟨m, h1, h2⟩ := h.2.2.1.mp (by rw [hs]; rfl)
      exact absurd h2 (clA_no _ _ e m (Nat.zero_le _) (by omega))
  · intro e
    apply Decidable.byContradiction
    intro q
    have := clA_at _ _ q
    have h3 := h.2.2.1.mpr ⟨_, by have := this.2.1; omega, this.2.2⟩
    rw [e] at h3
    exact Bool.noConfusion h3
def txO (c : Cr) (t : Option Nat) : Option Tx := t.bind fun t => c.texts[t]?
theorem txO_some {c : Cr} {t : Nat} (h : t < c.texts.length) : txO c (some t) = some (txAt c t) := by
  show c.texts[t]? = _
  rw [List.getElem?_eq_getElem h, txAt, List.getD_eq_getElem?_getD, List.getElem?_eq_getElem h]
  rfl
theorem sp_TM_isYesBy {c : Cr} {M : Mem} {t : Option Nat} {p f : Nat} (hM : HM c M) (ht : ∀ n, t = some n → n < c.texts.length) (hp : p < c.now.people) (hf : f ≤ 8) : E 3 0 0 Y_TM_isYesBy 0 [some (.ref 0), some (.int (enO t)), some (.int (nI p)), some (.int (nI f)), none] [] GM M (QI GM fun r M' => r = pI (isYes c c.now (txO c t) p f = true) ∧ Sx SY M M') := by
  cases t with
  | none =>
    have e : isYes c c.now (txO c none) p f = bySort c c.now p f := rfl
    rw [e]
    rw [show enO none = -1 from rfl]
    first | refine E_aload_n d_TM_isYesBy_0 rfl ?_ | refine E_aload_nN d_TM_isYesBy_0 rfl ?_
    refine E_iload_n d_TM_isYesBy_1 rfl ?_
    refine E_iconst (v := nI 0) d_TM_isYesBy_2 rfl ?_
    refine E_V2 (sp_TM_clauseOf0 hM) d_TM_isYesBy_3 ml_TM_270 cb_TM_clauseOf cv_TM_clauseOf (by exact ⟨by decide, rfl⟩) ⟨by decide, rfl⟩ ⟨by decide, by decide⟩ rfl (Nat.le_of_ble_eq_true rfl) (Nat.le_of_ble_eq_true rfl) (kI fun r1 M1 hc => ?_)
    obtain ⟨rfl, rfl⟩ := hc
    refine E_istore_4 d_TM_isYesBy_6 rfl ?_
    first | refine E_aload_n d_TM_isYesBy_8 rfl ?_ | refine E_aload_nN d_TM_isYesBy_8 rfl ?_
    refine E_iload_n d_TM_isYesBy_9 rfl ?_
    refine E_iload_n d_TM_isYesBy_10 rfl ?_
    refine E_iconst (v := nI 0) d_TM_isYesBy_11 rfl ?_
    refine E_V3 (sp_TM_name hM hp hf (by decide)) d_TM_isYesBy_12 ml_TM_273 cb_TM_name cv_TM_name (by exact ⟨by decide, rfl⟩) ⟨by decide, rfl⟩ ⟨by decide, by decide⟩ rfl (Nat.le_of_ble_eq_true rfl) (Nat.le_of_ble_eq_true rfl) (kV fun M1 hc => ?_)
    obtain ⟨hNm, hS1⟩ := hc
    have hM1 := hM.sy hS1
    refine E_iload d_TM_isYesBy_15 rfl ?_
    refine E_iconst (v := (-1)) d_TM_isYesBy_17 rfl ?_
    first | (with_reducible refine E_isN2 ?_; refine E_icmp_ne 30 d_TM_isYesBy_18 rfl (nb_ne fun h18 => ?_) (nb_eq (by omega) (by omega) fun h18 => ?_)) | refine E_icmp_ne 30 d_TM_isYesBy_18 rfl (fun h18 => ?_) (fun h18 => ?_)
    · exfalso; exact h18 rfl
    first | refine E_aload_n d_TM_isYesBy_21 rfl ?_ | refine E_aload_nN d_TM_isYesBy_21 rfl ?_
    refine E_iload_n d_TM_isYesBy_22 rfl ?_
    refine E_iload_n d_TM_isYesBy_23 rfl ?_
    refine E_V2 (sp_TM_isYesBySort hM1 hp hf) d_TM_isYesBy_24 ml_TM_277 cb_TM_isYesBySort cv_TM_isYesBySort (by exact ⟨by decide, rfl⟩) ⟨by decide, rfl⟩ ⟨by decide, by decide⟩ rfl (Nat.le_of_ble_eq_true rfl) (Nat.le_of_ble_eq_true rfl) (kI fun r1 M1 hc => ?_)
    obtain ⟨rfl, rfl⟩ := hc
    refine E_goto 47 d_TM_isYesBy_27 rfl ?_
    refine E_retZ d_TM_isYesBy_47 rfl (by first | exact pI_01 _ | decide) ?_
    exact ⟨rfl, hS1⟩
  | some t =>
    have ht2 := ht t rfl
    have hw : WTx (txAt c t) := hM.w.text _ (getD_mem ht2)
    have h4 := hM.w.texts
    rw [txO_some ht2, show enO (some t) = nI t from rfl]
    cases hcl : clA (txAt c t) 0 (txAt c t).clauses.length 0 with
    | zero =>
      have hs := (clA_says hw).mp hcl
      have e : isYes c c.now (some (txAt c t)) p f = bySort c c.now p f := by rw [isYes]; show (match (txAt c t).says with | none => _ | some q => _) = _; rw [hs]
      rw [e]
      first | refine E_aload_n d_TM_isYesBy_0 rfl ?_ | refine E_aload_nN d_TM_isYesBy_0 rfl ?_
      refine E_iload_n d_TM_isYesBy_1 rfl ?_
      refine E_iconst (v := nI 0) d_TM_isYesBy_2 rfl ?_
      refine E_V2 (sp_TM_clauseOf hM ht2 (by decide)) d_TM_isYesBy_3 ml_TM_270 cb_TM_clauseOf cv_TM_clauseOf (by exact ⟨by decide, rfl⟩) ⟨by decide, rfl⟩ ⟨by decide, by decide⟩ rfl (Nat.le_of_ble_eq_true rfl) (Nat.le_of_ble_eq_true rfl) (kI fun r1 M1 hc => ?_)
      obtain ⟨rfl, rfl⟩ := hc; rw [hcl]
      refine E_istore_4 d_TM_isYesBy_6 rfl ?_
      first | refine E_aload_n d_TM_isYesBy_8 rfl ?_ | refine E_aload_nN d_TM_isYesBy_8 rfl ?_
      refine E_iload_n d_TM_isYesBy_9 rfl ?_
      refine E_iload_n d_TM_isYesBy_10 rfl ?_
      refine E_iconst (v := nI 0) d_TM_isYesBy_11 rfl ?_
      refine E_V3 (sp_TM_name hM hp hf (by decide)) d_TM_isYesBy_12 ml_TM_273 cb_TM_name cv_TM_name (by exact ⟨by decide, rfl⟩) ⟨by decide, rfl⟩ ⟨by decide, by decide⟩ rfl (Nat.le_of_ble_eq_true rfl) (Nat.le_of_ble_eq_true rfl) (kV fun M1 hc => ?_)
      obtain ⟨hNm, hS1⟩ := hc
      have hM1 := hM.sy hS1
      refine E_iload d_TM_isYesBy_15 rfl ?_
      refine E_iconst (v := (-1)) d_TM_isYesBy_17 rfl ?_
      first | (with_reducible refine E_isN2 ?_; refine E_icmp_ne 30 d_TM_isYesBy_18 rfl (nb_ne fun h18 => ?_) (nb_eq (by omega) (by omega) fun h18 => ?_)) | refine E_icmp_ne 30 d_TM_isYesBy_18 rfl (fun h18 => ?_) (fun h18 => ?_)
      · exfalso; exact h18 rfl
      first | refine E_aload_n d_TM_isYesBy_21 rfl ?_ | refine E_aload_nN d_TM_isYesBy_21 rfl ?_
      refine E_iload_n d_TM_isYesBy_22 rfl ?_
      refine E_iload_n d_TM_isYesBy_23 rfl ?_
      refine E_V2 (sp_TM_isYesBySort hM1 hp hf) d_TM_isYesBy_24 ml_TM_277 cb_TM_isYesBySort cv_TM_isYesBySort (by exact ⟨by decide, rfl⟩) ⟨by decide, rfl⟩ ⟨by decide, by decide⟩ rfl (Nat.le_of_ble_eq_true rfl) (Nat.le_of_ble_eq_true rfl) (kI fun r1 M1 hc => ?_)
      obtain ⟨rfl, rfl⟩ := hc
      refine E_goto 47 d_TM_isYesBy_27 rfl ?_
      refine E_retZ d_TM_isYesBy_47 rfl (by first | exact pI_01 _ | decide) ?_
      exact ⟨rfl, hS1⟩
    | succ k =>
      have hat := clA_at _ _ (show clA (txAt c t) 0 (txAt c t).clauses.length 0 ≠ 0 by rw [hcl]; exact Nat.succ_ne_zero _)
      rw [hcl, Nat.add_sub_cancel] at hat
      have hk24 := hw.1
      have hs : ∃ q, (txAt c t).says = some q := by
        cases hs : (txAt c t).says with
        | none => rw [(clA_says hw).mpr hs] at hcl; exact absurd hcl (by omega)
        | some q => exact ⟨q, rfl⟩
      obtain ⟨q, hs⟩ := hs
      have e : isYes c c.now (some (txAt c t)) p f = decide (0 < worthR q.1 (nmOf c c.now p f 0) c.now) := by rw [isYes]; show (match (txAt c t).says with | none => _ | some q => _) = _; rw [hs]
      rw [e]
      have hk1 : k < (txAt c t).clauses.length := by have := hat.2.1; omega
      have z0 : zB 0 := ⟨by decide, by decide⟩
      have k1 : ∀ z : Int, zB z → ¬ lg_cmp (iL z) (lN 0) ≤ 0 → nI 1 = pI (decide (0 < z) = true) := fun z hz h => by
        rw [lN_iL] at h
        have h2 : ¬ z ≤ 0 := fun q => h ((lc_le hz z0).mpr q)
        exact (pI_t (decide_eq_true (by omega))).symm
      have k0 : ∀ z : Int, zB z → lg_cmp (iL z) (lN 0) ≤ 0 → nI 0 = pI (decide (0 < z) = true) := fun z hz h => by
        rw [lN_iL] at h
        have h2 : z ≤ 0 := (lc_le hz z0).mp h
        exact (pI_f (fun q => by have := of_decide_eq_true q; omega)).symm
      first | refine E_aload_n d_TM_isYesBy_0 rfl ?_ | refine E_aload_nN d_TM_isYesBy_0 rfl ?_
      refine E_iload_n d_TM_isYesBy_1 rfl ?_
      refine E_iconst (v := nI 0) d_TM_isYesBy_2 rfl ?_
      refine E_V2 (sp_TM_clauseOf hM ht2 (by decide)) d_TM_isYesBy_3 ml_TM_270 cb_TM_clauseOf cv_TM_clauseOf (by exact ⟨by decide, rfl⟩) ⟨by decide, rfl⟩ ⟨by decide, by decide⟩ rfl (Nat.le_of_ble_eq_true rfl) (Nat.le_of_ble_eq_true rfl) (kI fun r1 M1 hc => ?_)
      obtain ⟨rfl, rfl⟩ := hc; rw [hcl, show pM (k + 1) = nI k from rfl]
      refine E_istore_4 d_TM_isYesBy_6 rfl ?_
      first | refine E_aload_n d_TM_isYesBy_8 rfl ?_ | refine E_aload_nN d_TM_isYesBy_8 rfl ?_
      refine E_iload_n d_TM_isYesBy_9 rfl ?_
      refine E_iload_n d_TM_isYesBy_10 rfl ?_
      refine E_iconst (v := nI 0) d_TM_isYesBy_11 rfl ?_
      refine E_V3 (sp_TM_name hM hp hf (by decide)) d_TM_isYesBy_12 ml_TM_273 cb_TM_name cv_TM_name (by exact ⟨by decide, rfl⟩) ⟨by decide, rfl⟩ ⟨by decide, by decide⟩ rfl (Nat.le_of_ble_eq_true rfl) (Nat.le_of_ble_eq_true rfl) (kV fun M1 hc => ?_)
      obtain ⟨hNm, hS1⟩ := hc
      have hM1 := hM.sy hS1
      have hL0 : RepLaw (txAt c t).says (mI M1 3) t (681 * t + 1 + 3 * k) := ((hM1.T t ht2).2 k hk1).2.1 hat.2.2
      rw [hs] at hL0
      refine E_iload d_TM_isYesBy_15 rfl ?_
      refine E_iconst (v := (-1)) d_TM_isYesBy_17 rfl ?_
      first | (with_reducible refine E_isN2 ?_; refine E_icmp_ne 30 d_TM_isYesBy_18 rfl (nb_ne fun h18 => ?_) (nb_eq (by omega) (by omega) fun h18 => ?_)) | refine E_icmp_ne 30 d_TM_isYesBy_18 rfl (fun h18 => ?_) (fun h18 => ?_)
      rotate_left
      · exfalso; exact nI_nm1 (by omega) h18
      first | refine E_aload_n d_TM_isYesBy_30 rfl ?_ | refine E_aload_nN d_TM_isYesBy_30 rfl ?_
      refine E_iload_n d_TM_isYesBy_31 rfl ?_
      refine E_iload d_TM_isYesBy_32 rfl ?_
      refine E_V2 (sp_TM_summedUp hM1 (by omega) (by omega) hL0 (hw.2.2.2.2.1 q hs) hNm (nm_zM hM.w hp hf (by decide))) d_TM_isYesBy_34 ml_TM_280 cb_TM_summedUp cv_TM_summedUp (by exact ⟨by decide, rfl⟩) ⟨by decide, rfl⟩ ⟨by decide, by decide⟩ rfl (Nat.le_of_ble_eq_true rfl) (Nat.le_of_ble_eq_true rfl) (kL fun r1 M1 hc => ?_)
      obtain ⟨rfl, hzR, hS2⟩ := hc
      have hS3 := hS1.tr (hS2.wk fun _ => SZ.y)
      refine E_lconst (v := lN 0) d_TM_isYesBy_37 rfl ?_
      refine E_lcmp d_TM_isYesBy_38 ?_
      first | (with_reducible refine E_isN1 ?_; refine E_if_le 46 d_TM_isYesBy_39 rfl (nz_le (by omega) fun h39 => ?_) (nz_nle (by omega) fun h39 => ?_)) | refine E_if_le 46 d_TM_isYesBy_39 rfl (fun h39 => ?_) (fun h39 => ?_)
      · refine E_iconst (v := nI 0) d_TM_isYesBy_46 rfl ?_
        refine E_retZ d_TM_isYesBy_47 rfl (by first | exact pI_01 _ | decide) ?_
        first | exact ⟨k1 _ hzR.b h39, hS3⟩ | exact ⟨k0 _ hzR.b h39, hS3⟩
      · refine E_iconst (v := nI 1) d_TM_isYesBy_42 rfl ?_
        refine E_goto 47 d_TM_isYesBy_43 rfl ?_
        refine E_retZ d_TM_isYesBy_47 rfl (by first | exact pI_01 _ | decide) ?_
        first | exact ⟨k1 _ hzR.b h39, hS3⟩ | exact ⟨k0 _ hzR.b h39, hS3⟩
theorem sp_TM_isYes {c : Cr} {M : Mem} (hM : HM c M) {p f : Nat} (hp : p < c.now.people) (hf : f ≤ 8) : E 4 0 0 Y_TM_isYes 0 [some (.ref 0), some (.int (nI p)), some (.int (nI f))] [] GM M (QI GM fun r M' => r = pI (isYes c c.now (ruler c) p f = true) ∧ Sx SY M M') := by
  have hR := hM.R
  have hA := hM.A
  first | refine E_aload_n d_TM_isYes_0 rfl ?_ | refine E_aload_nN d_TM_isYes_0 rfl ?_
  first | refine E_aload_n d_TM_isYes_1 rfl ?_ | refine E_aload_nN d_TM_isYes_1 rfl ?_
  refine E_getR (q := 1) d_TM_isYes_2 gf_TM_7 (by exact ⟨by decide, rfl⟩) (by exact hR _ rfl) ?_
  refine E_iconst (v := nI 2) d_TM_isYes_5 rfl ?_
  refine E_iald d_TM_isYes_6 (by exact ⟨by decide, rfl⟩) (by exact ⟨by with_reducible rfl, by omega, by decide⟩) (by first | exact hA.people | exact hA.ruling | rfl) ?_
  refine E_iload_n d_TM_isYes_7 rfl ?_
  refine E_iload_n d_TM_isYes_8 rfl ?_
  refine E_V3 (sp_TM_isYesBy hM hM.w.ruling hp hf) d_TM_isYes_9 ml_TM_283 cb_TM_isYesBy cv_TM_isYesBy (by exact ⟨by decide, rfl⟩) ⟨by decide, rfl⟩ ⟨by decide, by decide⟩ rfl (Nat.le_of_ble_eq_true rfl) (Nat.le_of_ble_eq_true rfl) (kI fun r1 M1 hc => ?_)
  obtain ⟨rfl, hS1⟩ := hc
  refine E_retZ d_TM_isYes_12 rfl (by first | exact pI_01 _ | decide) ?_
  exact ⟨rfl, hS1⟩
