theorem sp_TM_tillRing {c : Cr} {M : Mem} (hR : MR M) (hN : HN c M) (hp8 : c.now.people ≤ 8) {f : Nat} (hf : f ≤ c.now.people) : E 2 0 0 Y_TM_tillRing 0 [some (.ref 0), some (.int (nI f)), none] [] GM M (QI GM fun r M' => r = nI (tillN (cm c) f) ∧ M' = M) := by
  refine E_iconst (v := nI 0) d_TM_tillRing_0 rfl ?_
  refine E_istore_2 d_TM_tillRing_1 rfl ?_
  exact lp_TM_tillRing hR hN hp8 hf (ring_ex hp8 (cm_le c) hf) 10 0 (by omega) (fun i hi => absurd hi (Nat.not_lt_zero i))
theorem tillA_le (g : Nat → Nat) (f : Nat) : ∀ k n, tillA g f k n ≤ n + k := by
  intro k
  induction k with
  | zero => intro n; exact Nat.le_refl _
  | succ k ih =>
    intro n
    rw [tillA]
    split
    · have := ih (n + 1); omega
    · omega
theorem sp_TM_ends {c : Cr} {M : Mem} (hM : HM c M) (x z : Int32) : E 8 0 0 Y_TM_ends 0 [some (.ref 0), some (.int x), some (.int z), none] [] GM M (QI GM fun r M' => r = ans_ends c x z ∧ Sx SQ M M') := by
  have hp8 := hM.w.p8
  revert x
  refine args1 (c.now.people + 1) (fun k hk hx ht => ?_) (fun x hx => ?_)
  · have ht9 : tillN (cm c) k ≤ 10 := by have := tillA_le (cm c) k 10 0; unfold tillN; omega
    have he : endF c k ≤ c.now.people := itn_le (cm_le c) (by omega) _
    have hz := ringSz_le (cm c) (endF c k)
    have hex : ringSz (cm c) (endF c k) ≠ 0 := by
      have key : ∀ j n, n + j = 10 → (∀ i, i < n → ringSz (cm c) (itn (cm c) i k) = 0) → ringSz (cm c) (itn (cm c) (tillA (cm c) k j n) k) ≠ 0 := by
        intro j
        induction j with
        | zero =>
          intro n hn h1
          obtain ⟨i, hi, h2⟩ := ring_ex hp8 (cm_le c) (show k ≤ c.now.people by omega)
          exact absurd (h1 i (by omega)) h2
        | succ j ih =>
          intro n hn h1
          rw [tillA]
          split
          · next h0 => exact ih (n + 1) (by omega) (fun i hi => (Nat.lt_or_ge i n).elim (h1 i) (fun q => by rw [show i = n by omega]; exact h0))
          · next h0 => exact h0
      exact key 10 0 rfl (fun i hi => absurd hi (Nat.not_lt_zero i))
    first | refine E_aload_n d_TM_ends_0 rfl ?_ | refine E_aload_nN d_TM_ends_0 rfl ?_
    refine E_iload_n d_TM_ends_1 rfl ?_
    refine E_V1 (sp_TM_canBeTold hM.R hM.A hM.w _) d_TM_ends_2 ml_TM_311 cb_TM_canBeTold cv_TM_canBeTold (by exact ⟨by decide, rfl⟩) ⟨by decide, rfl⟩ ⟨by decide, by decide⟩ rfl (Nat.le_of_ble_eq_true rfl) (Nat.le_of_ble_eq_true rfl) (kI fun r1 M1 hc => ?_)
    obtain ⟨rfl, rfl⟩ := hc
    first | (with_reducible refine E_isP ?_; refine E_if_ne 10 d_TM_ends_5 rfl (pb_1 fun h5 => ?_) (pb_0 fun h5 => ?_)) | (with_reducible refine E_isN1 ?_; refine E_if_ne 10 d_TM_ends_5 rfl (nz_ne fun h5 => ?_) (nz_eq (by omega) fun h5 => ?_)) | refine E_if_ne 10 d_TM_ends_5 rfl (fun h5 => ?_) (fun h5 => ?_)
    rotate_left
    · exfalso; exact h5 hx
    first | refine E_aload_n d_TM_ends_10 rfl ?_ | refine E_aload_nN d_TM_ends_10 rfl ?_
    refine E_V0 (sp_TM_layNext hM) d_TM_ends_11 ml_TM_362 cb_TM_layNext cv_TM_layNext (by exact ⟨by decide, rfl⟩) ⟨by decide, rfl⟩ ⟨by decide, by decide⟩ rfl (Nat.le_of_ble_eq_true rfl) (Nat.le_of_ble_eq_true rfl) (kV fun M1 hc => ?_)
    obtain ⟨hN, hS1⟩ := hc
    have hR := hM.R.sx hS1
    first | refine E_aload_n d_TM_ends_14 rfl ?_ | refine E_aload_nN d_TM_ends_14 rfl ?_
    refine E_iload_n d_TM_ends_15 rfl ?_
    first | refine E_aload_n d_TM_ends_16 rfl ?_ | refine E_aload_nN d_TM_ends_16 rfl ?_
    refine E_iload_n d_TM_ends_17 rfl ?_
    refine E_V1 (sp_TM_tillRing hR hN hp8 (by omega)) d_TM_ends_18 ml_TM_365 cb_TM_tillRing cv_TM_tillRing (by exact ⟨by decide, rfl⟩) ⟨by decide, rfl⟩ ⟨by decide, by decide⟩ rfl (Nat.le_of_ble_eq_true rfl) (Nat.le_of_ble_eq_true rfl) (kI fun r1 M1 hc => ?_)
    obtain ⟨rfl, rfl⟩ := hc
    refine E_V2 (sp_TM_behind hR hN hp8 (by omega) (by omega)) d_TM_ends_21 ml_TM_356 cb_TM_behind cv_TM_behind (by exact ⟨by decide, rfl⟩) ⟨by decide, rfl⟩ ⟨by decide, by decide⟩ rfl (Nat.le_of_ble_eq_true rfl) (Nat.le_of_ble_eq_true rfl) (kI fun r1 M1 hc => ?_)
    obtain ⟨rfl, rfl⟩ := hc
    refine E_istore_3 d_TM_ends_24 rfl ?_
    refine E_iload_n d_TM_ends_25 rfl ?_
    first | (with_reducible refine E_isP ?_; refine E_if_eq 37 d_TM_ends_26 rfl (pb_0 fun h26 => ?_) (pb_1 fun h26 => ?_)) | (with_reducible refine E_isN1 ?_; refine E_if_eq 37 d_TM_ends_26 rfl (nz_eq (by omega) fun h26 => ?_) (nz_ne fun h26 => ?_)) | refine E_if_eq 37 d_TM_ends_26 rfl (fun h26 => ?_) (fun h26 => ?_)
    · first | refine E_aload_n d_TM_ends_37 rfl ?_ | refine E_aload_nN d_TM_ends_37 rfl ?_
      refine E_iload_n d_TM_ends_38 rfl ?_
      refine E_V1 (sp_TM_lowest hR hN hp8 he) d_TM_ends_39 ml_TM_368 cb_TM_lowestOfRing cv_TM_lowestOfRing (by exact ⟨by decide, rfl⟩) ⟨by decide, rfl⟩ ⟨by decide, by decide⟩ rfl (Nat.le_of_ble_eq_true rfl) (Nat.le_of_ble_eq_true rfl) (kI fun r1 M1 hc => ?_)
      obtain ⟨rfl, rfl⟩ := hc
      refine E_retI d_TM_ends_42 rfl ?_
      exact ⟨by first | (rw [ans_ends, if_pos hx, ht, if_pos (by assumption)]) | (rw [ans_ends, if_pos hx, ht, if_neg (by assumption), enZ, if_neg hex]), hS1⟩
    · first | refine E_aload_n d_TM_ends_29 rfl ?_ | refine E_aload_nN d_TM_ends_29 rfl ?_
      refine E_iload_n d_TM_ends_30 rfl ?_
      refine E_V1 (sp_TM_ringOf hR hN hp8 he) d_TM_ends_31 ml_TM_359 cb_TM_ringOf cv_TM_ringOf (by exact ⟨by decide, rfl⟩) ⟨by decide, rfl⟩ ⟨by decide, by decide⟩ rfl (Nat.le_of_ble_eq_true rfl) (Nat.le_of_ble_eq_true rfl) (kI fun r1 M1 hc => ?_)
      obtain ⟨rfl, rfl⟩ := hc
      refine E_goto 42 d_TM_ends_34 rfl ?_
      refine E_retI d_TM_ends_42 rfl ?_
      exact ⟨by first | (rw [ans_ends, if_pos hx, ht, if_pos (by assumption)]) | (rw [ans_ends, if_pos hx, ht, if_neg (by assumption), enZ, if_neg hex]), hS1⟩
  · first | refine E_aload_n d_TM_ends_0 rfl ?_ | refine E_aload_nN d_TM_ends_0 rfl ?_
    refine E_iload_n d_TM_ends_1 rfl ?_
    refine E_V1 (sp_TM_canBeTold hM.R hM.A hM.w _) d_TM_ends_2 ml_TM_311 cb_TM_canBeTold cv_TM_canBeTold (by exact ⟨by decide, rfl⟩) ⟨by decide, rfl⟩ ⟨by decide, by decide⟩ rfl (Nat.le_of_ble_eq_true rfl) (Nat.le_of_ble_eq_true rfl) (kI fun r1 M1 hc => ?_)
    obtain ⟨rfl, rfl⟩ := hc
    first | (with_reducible refine E_isP ?_; refine E_if_ne 10 d_TM_ends_5 rfl (pb_1 fun h5 => ?_) (pb_0 fun h5 => ?_)) | (with_reducible refine E_isN1 ?_; refine E_if_ne 10 d_TM_ends_5 rfl (nz_ne fun h5 => ?_) (nz_eq (by omega) fun h5 => ?_)) | refine E_if_ne 10 d_TM_ends_5 rfl (fun h5 => ?_) (fun h5 => ?_)
    · exfalso; exact hx h5
    refine E_iconst (v := (-1)) d_TM_ends_8 rfl ?_
    refine E_retI d_TM_ends_9 rfl ?_
    exact ⟨by rw [ans_ends, if_neg hx], Sx.rf⟩
theorem sp_TM_till {c : Cr} {M : Mem} (hM : HM c M) (x : Int32) : E 8 0 0 Y_TM_till 0 [some (.ref 0), some (.int x)] [] GM M (QI GM fun r M' => r = ans_till c x ∧ Sx SQ M M') := by
  have hp8 := hM.w.p8
  revert x
  refine args1 (c.now.people + 1) (fun k hk hx ht => ?_) (fun x hx => ?_)
  · first | refine E_aload_n d_TM_till_0 rfl ?_ | refine E_aload_nN d_TM_till_0 rfl ?_
    refine E_iload_n d_TM_till_1 rfl ?_
    refine E_V1 (sp_TM_canBeTold hM.R hM.A hM.w _) d_TM_till_2 ml_TM_311 cb_TM_canBeTold cv_TM_canBeTold (by exact ⟨by decide, rfl⟩) ⟨by decide, rfl⟩ ⟨by decide, by decide⟩ rfl (Nat.le_of_ble_eq_true rfl) (Nat.le_of_ble_eq_true rfl) (kI fun r1 M1 hc => ?_)
    obtain ⟨rfl, rfl⟩ := hc
    first | (with_reducible refine E_isP ?_; refine E_if_ne 10 d_TM_till_5 rfl (pb_1 fun h5 => ?_) (pb_0 fun h5 => ?_)) | (with_reducible refine E_isN1 ?_; refine E_if_ne 10 d_TM_till_5 rfl (nz_ne fun h5 => ?_) (nz_eq (by omega) fun h5 => ?_)) | refine E_if_ne 10 d_TM_till_5 rfl (fun h5 => ?_) (fun h5 => ?_)
    rotate_left
    · exfalso; exact h5 hx
    first | refine E_aload_n d_TM_till_10 rfl ?_ | refine E_aload_nN d_TM_till_10 rfl ?_
    refine E_V0 (sp_TM_layNext hM) d_TM_till_11 ml_TM_362 cb_TM_layNext cv_TM_layNext (by exact ⟨by decide, rfl⟩) ⟨by decide, rfl⟩ ⟨by decide, by decide⟩ rfl (Nat.le_of_ble_eq_true rfl) (Nat.le_of_ble_eq_true rfl) (kV fun M1 hc => ?_)
    obtain ⟨hN, hS1⟩ := hc
    have hR := hM.R.sx hS1
    first | refine E_aload_n d_TM_till_14 rfl ?_ | refine E_aload_nN d_TM_till_14 rfl ?_
    refine E_iload_n d_TM_till_15 rfl ?_
    refine E_V1 (sp_TM_tillRing hR hN hp8 (by omega)) d_TM_till_16 ml_TM_365 cb_TM_tillRing cv_TM_tillRing (by exact ⟨by decide, rfl⟩) ⟨by decide, rfl⟩ ⟨by decide, by decide⟩ rfl (Nat.le_of_ble_eq_true rfl) (Nat.le_of_ble_eq_true rfl) (kI fun r1 M1 hc => ?_)
    obtain ⟨rfl, rfl⟩ := hc
    refine E_retI d_TM_till_19 rfl ?_
    exact ⟨by rw [ans_till, if_pos hx, ht], hS1⟩
  · first | refine E_aload_n d_TM_till_0 rfl ?_ | refine E_aload_nN d_TM_till_0 rfl ?_
    refine E_iload_n d_TM_till_1 rfl ?_
    refine E_V1 (sp_TM_canBeTold hM.R hM.A hM.w _) d_TM_till_2 ml_TM_311 cb_TM_canBeTold cv_TM_canBeTold (by exact ⟨by decide, rfl⟩) ⟨by decide, rfl⟩ ⟨by decide, by decide⟩ rfl (Nat.le_of_ble_eq_true rfl) (Nat.le_of_ble_eq_true rfl) (kI fun r1 M1 hc => ?_)
    obtain ⟨rfl, rfl⟩ := hc
    first | (with_reducible refine E_isP ?_; refine E_if_ne 10 d_TM_till_5 rfl (pb_1 fun h5 => ?_) (pb_0 fun h5 => ?_)) | (with_reducible refine E_isN1 ?_; refine E_if_ne 10 d_TM_till_5 rfl (nz_ne fun h5 => ?_) (nz_eq (by omega) fun h5 => ?_)) | refine E_if_ne 10 d_TM_till_5 rfl (fun h5 => ?_) (fun h5 => ?_)
    · exfalso; exact hx h5
    refine E_iconst (v := (-1)) d_TM_till_8 rfl ?_
    refine E_retI d_TM_till_9 rfl ?_
    exact ⟨by rw [ans_till, if_neg hx], Sx.rf⟩
theorem lp_TM_leadsI {c : Cr} {M : Mem} {M0 : Mem} {x f : Nat} {S0 : Nat} (hM : HM c M) (hN : HN c M) (hf : f ≤ c.now.people) (hx : x ≤ c.now.people) (hS0 : S0 < 512)
    (K : E 8 0 0 Y_TM_leads 61 [some (.ref 0), some (.int (nI x)), some (.int (nI (if leadB (cm c) x f 10 = true then S0 ||| 2 ^ f else S0))), some (.int (nI f)), some (.int (nI 10))] [] GM M (QI GM fun r M' => r = ans_leads c (nI x) ∧ Sx SQ M0 M')) :
    ∀ (j n : Nat), n + j = 10 → E 8 0 0 Y_TM_leads 31 [some (.ref 0), some (.int (nI x)), some (.int (nI (if leadB (cm c) x f n = true then S0 ||| 2 ^ f else S0))), some (.int (nI f)), some (.int (nI n))] [] GM M (QI GM fun r M' => r = ans_leads c (nI x) ∧ Sx SQ M0 M') := by
  have hR := hM.R
  have hA := hM.A
  have hp8 := hM.w.p8
  intro j
  induction j with
  | zero =>
    intro n hn
    have hn10 : n = 10 := by omega
    subst hn10
    refine E_iload d_TM_leads_31 rfl ?_
    refine E_bipush (v := nI 9) d_TM_leads_33 (by decide) ?_
    first | (with_reducible refine E_isN2 ?_; refine E_icmp_gt 61 d_TM_leads_35 rfl (nb_lt (by omega) (by omega) fun h35 => ?_) (nb_nlt (by omega) (by omega) fun h35 => ?_)) | refine E_icmp_gt 61 d_TM_leads_35 rfl (fun h35 => ?_) (fun h35 => ?_)
    rotate_left
    · exfalso; omega
    exact K
  | succ j ih =>
    intro n hn
    have hi := itn_le (cm_le c) hf n
    refine E_iload d_TM_leads_31 rfl ?_
    refine E_bipush (v := nI 9) d_TM_leads_33 (by decide) ?_
    first | (with_reducible refine E_isN2 ?_; refine E_icmp_gt 61 d_TM_leads_35 rfl (nb_lt (by omega) (by omega) fun h35 => ?_) (nb_nlt (by omega) (by omega) fun h35 => ?_)) | refine E_icmp_gt 61 d_TM_leads_35 rfl (fun h35 => ?_) (fun h35 => ?_)
    · exfalso; omega
    first | refine E_aload_n d_TM_leads_38 rfl ?_ | refine E_aload_nN d_TM_leads_38 rfl ?_
    refine E_iload_n d_TM_leads_39 rfl ?_
    refine E_iload d_TM_leads_40 rfl ?_
    refine E_V2 (sp_TM_behind hR hN hp8 hf (by omega)) d_TM_leads_42 ml_TM_356 cb_TM_behind cv_TM_behind (by exact ⟨by decide, rfl⟩) ⟨by decide, rfl⟩ ⟨by decide, by decide⟩ rfl (Nat.le_of_ble_eq_true rfl) (Nat.le_of_ble_eq_true rfl) (kI fun r1 M1 hc => ?_)
    obtain ⟨rfl, rfl⟩ := hc
    refine E_iload_n d_TM_leads_45 rfl ?_
    first | (with_reducible refine E_isN2 ?_; refine E_icmp_ne 55 d_TM_leads_46 rfl (nb_ne fun h46 => ?_) (nb_eq (by omega) (by omega) fun h46 => ?_)) | refine E_icmp_ne 55 d_TM_leads_46 rfl (fun h46 => ?_) (fun h46 => ?_)
    · first | (with_reducible refine E_isL4 ?_; refine E_iincN4 (m := 1) d_TM_leads_55 rfl rfl ?_) | refine E_iinc_4 d_TM_leads_55 rfl rfl ?_
      refine E_goto 31 d_TM_leads_58 rfl ?_
      refine E_eqL ?_ (ih (n + 1) (by omega))
      rw [leadB]
      by_cases hb : leadB (cm c) x f n = true
      · simp [hb, h46, Nat.or_assoc]
      · simp [hb, h46]
    · refine E_iload_n d_TM_leads_49 rfl ?_
      refine E_iconst (v := nI 1) d_TM_leads_50 rfl ?_
      refine E_iload_n d_TM_leads_51 rfl ?_
      first | (with_reducible refine E_isN2 ?_; first | refine E_ishl1 d_TM_leads_52 (by omega) ?_ | refine E_ishlN d_TM_leads_52 (by omega) (by omega) ?_) | refine E_ishl d_TM_leads_52 ?_
      first | (with_reducible refine E_isN2 ?_; refine E_iorN d_TM_leads_53 ?_) | refine E_ior d_TM_leads_53 ?_
      refine E_istore_2 d_TM_leads_54 rfl ?_
      first | (with_reducible refine E_isL4 ?_; refine E_iincN4 (m := 1) d_TM_leads_55 rfl rfl ?_) | refine E_iinc_4 d_TM_leads_55 rfl rfl ?_
      refine E_goto 31 d_TM_leads_58 rfl ?_
      refine E_eqL ?_ (ih (n + 1) (by omega))
      rw [leadB]
      by_cases hb : leadB (cm c) x f n = true
      · simp [hb, h46, Nat.or_assoc]
      · simp [hb, h46]
theorem lp_TM_leads {c : Cr} {M : Mem} {M0 : Mem} {x : Nat} (hM : HM c M) (hN : HN c M) (hS : Sx SQ M0 M) (hx : x ≤ c.now.people) :
    ∀ (j f : Nat), f + j = c.now.people + 1 → ∀ y, E 8 0 0 Y_TM_leads 18 [some (.ref 0), some (.int (nI x)), some (.int (nI (bset (fun f => leadB (cm c) x f 10) f))), some (.int (nI f)), y] [] GM M (QI GM fun r M' => r = ans_leads c (nI x) ∧ Sx SQ M0 M') := by
  have hR := hM.R
  have hA := hM.A
  have hp8 := hM.w.p8
  intro j
  induction j with
  | zero =>
    intro f hf y
    refine E_iload_n d_TM_leads_18 rfl ?_
    first | refine E_aload_n d_TM_leads_19 rfl ?_ | refine E_aload_nN d_TM_leads_19 rfl ?_
    refine E_getR (q := 1) d_TM_leads_20 gf_TM_7 (by exact ⟨by decide, rfl⟩) (by exact hR _ rfl) ?_
    refine E_iconst (v := nI 0) d_TM_leads_23 rfl ?_
    refine E_iald d_TM_leads_24 (by exact ⟨by decide, rfl⟩) (by exact ⟨by with_reducible rfl, by omega, by decide⟩) (by first | exact hA.people | exact hA.figure | exact hA.lean (by omega) | exact hN _ (by omega) | rfl) ?_
    first | (with_reducible refine E_isN2 ?_; refine E_icmp_gt 67 d_TM_leads_25 rfl (nb_lt (by omega) (by omega) fun h25 => ?_) (nb_nlt (by omega) (by omega) fun h25 => ?_)) | refine E_icmp_gt 67 d_TM_leads_25 rfl (fun h25 => ?_) (fun h25 => ?_)
    rotate_left
    · exfalso; omega
    refine E_iload_n d_TM_leads_67 rfl ?_
    refine E_retI d_TM_leads_68 rfl ?_
    exact ⟨by rw [ans_leads, if_pos ((inN_nI (by omega)).mpr (by omega)), tN_nI (by omega), ← hf, Nat.add_zero], hS⟩
  | succ j ih =>
    intro f hf y
    have hb := bset_lt512 (fun f => leadB (cm c) x f 10) (n := f) (by omega)
    have K : E 8 0 0 Y_TM_leads 61 [some (.ref 0), some (.int (nI x)), some (.int (nI (if leadB (cm c) x f 10 = true then bset (fun f => leadB (cm c) x f 10) f ||| 2 ^ f else bset (fun f => leadB (cm c) x f 10) f))), some (.int (nI f)), some (.int (nI 10))] [] GM M (QI GM fun r M' => r = ans_leads c (nI x) ∧ Sx SQ M0 M') := by
      first | (with_reducible refine E_isL3 ?_; refine E_iincN3 (m := 1) d_TM_leads_61 rfl rfl ?_) | refine E_iinc_3 d_TM_leads_61 rfl rfl ?_
      refine E_goto 18 d_TM_leads_64 rfl ?_
      refine E_eqL ?_ (ih (f + 1) (by omega) (some (.int (nI 10))))
      by_cases hl : leadB (cm c) x f 10 = true
      · rw [if_pos hl, bset_or1 (fun f => leadB (cm c) x f 10) f hl]
      · rw [if_neg hl, bset_or0 (fun f => leadB (cm c) x f 10) f hl]
    refine E_iload_n d_TM_leads_18 rfl ?_
    first | refine E_aload_n d_TM_leads_19 rfl ?_ | refine E_aload_nN d_TM_leads_19 rfl ?_
    refine E_getR (q := 1) d_TM_leads_20 gf_TM_7 (by exact ⟨by decide, rfl⟩) (by exact hR _ rfl) ?_
    refine E_iconst (v := nI 0) d_TM_leads_23 rfl ?_
    refine E_iald d_TM_leads_24 (by exact ⟨by decide, rfl⟩) (by exact ⟨by with_reducible rfl, by omega, by decide⟩) (by first | exact hA.people | exact hA.figure | exact hA.lean (by omega) | exact hN _ (by omega) | rfl) ?_
    first | (with_reducible refine E_isN2 ?_; refine E_icmp_gt 67 d_TM_leads_25 rfl (nb_lt (by omega) (by omega) fun h25 => ?_) (nb_nlt (by omega) (by omega) fun h25 => ?_)) | refine E_icmp_gt 67 d_TM_leads_25 rfl (fun h25 => ?_) (fun h25 => ?_)
    · exfalso; omega
    refine E_iconst (v := nI 0) d_TM_leads_28 rfl ?_
    refine E_istore_4 d_TM_leads_29 rfl ?_
    refine E_eqL ?_ (lp_TM_leadsI (S0 := bset (fun f => leadB (cm c) x f 10) f) hM hN (by omega) hx hb K 10 0 (by omega))
    simp [leadB]
theorem sp_TM_leads {c : Cr} {M : Mem} (hM : HM c M) (x : Int32) : E 8 0 0 Y_TM_leads 0 [some (.ref 0), some (.int x), none, none, none] [] GM M (QI GM fun r M' => r = ans_leads c x ∧ Sx SQ M M') := by
  have hp8 := hM.w.p8
  revert x
  refine args1 (c.now.people + 1) (fun k hk hx ht => ?_) (fun x hx => ?_)
  · first | refine E_aload_n d_TM_leads_0 rfl ?_ | refine E_aload_nN d_TM_leads_0 rfl ?_
    refine E_iload_n d_TM_leads_1 rfl ?_
    refine E_V1 (sp_TM_canBeTold hM.R hM.A hM.w _) d_TM_leads_2 ml_TM_311 cb_TM_canBeTold cv_TM_canBeTold (by exact ⟨by decide, rfl⟩) ⟨by decide, rfl⟩ ⟨by decide, by decide⟩ rfl (Nat.le_of_ble_eq_true rfl) (Nat.le_of_ble_eq_true rfl) (kI fun r1 M1 hc => ?_)
    obtain ⟨rfl, rfl⟩ := hc
    first | (with_reducible refine E_isP ?_; refine E_if_ne 10 d_TM_leads_5 rfl (pb_1 fun h5 => ?_) (pb_0 fun h5 => ?_)) | (with_reducible refine E_isN1 ?_; refine E_if_ne 10 d_TM_leads_5 rfl (nz_ne fun h5 => ?_) (nz_eq (by omega) fun h5 => ?_)) | refine E_if_ne 10 d_TM_leads_5 rfl (fun h5 => ?_) (fun h5 => ?_)
    rotate_left
    · exfalso; exact h5 hx
    first | refine E_aload_n d_TM_leads_10 rfl ?_ | refine E_aload_nN d_TM_leads_10 rfl ?_
    refine E_V0 (sp_TM_layNext hM) d_TM_leads_11 ml_TM_362 cb_TM_layNext cv_TM_layNext (by exact ⟨by decide, rfl⟩) ⟨by decide, rfl⟩ ⟨by decide, by decide⟩ rfl (Nat.le_of_ble_eq_true rfl) (Nat.le_of_ble_eq_true rfl) (kV fun M1 hc => ?_)
    obtain ⟨hN, hS1⟩ := hc
    refine E_iconst (v := nI 0) d_TM_leads_14 rfl ?_
    refine E_istore_2 d_TM_leads_15 rfl ?_
    refine E_iconst (v := nI 0) d_TM_leads_16 rfl ?_
    refine E_istore_3 d_TM_leads_17 rfl ?_
    exact lp_TM_leads (hM.sx hS1) hN hS1 (by omega) (c.now.people + 1) 0 (by omega) _
  · first | refine E_aload_n d_TM_leads_0 rfl ?_ | refine E_aload_nN d_TM_leads_0 rfl ?_
    refine E_iload_n d_TM_leads_1 rfl ?_
    refine E_V1 (sp_TM_canBeTold hM.R hM.A hM.w _) d_TM_leads_2 ml_TM_311 cb_TM_canBeTold cv_TM_canBeTold (by exact ⟨by decide, rfl⟩) ⟨by decide, rfl⟩ ⟨by decide, by decide⟩ rfl (Nat.le_of_ble_eq_true rfl) (Nat.le_of_ble_eq_true rfl) (kI fun r1 M1 hc => ?_)
    obtain ⟨rfl, rfl⟩ := hc
    first | (with_reducible refine E_isP ?_; refine E_if_ne 10 d_TM_leads_5 rfl (pb_1 fun h5 => ?_) (pb_0 fun h5 => ?_)) | (with_reducible refine E_isN1 ?_; refine E_if_ne 10 d_TM_leads_5 rfl (nz_ne fun h5 => ?_) (nz_eq (by omega) fun h5 => ?_)) | refine E_if_ne 10 d_TM_leads_5 rfl (fun h5 => ?_) (fun h5 => ?_)
    · exfalso; exact hx h5
    refine E_iconst (v := (-1)) d_TM_leads_8 rfl ?_
    refine E_retI d_TM_leads_9 rfl ?_
    exact ⟨by rw [ans_leads, if_neg hx], Sx.rf⟩
theorem lp_TM_rings {c : Cr} {M M0 : Mem} (hM : HM c M) (hN : HN c M) (hS : Sx SQ M0 M) :
    ∀ (j f : Nat), f + j = c.now.people + 1 → E 8 0 0 Y_TM_rings 8 [some (.ref 0), some (.int (nI (cnt (fun f => decide (ringSz (cm c) f ≠ 0) && decide (lowN (cm c) f = f)) f))), some (.int (nI f))] [] GM M (QI GM fun r M' => r = ans_rings c ∧ Sx SQ M0 M') := by
  have hR := hM.R
  have hA := hM.A
  have hp8 := hM.w.p8
  intro j
  induction j with
  | zero =>
    intro f hf
    refine E_iload_n d_TM_rings_8 rfl ?_
    first | refine E_aload_n d_TM_rings_9 rfl ?_ | refine E_aload_nN d_TM_rings_9 rfl ?_
    refine E_getR (q := 1) d_TM_rings_10 gf_TM_7 (by exact ⟨by decide, rfl⟩) (by exact hR _ rfl) ?_
    refine E_iconst (v := nI 0) d_TM_rings_13 rfl ?_
    refine E_iald d_TM_rings_14 (by exact ⟨by decide, rfl⟩) (by exact ⟨by with_reducible rfl, by omega, by decide⟩) (by first | exact hA.people | exact hA.figure | exact hA.lean (by omega) | exact hN _ (by omega) | rfl) ?_
    first | (with_reducible refine E_isN2 ?_; refine E_icmp_gt 50 d_TM_rings_15 rfl (nb_lt (by omega) (by omega) fun h15 => ?_) (nb_nlt (by omega) (by omega) fun h15 => ?_)) | refine E_icmp_gt 50 d_TM_rings_15 rfl (fun h15 => ?_) (fun h15 => ?_)
    rotate_left
    · exfalso; omega
    refine E_iload_n d_TM_rings_50 rfl ?_
    refine E_retI d_TM_rings_51 rfl ?_
    exact ⟨by rw [ans_rings, ← hf, Nat.add_zero], hS⟩
  | succ j ih =>
    intro f hf
    have hz := ringSz_le (cm c) f
    have hl : lowN (cm c) f ≤ 8 := by
      have key : ∀ k n w, w ≤ 8 → lowA (cm c) f k n w ≤ 8 := by
        intro k
        induction k with
        | zero => intro n w hw; exact hw
        | succ k ih =>
          intro n w hw
          rw [lowA]
          exact ih _ _ (by split <;> omega)
      exact key 9 1 f (by omega)
    refine E_iload_n d_TM_rings_8 rfl ?_
    first | refine E_aload_n d_TM_rings_9 rfl ?_ | refine E_aload_nN d_TM_rings_9 rfl ?_
    refine E_getR (q := 1) d_TM_rings_10 gf_TM_7 (by exact ⟨by decide, rfl⟩) (by exact hR _ rfl) ?_
    refine E_iconst (v := nI 0) d_TM_rings_13 rfl ?_
    refine E_iald d_TM_rings_14 (by exact ⟨by decide, rfl⟩) (by exact ⟨by with_reducible rfl, by omega, by decide⟩) (by first | exact hA.people | exact hA.figure | exact hA.lean (by omega) | exact hN _ (by omega) | rfl) ?_
    first | (with_reducible refine E_isN2 ?_; refine E_icmp_gt 50 d_TM_rings_15 rfl (nb_lt (by omega) (by omega) fun h15 => ?_) (nb_nlt (by omega) (by omega) fun h15 => ?_)) | refine E_icmp_gt 50 d_TM_rings_15 rfl (fun h15 => ?_) (fun h15 => ?_)
    · exfalso; omega
    refine E_iload_n d_TM_rings_18 rfl ?_
    first | refine E_aload_n d_TM_rings_19 rfl ?_ | refine E_aload_nN d_TM_rings_19 rfl ?_
    refine E_iload_n d_TM_rings_20 rfl ?_
    refine E_V1 (sp_TM_ringOf hR hN hp8 (by omega)) d_TM_rings_21 ml_TM_359 cb_TM_ringOf cv_TM_ringOf (by exact ⟨by decide, rfl⟩) ⟨by decide, rfl⟩ ⟨by decide, by decide⟩ rfl (Nat.le_of_ble_eq_true rfl) (Nat.le_of_ble_eq_true rfl) (kI fun r1 M1 hc => ?_)
    obtain ⟨rfl, rfl⟩ := hc
    refine E_iconst (v := (-1)) d_TM_rings_24 rfl ?_
    first | (with_reducible refine E_isN2 ?_; refine E_icmp_eq 41 d_TM_rings_25 rfl (nb_eq (by omega) (by omega) fun h25 => ?_) (nb_ne fun h25 => ?_)) | refine E_icmp_eq 41 d_TM_rings_25 rfl (fun h25 => ?_) (fun h25 => ?_)
    · refine E_iconst (v := nI 0) d_TM_rings_41 rfl ?_
      first | (with_reducible refine E_isN2 ?_; refine E_iaddN d_TM_rings_42 ?_) | refine E_iadd d_TM_rings_42 ?_
      refine E_istore_1 d_TM_rings_43 rfl ?_
      first | (with_reducible refine E_isL2 ?_; refine E_iincN2 (m := 1) d_TM_rings_44 rfl rfl ?_) | refine E_iinc_2 d_TM_rings_44 rfl rfl ?_
      refine E_goto 8 d_TM_rings_47 rfl ?_
      refine E_eqL ?_ (ih (f + 1) (by omega))
      rw [cnt]
      have hq := enZ_m1 (n := ringSz (cm c) f) (by omega)
      first | (rw [if_pos (by rw [Bool.and_eq_true, decide_eq_true_eq, decide_eq_true_eq]; exact ⟨fun q => h25 (hq.mpr q), h34⟩)]) | (rw [if_neg (by rw [Bool.and_eq_true, decide_eq_true_eq, decide_eq_true_eq]; exact fun q => h34 q.2)]) | (rw [if_neg (by rw [Bool.and_eq_true, decide_eq_true_eq, decide_eq_true_eq]; exact fun q => q.1 (hq.mp h25))])
    · first | refine E_aload_n d_TM_rings_28 rfl ?_ | refine E_aload_nN d_TM_rings_28 rfl ?_
      refine E_iload_n d_TM_rings_29 rfl ?_
      refine E_V1 (sp_TM_lowest hR hN hp8 (by omega)) d_TM_rings_30 ml_TM_368 cb_TM_lowestOfRing cv_TM_lowestOfRing (by exact ⟨by decide, rfl⟩) ⟨by decide, rfl⟩ ⟨by decide, by decide⟩ rfl (Nat.le_of_ble_eq_true rfl) (Nat.le_of_ble_eq_true rfl) (kI fun r1 M1 hc => ?_)
      obtain ⟨rfl, rfl⟩ := hc
      refine E_iload_n d_TM_rings_33 rfl ?_
      first | (with_reducible refine E_isN2 ?_; refine E_icmp_ne 41 d_TM_rings_34 rfl (nb_ne fun h34 => ?_) (nb_eq (by omega) (by omega) fun h34 => ?_)) | refine E_icmp_ne 41 d_TM_rings_34 rfl (fun h34 => ?_) (fun h34 => ?_)
      · refine E_iconst (v := nI 0) d_TM_rings_41 rfl ?_
        first | (with_reducible refine E_isN2 ?_; refine E_iaddN d_TM_rings_42 ?_) | refine E_iadd d_TM_rings_42 ?_
        refine E_istore_1 d_TM_rings_43 rfl ?_
        first | (with_reducible refine E_isL2 ?_; refine E_iincN2 (m := 1) d_TM_rings_44 rfl rfl ?_) | refine E_iinc_2 d_TM_rings_44 rfl rfl ?_
        refine E_goto 8 d_TM_rings_47 rfl ?_
        refine E_eqL ?_ (ih (f + 1) (by omega))
        rw [cnt]
        have hq := enZ_m1 (n := ringSz (cm c) f) (by omega)
        first | (rw [if_pos (by rw [Bool.and_eq_true, decide_eq_true_eq, decide_eq_true_eq]; exact ⟨fun q => h25 (hq.mpr q), h34⟩)]) | (rw [if_neg (by rw [Bool.and_eq_true, decide_eq_true_eq, decide_eq_true_eq]; exact fun q => h34 q.2)]) | (rw [if_neg (by rw [Bool.and_eq_true, decide_eq_true_eq, decide_eq_true_eq]; exact fun q => q.1 (hq.mp h25))])
      · refine E_iconst (v := nI 1) d_TM_rings_37 rfl ?_
        refine E_goto 42 d_TM_rings_38 rfl ?_
        first | (with_reducible refine E_isN2 ?_; refine E_iaddN d_TM_rings_42 ?_) | refine E_iadd d_TM_rings_42 ?_
        refine E_istore_1 d_TM_rings_43 rfl ?_
        first | (with_reducible refine E_isL2 ?_; refine E_iincN2 (m := 1) d_TM_rings_44 rfl rfl ?_) | refine E_iinc_2 d_TM_rings_44 rfl rfl ?_
        refine E_goto 8 d_TM_rings_47 rfl ?_
        refine E_eqL ?_ (ih (f + 1) (by omega))
        rw [cnt]
        have hq := enZ_m1 (n := ringSz (cm c) f) (by omega)
        first | (rw [if_pos (by rw [Bool.and_eq_true, decide_eq_true_eq, decide_eq_true_eq]; exact ⟨fun q => h25 (hq.mpr q), h34⟩)]) | (rw [if_neg (by rw [Bool.and_eq_true, decide_eq_true_eq, decide_eq_true_eq]; exact fun q => h34 q.2)]) | (rw [if_neg (by rw [Bool.and_eq_true, decide_eq_true_eq, decide_eq_true_eq]; exact fun q => q.1 (hq.mp h25))])
theorem sp_TM_rings {c : Cr} {M : Mem} (hM : HM c M) : E 8 0 0 Y_TM_rings 0 [some (.ref 0), none, none] [] GM M (QI GM fun r M' => r = ans_rings c ∧ Sx SQ M M') := by
  first | refine E_aload_n d_TM_rings_0 rfl ?_ | refine E_aload_nN d_TM_rings_0 rfl ?_
  refine E_V0 (sp_TM_layNext hM) d_TM_rings_1 ml_TM_362 cb_TM_layNext cv_TM_layNext (by exact ⟨by decide, rfl⟩) ⟨by decide, rfl⟩ ⟨by decide, by decide⟩ rfl (Nat.le_of_ble_eq_true rfl) (Nat.le_of_ble_eq_true rfl) (kV fun M1 hc => ?_)
  obtain ⟨hN, hS1⟩ := hc
  refine E_iconst (v := nI 0) d_TM_rings_4 rfl ?_
  refine E_istore_1 d_TM_rings_5 rfl ?_
  refine E_iconst (v := nI 0) d_TM_rings_6 rfl ?_
  refine E_istore_2 d_TM_rings_7 rfl ?_
  exact lp_TM_rings (hM.sx hS1) hN hS1 (c.now.people + 1) 0 (by omega)
theorem sp_TM_apartBy {G : Geo} {M : Mem} {v w : Nat} (hv : v < 1073741824) (hw : w < 1073741824) : E 0 0 0 Y_TM_apartBy 0 [some (.int (nI v)), some (.int (nI w))] [] G M (QI G fun r M' => r = nI (ap v w) ∧ M' = M) := by
  refine E_iload_n d_TM_apartBy_0 rfl ?_
  refine E_iload_n d_TM_apartBy_1 rfl ?_
  first | (with_reducible refine E_isN2 ?_; refine E_icmp_ge 11 d_TM_apartBy_2 rfl (nb_le (by omega) (by omega) fun h2 => ?_) (nb_nle (by omega) (by omega) fun h2 => ?_)) | refine E_icmp_ge 11 d_TM_apartBy_2 rfl (fun h2 => ?_) (fun h2 => ?_)
  · refine E_iload_n d_TM_apartBy_11 rfl ?_
    refine E_iload_n d_TM_apartBy_12 rfl ?_
    first | (with_reducible refine E_isN2 ?_; refine E_isubN d_TM_apartBy_13 (by omega) ?_) | refine E_isub d_TM_apartBy_13 ?_
    refine E_retI d_TM_apartBy_14 rfl ?_
    first | exact ⟨by rw [ap, if_pos (by assumption)], rfl⟩ | exact ⟨by rw [ap, if_neg (by omega)], rfl⟩
  · refine E_iload_n d_TM_apartBy_5 rfl ?_
    refine E_iload_n d_TM_apartBy_6 rfl ?_
    first | (with_reducible refine E_isN2 ?_; refine E_isubN d_TM_apartBy_7 (by omega) ?_) | refine E_isub d_TM_apartBy_7 ?_
    refine E_goto 14 d_TM_apartBy_8 rfl ?_
    refine E_retI d_TM_apartBy_14 rfl ?_
    first | exact ⟨by rw [ap, if_pos (by assumption)], rfl⟩ | exact ⟨by rw [ap, if_neg (by omega)], rfl⟩
theorem ap_le {v w n : Nat} (hv : v ≤ n) (hw : w ≤ n) : ap v w ≤ n := by unfold ap; split <;> omega
theorem lp_TM_nearest {c : Cr} {M M0 : Mem} (hM : HM c M) (hN : HN c M) (hS : Sx SQ M0 M) :
    ∀ (j f : Nat), f + j = c.now.people → E 8 0 0 Y_TM_nearest 8 [some (.ref 0), some (.int (nI (nearA (cm c) f))), some (.int (nI (f + 1)))] [] GM M (QI GM fun r M' => r = ans_nearest c ∧ Sx SQ M0 M') := by
  have hR := hM.R
  have hA := hM.A
  have hp8 := hM.w.p8
  intro j
  induction j with
  | zero =>
    intro f hf
    refine E_iload_n d_TM_nearest_8 rfl ?_
    first | refine E_aload_n d_TM_nearest_9 rfl ?_ | refine E_aload_nN d_TM_nearest_9 rfl ?_
    refine E_getR (q := 1) d_TM_nearest_10 gf_TM_7 (by exact ⟨by decide, rfl⟩) (by exact hR _ rfl) ?_
    refine E_iconst (v := nI 0) d_TM_nearest_13 rfl ?_
    refine E_iald d_TM_nearest_14 (by exact ⟨by decide, rfl⟩) (by exact ⟨by with_reducible rfl, by omega, by decide⟩) (by first | exact hA.people | exact hA.figure | exact hA.lean (by omega) | exact hN _ (by omega) | rfl) ?_
    first | (with_reducible refine E_isN2 ?_; refine E_icmp_gt 49 d_TM_nearest_15 rfl (nb_lt (by omega) (by omega) fun h15 => ?_) (nb_nlt (by omega) (by omega) fun h15 => ?_)) | refine E_icmp_gt 49 d_TM_nearest_15 rfl (fun h15 => ?_) (fun h15 => ?_)
    rotate_left
    · exfalso; omega
    refine E_iload_n d_TM_nearest_49 rfl ?_
    refine E_retI d_TM_nearest_50 rfl ?_
    exact ⟨by rw [ans_nearest, ← hf, Nat.add_zero], hS⟩
  | succ j ih =>
    intro f hf
    have hn := nearA_le (cm c) f
    have hc1 := cm_le c (f + 1)
    have hc2 := cm_le c (nearA (cm c) f)
    have ha1 := ap_le (v := f + 1) (w := cm c (f + 1)) (n := 8) (by omega) (by omega)
    have ha2 := ap_le (v := nearA (cm c) f) (w := cm c (nearA (cm c) f)) (n := 8) (by omega) (by omega)
    refine E_iload_n d_TM_nearest_8 rfl ?_
    first | refine E_aload_n d_TM_nearest_9 rfl ?_ | refine E_aload_nN d_TM_nearest_9 rfl ?_
    refine E_getR (q := 1) d_TM_nearest_10 gf_TM_7 (by exact ⟨by decide, rfl⟩) (by exact hR _ rfl) ?_
    refine E_iconst (v := nI 0) d_TM_nearest_13 rfl ?_
    refine E_iald d_TM_nearest_14 (by exact ⟨by decide, rfl⟩) (by exact ⟨by with_reducible rfl, by omega, by decide⟩) (by first | exact hA.people | exact hA.figure | exact hA.lean (by omega) | exact hN _ (by omega) | rfl) ?_
    first | (with_reducible refine E_isN2 ?_; refine E_icmp_gt 49 d_TM_nearest_15 rfl (nb_lt (by omega) (by omega) fun h15 => ?_) (nb_nlt (by omega) (by omega) fun h15 => ?_)) | refine E_icmp_gt 49 d_TM_nearest_15 rfl (fun h15 => ?_) (fun h15 => ?_)
    · exfalso; omega
    refine E_iload_n d_TM_nearest_18 rfl ?_
    first | refine E_aload_n d_TM_nearest_19 rfl ?_ | refine E_aload_nN d_TM_nearest_19 rfl ?_
    refine E_getR (q := 11) d_TM_nearest_20 gf_TM_53 (by exact ⟨by decide, rfl⟩) (by exact hR _ rfl) ?_
    refine E_iload_n d_TM_nearest_23 rfl ?_
    refine E_iald d_TM_nearest_24 (by exact ⟨by decide, rfl⟩) (by exact ⟨by with_reducible rfl, by omega, by decide⟩) (by first | exact hA.people | exact hA.figure | exact hA.lean (by omega) | exact hN _ (by omega) | rfl) ?_
    refine E_S2 (sp_TM_apartBy (by omega) (by omega)) d_TM_nearest_25 ml_TM_371 cb_TM_apartBy cs_TM_apartBy ⟨by decide, by decide⟩ rfl (Nat.le_of_ble_eq_true rfl) (Nat.le_of_ble_eq_true rfl) (kI fun r1 M1 hc => ?_)
    obtain ⟨rfl, rfl⟩ := hc
    refine E_iload_n d_TM_nearest_28 rfl ?_
    first | refine E_aload_n d_TM_nearest_29 rfl ?_ | refine E_aload_nN d_TM_nearest_29 rfl ?_
    refine E_getR (q := 11) d_TM_nearest_30 gf_TM_53 (by exact ⟨by decide, rfl⟩) (by exact hR _ rfl) ?_
    refine E_iload_n d_TM_nearest_33 rfl ?_
    refine E_iald d_TM_nearest_34 (by exact ⟨by decide, rfl⟩) (by exact ⟨by with_reducible rfl, by omega, by decide⟩) (by first | exact hA.people | exact hA.figure | exact hA.lean (by omega) | exact hN _ (by omega) | rfl) ?_
    refine E_S2 (sp_TM_apartBy (by omega) (by omega)) d_TM_nearest_35 ml_TM_371 cb_TM_apartBy cs_TM_apartBy ⟨by decide, by decide⟩ rfl (Nat.le_of_ble_eq_true rfl) (Nat.le_of_ble_eq_true rfl) (kI fun r1 M1 hc => ?_)
    obtain ⟨rfl, rfl⟩ := hc
    first | (with_reducible refine E_isN2 ?_; refine E_icmp_ge 43 d_TM_nearest_38 rfl (nb_le (by omega) (by omega) fun h38 => ?_) (nb_nle (by omega) (by omega) fun h38 => ?_)) | refine E_icmp_ge 43 d_TM_nearest_38 rfl (fun h38 => ?_) (fun h38 => ?_)
    · first | (with_reducible refine E_isL2 ?_; refine E_iincN2 (m := 1) d_TM_nearest_43 rfl rfl ?_) | refine E_iinc_2 d_TM_nearest_43 rfl rfl ?_
      refine E_goto 8 d_TM_nearest_46 rfl ?_
      refine E_eqL ?_ (ih (f + 1) (by omega))
      rw [nearA]
      first | rw [if_pos (by assumption)] | rw [if_neg (by omega)]
    · refine E_iload_n d_TM_nearest_41 rfl ?_
      refine E_istore_1 d_TM_nearest_42 rfl ?_
      first | (with_reducible refine E_isL2 ?_; refine E_iincN2 (m := 1) d_TM_nearest_43 rfl rfl ?_) | refine E_iinc_2 d_TM_nearest_43 rfl rfl ?_
      refine E_goto 8 d_TM_nearest_46 rfl ?_
      refine E_eqL ?_ (ih (f + 1) (by omega))
      rw [nearA]
      first | rw [if_pos (by assumption)] | rw [if_neg (by omega)]
theorem sp_TM_nearest {c : Cr} {M : Mem} (hM : HM c M) : E 8 0 0 Y_TM_nearest 0 [some (.ref 0), none, none] [] GM M (QI GM fun r M' => r = ans_nearest c ∧ Sx SQ M M') := by
  first | refine E_aload_n d_TM_nearest_0 rfl ?_ | refine E_aload_nN d_TM_nearest_0 rfl ?_
  refine E_V0 (sp_TM_layNext hM) d_TM_nearest_1 ml_TM_362 cb_TM_layNext cv_TM_layNext (by exact ⟨by decide, rfl⟩) ⟨by decide, rfl⟩ ⟨by decide, by decide⟩ rfl (Nat.le_of_ble_eq_true rfl) (Nat.le_of_ble_eq_true rfl) (kV fun M1 hc => ?_)
  obtain ⟨hN, hS1⟩ := hc
  refine E_iconst (v := nI 0) d_TM_nearest_4 rfl ?_
  refine E_istore_1 d_TM_nearest_5 rfl ?_
  refine E_iconst (v := nI 1) d_TM_nearest_6 rfl ?_
  refine E_istore_2 d_TM_nearest_7 rfl ?_
  exact lp_TM_nearest (hM.sx hS1) hN hS1 c.now.people 0 (by omega)
