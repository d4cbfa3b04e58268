theorem sp_TM_tillRing {c : Cr} {M : Mem} (hR : MR M) (hN : HN c M) (hp8 : c.now.people ≤ 8) {f : Nat} (hf : f ≤ c.now.people) : E 2 0 0 Y_TM_tillRing 0 [some (.ref 0), some (.int (nI f)), none] [] GM M (QI GM fun r M' => r = nI (tillN (cm c) f) ∧ M' = M) := by
  refine E_iconst (v := nI 0) d_TM_tillRing_0 rfl ?_
  refine E_istore_2 d_TM_tillRing_1 rfl ?_
  exact lp_TM_tillRing hR hN hp8 hf (ring_ex hp8 (cm_le c) hf) 10 0 (by omega) (fun i hi => absurd hi (Nat.not_lt_zero i))
theorem tillA_le (g : Nat → Nat) (f : Nat) : ∀ k n, tillA g f k n ≤ n + k := by
  intro k
  induction k with
  | zero => intro n; exact Nat.le_refl _
  | succ k ih =>
    intro n
    rw [tillA]
    split
    · have := ih (n + 1); omega
    · omega
theorem sp_TM_ends {c : Cr} {M : Mem} (hM : HM c M) (x z : Int32) : E 8 0 0 Y_TM_ends 0 [some (.ref 0), some (.int x), some (.int z), none] [] GM M (QI GM fun r M' => r = ans_ends c x z ∧ Sx SQ M M') := by
  have hp8 := hM.w.p8
  revert x
  refine args1 (c.now.people + 1) (fun k hk hx ht => ?_) (fun x hx => ?_)
  · have ht9 : tillN (cm c) k ≤ 10 := by have := tillA_le (cm c) k 10 0; unfold tillN; omega
    have he : endF c k ≤ c.now.people := itn_le (cm_le c) (by omega) _
    have hz := ringSz_le (cm c) (endF c k)
    have hex : ringSz (cm c) (endF c k) ≠ 0 := by
      have key : ∀ j n, n + j = 10 → (∀ i, i < n → ringSz (cm c) (itn (cm c) i k) = 0) → ringSz (cm c) (itn (cm c) (tillA (cm c) k j n) k) ≠ 0 := by
        intro j
        induction j with
        | zero =>
          intro n hn h1
          obtain ⟨i, hi, h2⟩ := ring_ex hp8 (cm_le c) (show k ≤ c.now.people by omega)
          exact absurd (h1 i (by omega)) h2
        | succ j ih =>
          intro n hn h1
          rw [tillA]
          split
          · next h0 => exact ih (n + 1) (by omega) (fun i hi => (Nat.lt_or_ge i n).elim (h1 i) (fun q => by rw [show i = n by omega]; exact h0))
          · next h0 => exact h0
      exact key 10 0 rfl (fun i hi => absurd hi (Nat.not_lt_zero i))
    first | refine E_aload_n d_TM_ends_0 rfl ?_ | refine E_aload_nN d_TM_ends_0 rfl ?_
    refine E_iload_n d_TM_ends_1 rfl ?_
    refine E_V1 (sp_TM_canBeTold hM.R hM.A hM.w _) d_TM_ends_2 ml_TM_311 cb_TM_canBeTold cv_TM_canBeTold (by exact ⟨by decide, rfl⟩) ⟨by decide, rfl⟩ ⟨by decide, by decide⟩ rfl (Nat.le_of_ble_eq_true rfl) (Nat.le_of_ble_eq_true rfl) (kI fun r1 M1 hc => ?_)
    obtain ⟨rfl, rfl⟩ := hc
    first | (with_reducible refine E_isP ?_; refine E_if_ne 10 d_TM_ends_5 rfl (pb_1 fun h5 => ?_) (pb_0 fun h5 => ?_)) | (with_reducible refine E_isN1 ?_; refine E_if_ne 10 d_TM_ends_5 rfl (nz_ne fun h5 => ?_) (nz_eq (by omega) fun h5 => ?_)) | refine E_if_ne 10 d_TM_ends_5 rfl (fun h5 => ?_) (fun h5 => ?_)
    rotate_left
    · exfalso; exact h5 hx
    first | refine E_aload_n d_TM_ends_10 rfl ?_ | refine E_aload_nN d_TM_ends_10 rfl ?_
    refine E_V0 (sp_TM_layNext hM) d_TM_ends_11 ml_TM_362 cb_TM_layNext cv_TM_layNext (by exact ⟨by decide, rfl⟩) ⟨by decide, rfl⟩ ⟨by decide, by decide⟩ rfl (Nat.le_of_ble_eq_true rfl) (Nat.le_of_ble_eq_true rfl) (kV fun M1 hc => ?_)
    obtain ⟨hN, hS1⟩ := hc
    have hR := hM.R.sx hS1
    first | refine E_aload_n d_TM_ends_14 rfl ?_ | refine E_aload_nN d_TM_ends_14 rfl ?_
    refine E_iload_n d_TM_ends_15 rfl ?_
    first | refine E_aload_n d_TM_ends_16 rfl ?_ | refine E_aload_nN d_TM_ends_16 rfl ?_
    refine E_iload_n d_TM_ends_17 rfl ?_
    refine E_V1 (sp_TM_tillRing hR hN hp8 (by omega)) d_TM_ends_18 ml_TM_365 cb_TM_tillRing cv_TM_tillRing (by exact ⟨by decide, rfl⟩) ⟨by decide, rfl⟩ ⟨by decide, by decide⟩ rfl (Nat.le_of_ble_eq_true rfl) (Nat.le_of_ble_eq_true rfl) (kI fun r1 M1 hc => ?_)
    obtain ⟨rfl, rfl⟩ := hc
    refine E_V2 (sp_TM_behind hR hN hp8 (by omega) (by omega)) d_TM_ends_21 ml_TM_356 cb_TM_behind cv_TM_behind (by exact ⟨by decide, rfl⟩) ⟨by decide, rfl⟩ ⟨by decide, by decide⟩ rfl (Nat.le_of_ble_eq_true rfl) (Nat.le_of_ble_eq_true rfl) (kI fun r1 M1 hc => ?_)
    obtain ⟨rfl, rfl⟩ := hc
    refine E_istore_3 d_TM_ends_24 rfl ?_
    refine E_iload_n d_TM_ends_25 rfl ?_
    first | (with_reducible refine E_isP ?_; refine E_if_eq 37 d_TM_ends_26 rfl (pb_0 fun h26 => ?_) (pb_1 fun h26 => ?_)) | (with_reducible refine E_isN1 ?_; refine E_if_eq 37 d_TM_ends_26 rfl (nz_eq (by omega) fun h26 => ?_) (nz_ne fun h26 => ?_)) | refine E_if_eq 37 d_TM_ends_26 rfl (fun h26 => ?_) (fun h26 => ?_)
    · first | refine E_aload_n d_TM_ends_37 rfl ?_ | refine E_aload_nN d_TM_ends_37 rfl ?_
      refine E_iload_n d_TM_ends_38 rfl ?_
      refine E_V1 (sp_TM_lowest hR hN hp8 he) d_TM_ends_39 ml_TM_368 cb_TM_lowestOfRing cv_TM_lowestOfRing (by exact ⟨by decide, rfl⟩) ⟨by decide, rfl⟩ ⟨by decide, by decide⟩ rfl (Nat.le_of_ble_eq_true rfl) (Nat.le_of_ble_eq_true rfl) (kI fun r1 M1 hc => ?_)
      obtain ⟨rfl, rfl⟩ := hc
      refine E_retI d_TM_ends_42 rfl ?_
      exact ⟨by first | (rw [ans_ends, if_pos hx, ht, if_pos (by assumption)]) | (rw [ans_ends, if_pos hx, ht, if_neg (by assumption), enZ, if_neg hex]), hS1⟩
    · first | refine E_aload_n d_TM_ends_29 rfl ?_ | refine E_aload_nN d_TM_ends_29 rfl ?_
      refine E_iload_n d_TM_ends_30 rfl ?_
      refine E_V1 (sp_TM_ringOf hR hN hp8 he) d_TM_ends_31 ml_TM_359 cb_TM_ringOf cv_TM_ringOf (by exact ⟨by decide, rfl⟩) ⟨by decide, rfl⟩ ⟨by decide, by decide⟩ rfl (Nat.le_of_ble_eq_true rfl) (Nat.le_of_ble_eq_true rfl) (kI fun r1 M1 hc => ?_)
      obtain ⟨rfl, rfl⟩ := hc
      refine E_goto 42 d_TM_ends_34 rfl ?_
      refine E_retI d_TM_ends_42 rfl ?_
      exact ⟨by first | (rw [ans_ends, if_pos hx, ht, if_pos (by assumption)]) | (rw [ans_ends, if_pos hx, ht, if_neg (by assumption), enZ, if_neg hex]), hS1⟩
  · first | refine E_aload_n d_TM_ends_0 rfl ?_ | refine E_aload_nN d_TM_ends_0 rfl ?_
    refine E_iload_n d_TM_ends_1 rfl ?_
    refine E_V1 (sp_TM_canBeTold hM.R hM.A hM.w _) d_TM_ends_2 ml_TM_311 cb_TM_canBeTold cv_TM_canBeTold (by exact ⟨by decide, rfl⟩) ⟨by decide, rfl⟩ ⟨by decide, by decide⟩ rfl (Nat.le_of_ble_eq_true rfl) (Nat.le_of_ble_eq_true rfl) (kI fun r1 M1 hc => ?_)
    obtain ⟨rfl, rfl⟩ := hc
    first | (with_reducible refine E_isP ?_; refine E_if_ne 10 d_TM_ends_5 rfl (pb_1 fun h5 => ?_) (pb_0 fun h5 => ?_)) | (with_reducible refine E_isN1 ?_; refine E_if_ne 10 d_TM_ends_5 rfl (nz_ne fun h5 => ?_) (nz_eq (by omega) fun h5 => ?_)) | refine E_if_ne 10 d_TM_ends_5 rfl (fun h5 => ?_) (fun h5 => ?_)
    · exfalso; exact hx h5
    refine E_iconst (v := (-1)) d_TM_ends_8 rfl ?_
    refine E_retI d_TM_ends_9 rfl ?_
    exact ⟨by rw [ans_ends, if_neg hx], Sx.rf⟩
theorem sp_TM_till {c : Cr} {M : Mem} (hM : HM c M) (x : Int32) : E 8 0 0 Y_TM_till 0 [some (.ref 0), some (.int x)] [] GM M (QI GM fun r M' => r = ans_till c x ∧ Sx SQ M M') := by
  have hp8 := hM.w.p8
  revert x
  refine args1 (c.now.people + 1) (fun k hk hx ht => ?_) (fun x hx => ?_)
  · first | refine E_aload_n d_TM_till_0 rfl ?_ | refine E_aload_nN d_TM_till_0 rfl ?_
    refine E_iload_n d_TM_till_1 rfl ?_
    refine E_V1 (sp_TM_canBeTold hM.R hM.A hM.w _) d_TM_till_2 ml_TM_311 cb_TM_canBeTold cv_TM_canBeTold (by exact ⟨by decide, rfl⟩) ⟨by decide, rfl⟩ ⟨by decide, by decide⟩ rfl (Nat.le_of_ble_eq_true rfl) (Nat.le_of_ble_eq_true rfl) (kI fun r1 M1 hc => ?_)
    obtain ⟨rfl, rfl⟩ := hc
    first | (with_reducible refine E_isP ?_; refine E_if_ne 10 d_TM_till_5 rfl (pb_1 fun h5 => ?_) (pb_0 fun h5 => ?_)) | (with_reducible refine E_isN1 ?_; refine E_if_ne 10 d_TM_till_5 rfl (nz_ne fun h5 => ?_) (nz_eq (by omega) fun h5 => ?_)) | refine E_if_ne 10 d_TM_till_5 rfl (fun h5 => ?_) (fun h5 => ?_)
    rotate_left
    · exfalso; exact h5 hx
    first | refine E_aload_n d_TM_till_10 rfl ?_ | refine E_aload_nN d_TM_till_10 rfl ?_
    refine E_V0 (sp_TM_layNext hM) d_TM_till_11 ml_TM_362 cb_TM_layNext cv_TM_layNext (by exact ⟨by decide, rfl⟩) ⟨by decide, rfl⟩ ⟨by decide, by decide⟩ rfl (Nat.le_of_ble_eq_true rfl) (Nat.le_of_ble_eq_true rfl) (kV fun M1 hc => ?_)
    obtain ⟨hN, hS1⟩ := hc
    have hR := hM.R.sx hS1
    first | refine E_aload_n d_TM_till_14 rfl ?_ | refine E_aload_nN d_TM_till_14 rfl ?_
    refine E_iload_n d_TM_till_15 rfl ?_
    refine E_V1 (sp_TM_tillRing hR hN hp8 (by omega)) d_TM_till_16 ml_TM_365 cb_TM_tillRing cv_TM_tillRing (by exact ⟨by decide, rfl⟩) ⟨by decide, rfl⟩ ⟨by decide, by decide⟩ rfl (Nat.le_of_ble_eq_true rfl) (Nat.le_of_ble_eq_true rfl) (kI fun r1 M1 hc => ?_)
    obtain ⟨rfl, rfl⟩ := hc
    refine E_retI d_TM_till_19 rfl ?_
    exact ⟨by rw [ans_till, if_pos hx, ht], hS1⟩
  · first | refine E_aload_n d_TM_till_0 rfl ?_ | refine E_aload_nN d_TM_till_0 rfl ?_
    refine E_iload_n d_TM_till_1 rfl ?_
    refine E_V1 (sp_TM_canBeTold hM.R hM.A hM.w _) d_TM_till_2 ml_TM_311 cb_TM_canBeTold cv_TM_canBeTold (by exact ⟨by decide, rfl⟩) ⟨by decide, rfl⟩ ⟨by decide, by decide⟩ rfl (Nat.le_of_ble_eq_true rfl) (Nat.le_of_ble_eq_true rfl) (kI fun r1 M1 hc => ?_)
    obtain ⟨rfl, rfl⟩ := hc
    first | (with_reducible refine E_isP ?_; refine E_if_ne 10 d_TM_till_5 rfl (pb_1 fun h5 => ?_) (pb_0 fun h5 => ?_)) | (with_reducible refine E_isN1 ?_; refine E_if_ne 10 d_TM_till_5 rfl (nz_ne fun h5 => ?_) (nz_eq (by omega) fun h5 => ?_)) | refine E_if_ne 10 d_TM_till_5 rfl (fun h5 => ?_) (fun h5 => ?_)
    · exfalso; exact hx h5
    refine E_iconst (v := (-1)) d_TM_till_8 rfl ?_
    refine E_retI d_TM_till_9 rfl ?_
    exact ⟨by rw [ans_till, if_neg hx], Sx.rf⟩
theorem lp_TM_leadsI {c : Cr} {M : Mem} {M0 : Mem} {x f : Nat} {S0 : Nat} (hM : HM c M) (hN : HN c M) (hf : f ≤ c.now.people) (hx : x ≤ c.now.people) (hS0 : S0 < 512)
    (K : E 8 0 0 Y_TM_leads 61 [some (.ref 0), some (.int (nI x)), some (.int (nI (if leadB (cm c) x f 10 = true then S0 ||| 2 ^ f else S0))), some (.int (nI f)), some (.int (nI 10))] [] GM M (QI GM fun r M' => r = ans_leads c (nI x) ∧ Sx SQ M0 M')) :
    ∀ (j n : Nat), n + j = 10 → E 8 0 0 Y_TM_leads 31 [some (.ref 0), some (.int (nI x)), some (.int (nI (if leadB (cm c) x f n = true then S0 ||| 2 ^ f else S0))), some (.int (nI f)), some (.int (nI n))] [] GM M (QI GM fun r M' => r = ans_leads c (nI x) ∧ Sx SQ M0 M') := by
  have hR := hM.R
  have hA := hM.A
  have hp8 := hM.w.p8
  intro j
  induction j with
  | zero =>
    intro n hn
    have hn10 : n = 10 := by omega
    subst hn10
    refine E_iload d_TM_leads_31 rfl ?_
    refine E_bipush (v := nI 9) d_TM_leads_33 (by decide) ?_
    first | (with_reducible refine E_isN2 ?_; refine E_icmp_gt 61 d_TM_leads_35 rfl (nb_lt (by omega) (by omega) fun h35 => ?_) (nb_nlt (by omega) (by omega) fun h35 => ?_)) | refine E_icmp_gt 61 d_TM_leads_35 rfl (fun h35 => ?_) (fun h35 => ?_)
    rotate_left
    · exfalso; omega
    exact K
  | succ j ih =>
    intro n hn
    have hi := itn_le (cm_le c) hf n
    refine E_iload d_TM_leads_31 rfl ?_
    refine E_bipush (v := nI 9) d_TM_leads_33 (by decide) ?_
    first | (with_reducible refine E_isN2 ?_; refine E_icmp_gt 61 d_TM_leads_35 rfl (nb_lt (by omega) (by omega) fun h35 => ?_) (nb_nlt (by omega) (by omega) fun h35 => ?_)) | refine E_icmp_gt 61 d_TM_leads_35 rfl (fun h35 => ?_) (fun h35 => ?_)
    · exfalso; omega
    first | refine E_aload_n d_TM_leads_38 rfl ?_ | refine E_aload_nN d_TM_leads_38 rfl ?_
    refine E_iload_n d_TM_leads_39 rfl ?_
    refine E_iload d_TM_leads_40 rfl ?_
    refine E_V2 (sp_TM_behind hR hN hp8 hf (by omega)) d_TM_leads_42 ml_TM_356 cb_TM_behind cv_TM_behind (by exact ⟨by decide, rfl⟩) ⟨by decide, rfl⟩ ⟨by decide, by decide⟩ rfl (Nat.le_of_ble_eq_true rfl) (Nat.le_of_ble_eq_true rfl) (kI fun r1 M1 hc => ?_)
    obtain ⟨rfl, rfl⟩ := hc
    refine E_iload_n d_TM_leads_45 rfl ?_
    first | (with_reducible refine E_isN2 ?_; refine E_icmp_ne 55 d_TM_leads_46 rfl (nb_ne fun h46 => ?_) (nb_eq (by omega) (by omega) fun h46 => ?_)) | refine E_icmp_ne 55 d_TM_leads_46 rfl (fun h46 => ?_) (fun h46 => ?_)
    · first | (with_reducible refine E_isL4 ?_; refine E_iincN4 (m := 1) d_TM_leads_55 rfl rfl ?_) | refine E_iinc_4 d_TM_leads_55 rfl rfl ?_
      refine E_goto 31 d_TM_leads_58 rfl ?_
      refine E_eqL ?_ (ih (n + 1) (by omega))
      rw [leadB]
      by_cases hb : leadB (cm c) x f n = true
      · simp [hb, h46, Nat.or_assoc]
      · simp [hb, h46]
    · refine E_iload_n d_TM_leads_49 rfl ?_
      refine E_iconst (v := nI 1) d_TM_leads_50 rfl ?_
      refine E_iload_n d_TM_leads_51 rfl ?_
      first | (with_reducible refine E_isN2 ?_; first | refine E_ishl1 d_TM_leads_52 (by omega) ?_ | refine E_ishlN d_TM_leads_52 (by omega) (by omega) ?_) | refine E_ishl d_TM_leads_52 ?_
      first | (with_reducible refine E_isN2 ?_; refine E_iorN d_TM_leads_53 ?_) | refine E_ior d_TM_leads_53 ?_
      refine E_istore_2 d_TM_leads_54 rfl ?_
      first | (with_reducible refine E_isL4 ?_; refine E_iincN4 (m := 1) d_TM_leads_55 rfl rfl ?_) | refine E_iinc_4 d_TM_leads_55 rfl rfl ?_
      refine E_goto 31 d_TM_leads_58 rfl ?_
      refine E_eqL ?_ (ih (n + 1) (by omega))
      rw [leadB]
      by_cases hb : leadB (cm c) x f n = true
      · simp [hb, h46, Nat.or_assoc]
      · simp [hb, h46]
