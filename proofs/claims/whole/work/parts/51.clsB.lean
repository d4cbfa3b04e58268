theorem z32 : (0 : Int32).toInt = 0 := by decide
theorem sp_Mo_hasPerson {G : Geo} {M : Mem} {a : Nat} {m : Mo} (hG : GC G) (ha : MoAd a) (hm : MoC m a M) (hk : Mok m) (x : Int32) : E 0 0 0 Y_Mo_hasPerson 0 [some (.ref a), some (.int x)] [] G M (QI G fun r M' => r = pI (inN x m.people) ∧ M' = M) := by
  have hp8 := hk.p8
  have k1 : ¬ x < 0 → ¬ nI m.people ≤ x → nI 1 = pI (inN x m.people) := fun h h' => (pI_t (by rw [lt_toInt] at h; rw [le_toInt, nI_toInt (by omega)] at h'; have := z32; unfold inN; omega)).symm
  have k2 : x < 0 → nI 0 = pI (inN x m.people) := fun h => (pI_f (fun q => by rw [lt_toInt] at h; have := z32; unfold inN at q; omega)).symm
  have k3 : nI m.people ≤ x → nI 0 = pI (inN x m.people) := fun h => (pI_f (fun q => by rw [le_toInt, nI_toInt (by omega)] at h; unfold inN at q; omega)).symm
  refine E_iload_n d_Mo_hasPerson_0 rfl ?_
  first | (with_reducible refine E_isN1 ?_; refine E_if_lt 16 d_Mo_hasPerson_1 rfl (nz_lt (by omega) fun h1 => ?_) (nz_nlt (by omega) fun h1 => ?_)) | refine E_if_lt 16 d_Mo_hasPerson_1 rfl (fun h1 => ?_) (fun h1 => ?_)
  · refine E_iconst (v := nI 0) d_Mo_hasPerson_16 rfl ?_
    refine E_retZ d_Mo_hasPerson_17 rfl (by decide) ?_
    first | exact And.intro (k2 h1) rfl | exact And.intro (k3 h9) rfl | exact And.intro (k1 h1 h9) rfl
  · refine E_iload_n d_Mo_hasPerson_4 rfl ?_
    first | refine E_aload_n d_Mo_hasPerson_5 rfl ?_ | refine E_aload_nN d_Mo_hasPerson_5 rfl ?_
    refine E_getI d_Mo_hasPerson_6 gf_Mo_28 (by first | exact hG.m ha | exact hG.m1 ha | exact hG.m2 ha | exact hG.s (by decide) rfl) (by first | exact hm.people | exact hm.answers | exact hm.figure | exact hm.round | exact hm.x | exact hm.written) ?_
    first | (with_reducible refine E_isN2 ?_; refine E_icmp_ge 16 d_Mo_hasPerson_9 rfl (nb_le (by omega) (by omega) fun h9 => ?_) (nb_nle (by omega) (by omega) fun h9 => ?_)) | refine E_icmp_ge 16 d_Mo_hasPerson_9 rfl (fun h9 => ?_) (fun h9 => ?_)
    · refine E_iconst (v := nI 0) d_Mo_hasPerson_16 rfl ?_
      refine E_retZ d_Mo_hasPerson_17 rfl (by decide) ?_
      first | exact And.intro (k2 h1) rfl | exact And.intro (k3 h9) rfl | exact And.intro (k1 h1 h9) rfl
    · refine E_iconst (v := nI 1) d_Mo_hasPerson_12 rfl ?_
      refine E_goto 17 d_Mo_hasPerson_13 rfl ?_
      refine E_retZ d_Mo_hasPerson_17 rfl (by decide) ?_
      first | exact And.intro (k2 h1) rfl | exact And.intro (k3 h9) rfl | exact And.intro (k1 h1 h9) rfl
theorem sp_Mo_canPass {G : Geo} {M : Mem} {a : Nat} {m : Mo} (hG : GC G) (ha : MoAd a) (hm : MoC m a M) (hk : Mok m) : E 0 0 0 Y_Mo_canPass 0 [some (.ref a)] [] G M (QI G fun r M' => r = pI (m.round < 9999) ∧ M' = M) := by
  have hr := hk.round
  first | refine E_aload_n d_Mo_canPass_0 rfl ?_ | refine E_aload_nN d_Mo_canPass_0 rfl ?_
  refine E_getI d_Mo_canPass_1 gf_Mo_37 (by first | exact hG.m ha | exact hG.m1 ha | exact hG.m2 ha | exact hG.s (by decide) rfl) (by first | exact hm.people | exact hm.answers | exact hm.figure | exact hm.round | exact hm.x | exact hm.written) ?_
  refine E_sipush (v := nI 9999) d_Mo_canPass_4 (by decide) ?_
  first | (with_reducible refine E_isN2 ?_; refine E_icmp_ge 14 d_Mo_canPass_7 rfl (nb_le (by omega) (by omega) fun h7 => ?_) (nb_nle (by omega) (by omega) fun h7 => ?_)) | refine E_icmp_ge 14 d_Mo_canPass_7 rfl (fun h7 => ?_) (fun h7 => ?_)
  · refine E_iconst (v := nI 0) d_Mo_canPass_14 rfl ?_
    refine E_retZ d_Mo_canPass_15 rfl (by decide) ?_
    first | exact And.intro (pI_t h7).symm rfl | exact And.intro (pI_f (Nat.not_lt.mpr h7)).symm rfl
  · refine E_iconst (v := nI 1) d_Mo_canPass_10 rfl ?_
    refine E_goto 15 d_Mo_canPass_11 rfl ?_
    refine E_retZ d_Mo_canPass_15 rfl (by decide) ?_
    first | exact And.intro (pI_t h7).symm rfl | exact And.intro (pI_f (Nat.not_lt.mpr h7)).symm rfl
theorem sp_Mo_canTell {G : Geo} {M : Mem} {a : Nat} {m : Mo} (hG : GC G) (ha : MoAd a) (hm : MoC m a M) (hk : Mok m) (x : Int32) : E 1 0 0 Y_Mo_canTell 0 [some (.ref a), some (.int x)] [] G M (QI G fun r M' => r = pI (inN x (m.people + 1) ∧ m.round < 9999) ∧ M' = M) := by
  have hp8 := hk.p8
  have k1 : ¬ x < 0 → ¬ nI m.people < x → m.round < 9999 → nI 1 = pI (inN x (m.people + 1) ∧ m.round < 9999) := fun h h' h2 => (pI_t ⟨by rw [lt_toInt] at h; rw [lt_toInt, nI_toInt (by omega)] at h'; have := z32; unfold inN; omega, h2⟩).symm
  have k2 : x < 0 → nI 0 = pI (inN x (m.people + 1) ∧ m.round < 9999) := fun h => (pI_f (fun q => by rw [lt_toInt] at h; have := z32; have := q.1; unfold inN at this; omega)).symm
  have k3 : nI m.people < x → nI 0 = pI (inN x (m.people + 1) ∧ m.round < 9999) := fun h => (pI_f (fun q => by rw [lt_toInt, nI_toInt (by omega)] at h; have := q.1; unfold inN at this; omega)).symm
  have k4 : ¬ m.round < 9999 → nI 0 = pI (inN x (m.people + 1) ∧ m.round < 9999) := fun h => (pI_f (fun q => h q.2)).symm
  refine E_iload_n d_Mo_canTell_0 rfl ?_
  first | (with_reducible refine E_isN1 ?_; refine E_if_lt 23 d_Mo_canTell_1 rfl (nz_lt (by omega) fun h1 => ?_) (nz_nlt (by omega) fun h1 => ?_)) | refine E_if_lt 23 d_Mo_canTell_1 rfl (fun h1 => ?_) (fun h1 => ?_)
  · refine E_iconst (v := nI 0) d_Mo_canTell_23 rfl ?_
    refine E_retZ d_Mo_canTell_24 rfl (by decide) ?_
    first | exact And.intro (k2 h1) rfl | exact And.intro (k3 h9) rfl | exact And.intro (k4 h16) rfl | exact And.intro (k1 h1 h9 h16) rfl
  · refine E_iload_n d_Mo_canTell_4 rfl ?_
    first | refine E_aload_n d_Mo_canTell_5 rfl ?_ | refine E_aload_nN d_Mo_canTell_5 rfl ?_
    refine E_getI d_Mo_canTell_6 gf_Mo_28 (by first | exact hG.m ha | exact hG.m1 ha | exact hG.m2 ha | exact hG.s (by decide) rfl) (by first | exact hm.people | exact hm.answers | exact hm.figure | exact hm.round | exact hm.x | exact hm.written) ?_
    first | (with_reducible refine E_isN2 ?_; refine E_icmp_gt 23 d_Mo_canTell_9 rfl (nb_lt (by omega) (by omega) fun h9 => ?_) (nb_nlt (by omega) (by omega) fun h9 => ?_)) | refine E_icmp_gt 23 d_Mo_canTell_9 rfl (fun h9 => ?_) (fun h9 => ?_)
    · refine E_iconst (v := nI 0) d_Mo_canTell_23 rfl ?_
      refine E_retZ d_Mo_canTell_24 rfl (by decide) ?_
      first | exact And.intro (k2 h1) rfl | exact And.intro (k3 h9) rfl | exact And.intro (k4 h16) rfl | exact And.intro (k1 h1 h9 h16) rfl
    · first | refine E_aload_n d_Mo_canTell_12 rfl ?_ | refine E_aload_nN d_Mo_canTell_12 rfl ?_
      refine E_V0 (sp_Mo_canPass hG ha hm hk) d_Mo_canTell_13 ml_Mo_43 cb_Mo_canPass cv_Mo_canPass (by first | exact hG.m ha | exact hG.m1 ha | exact hG.m2 ha | exact hG.s (by decide) rfl) ⟨by decide, rfl⟩ ⟨by decide, by decide⟩ rfl (Nat.le_of_ble_eq_true rfl) (Nat.le_of_ble_eq_true rfl) (kI fun r1 M1 hc => ?_)
      obtain ⟨rfl, rfl⟩ := hc
      first | (with_reducible refine E_isP ?_; refine E_if_eq 23 d_Mo_canTell_16 rfl (pb_0 fun h16 => ?_) (pb_1 fun h16 => ?_)) | (with_reducible refine E_isN1 ?_; refine E_if_eq 23 d_Mo_canTell_16 rfl (nz_eq (by omega) fun h16 => ?_) (nz_ne fun h16 => ?_)) | refine E_if_eq 23 d_Mo_canTell_16 rfl (fun h16 => ?_) (fun h16 => ?_)
      · refine E_iconst (v := nI 0) d_Mo_canTell_23 rfl ?_
        refine E_retZ d_Mo_canTell_24 rfl (by decide) ?_
        first | exact And.intro (k2 h1) rfl | exact And.intro (k3 h9) rfl | exact And.intro (k4 h16) rfl | exact And.intro (k1 h1 h9 h16) rfl
      · refine E_iconst (v := nI 1) d_Mo_canTell_19 rfl ?_
        refine E_goto 24 d_Mo_canTell_20 rfl ?_
        refine E_retZ d_Mo_canTell_24 rfl (by decide) ?_
        first | exact And.intro (k2 h1) rfl | exact And.intro (k3 h9) rfl | exact And.intro (k4 h16) rfl | exact And.intro (k1 h1 h9 h16) rfl
abbrev nudM (m : Mo) (x y : Int32) : Prop := inN x m.people ∧ (-9 ≤ y.toInt ∧ y.toInt ≤ 9) ∧ y.toInt ≠ 0 ∧ 0 ≤ (m.lean (tN x) : Int) + y.toInt ∧ (m.lean (tN x) : Int) + y.toInt ≤ 9
theorem sp_Mo_canNudge {G : Geo} {M : Mem} {a : Nat} {m : Mo} (hG : GC G) (hR : RC M) (ha : MoAd a) (hm : MoC m a M) (hk : Mok m) (x y : Int32) : E 1 0 0 Y_Mo_canNudge 0 [some (.ref a), some (.int x), some (.int y), none] [] G M (QI G fun r M' => r = pI (nudM m x y) ∧ M' = M) := by
  have hp8 := hk.p8
  have h0 : y = 0 ↔ y.toInt = 0 := ⟨fun q => by rw [q]; rfl, fun q => by rw [iI_of y, q]; rfl⟩
  have em9 : (-9 : Int32).toInt = -9 := by decide
  by_cases hx : inN x m.people
  · obtain ⟨ex, hlt⟩ := in_nI hx
    have hl9 := hk.lean9 (tN x)
    have el := hm.lean hlt
    have b1 : y < (-9) → ¬ nudM m x y := fun h q => by rw [lt_toInt, em9] at h; have := q.2.1; omega
    have b2 : ¬ y ≤ nI 9 → ¬ nudM m x y := fun h q => by rw [le_toInt, nI_toInt (by decide)] at h; have := q.2.1; omega
    have b3 : y = 0 → ¬ nudM m x y := fun h q => q.2.2.1 (h0.mp h)
    have b6 : ¬ y < (-9) → y ≤ nI 9 → (-9 ≤ y.toInt ∧ y.toInt ≤ 9) := fun h h' => by rw [lt_toInt, em9] at h; rw [le_toInt, nI_toInt (by decide)] at h'; omega
    have b4 : ¬ y < (-9) → y ≤ nI 9 → nI (m.lean (tN x)) + y < 0 → ¬ nudM m x y := fun h h' h'' q => by rw [lt_toInt, lean_add hl9 (b6 h h'), z32] at h''; have := q.2.2.2; omega
    have b5 : ¬ y < (-9) → y ≤ nI 9 → nI 9 < nI (m.lean (tN x)) + y → ¬ nudM m x y := fun h h' h'' q => by rw [lt_toInt, lean_add hl9 (b6 h h'), nI_toInt (by decide)] at h''; have := q.2.2.2; omega
    have b7 : ¬ y = 0 → ¬ y < (-9) → y ≤ nI 9 → ¬ nI (m.lean (tN x)) + y < 0 → ¬ nI 9 < nI (m.lean (tN x)) + y → nudM m x y := fun h1 h h' h2 h3 => by
      rw [lt_toInt, lean_add hl9 (b6 h h'), z32] at h2
      rw [lt_toInt, lean_add hl9 (b6 h h'), nI_toInt (by decide)] at h3
      exact ⟨hx, b6 h h', fun q => h1 (h0.mpr q), by omega, by omega⟩
    clear h0
    rw [ex] at hx ⊢
    rw [← ex]
    rw [ex]
    have e2 : nudM m (nI (tN x)) y ↔ nudM m x y := by rw [← ex]
    rw [pI_congr e2]
    first | refine E_aload_n d_Mo_canNudge_0 rfl ?_ | refine E_aload_nN d_Mo_canNudge_0 rfl ?_
    refine E_iload_n d_Mo_canNudge_1 rfl ?_
    refine E_V1 (sp_Mo_hasPerson hG ha hm hk _) d_Mo_canNudge_2 ml_Mo_47 cb_Mo_hasPerson cv_Mo_hasPerson (by first | exact hG.m ha | exact hG.m1 ha | exact hG.m2 ha | exact hG.s (by decide) rfl) ⟨by decide, rfl⟩ ⟨by decide, by decide⟩ rfl (Nat.le_of_ble_eq_true rfl) (Nat.le_of_ble_eq_true rfl) (kI fun r1 M1 hc => ?_)
    obtain ⟨rfl, rfl⟩ := hc
    first | (with_reducible refine E_isP ?_; refine E_if_eq 24 d_Mo_canNudge_5 rfl (pb_0 fun h5 => ?_) (pb_1 fun h5 => ?_)) | (with_reducible refine E_isN1 ?_; refine E_if_eq 24 d_Mo_canNudge_5 rfl (nz_eq (by omega) fun h5 => ?_) (nz_ne fun h5 => ?_)) | refine E_if_eq 24 d_Mo_canNudge_5 rfl (fun h5 => ?_) (fun h5 => ?_)
    · exfalso; exact h5 hx
    refine E_iload_n d_Mo_canNudge_8 rfl ?_
    first | (with_reducible refine E_isP ?_; refine E_if_eq 24 d_Mo_canNudge_9 rfl (pb_0 fun h9 => ?_) (pb_1 fun h9 => ?_)) | (with_reducible refine E_isN1 ?_; refine E_if_eq 24 d_Mo_canNudge_9 rfl (nz_eq (by omega) fun h9 => ?_) (nz_ne fun h9 => ?_)) | refine E_if_eq 24 d_Mo_canNudge_9 rfl (fun h9 => ?_) (fun h9 => ?_)
    · refine E_iconst (v := nI 0) d_Mo_canNudge_24 rfl ?_
      refine E_retZ d_Mo_canNudge_25 rfl (by decide) ?_
      first | exact And.intro (pI_f (b3 h9)).symm rfl | exact And.intro (pI_f (b1 h15)).symm rfl | exact And.intro (pI_f (b2 h21)).symm rfl | exact And.intro (pI_f (b4 h15 h21 h38)).symm rfl | exact And.intro (pI_f (b5 h15 h21 h44)).symm rfl | exact And.intro (pI_t (b7 h9 h15 h21 h38 h44)).symm rfl
    · refine E_iload_n d_Mo_canNudge_12 rfl ?_
      refine E_bipush (v := (-9)) d_Mo_canNudge_13 (by decide) ?_
      first | (with_reducible refine E_isN2 ?_; refine E_icmp_lt 24 d_Mo_canNudge_15 rfl (nb_lt (by omega) (by omega) fun h15 => ?_) (nb_nlt (by omega) (by omega) fun h15 => ?_)) | refine E_icmp_lt 24 d_Mo_canNudge_15 rfl (fun h15 => ?_) (fun h15 => ?_)
      · refine E_iconst (v := nI 0) d_Mo_canNudge_24 rfl ?_
        refine E_retZ d_Mo_canNudge_25 rfl (by decide) ?_
        first | exact And.intro (pI_f (b3 h9)).symm rfl | exact And.intro (pI_f (b1 h15)).symm rfl | exact And.intro (pI_f (b2 h21)).symm rfl | exact And.intro (pI_f (b4 h15 h21 h38)).symm rfl | exact And.intro (pI_f (b5 h15 h21 h44)).symm rfl | exact And.intro (pI_t (b7 h9 h15 h21 h38 h44)).symm rfl
      · refine E_iload_n d_Mo_canNudge_18 rfl ?_
        refine E_bipush (v := nI 9) d_Mo_canNudge_19 (by decide) ?_
        first | (with_reducible refine E_isN2 ?_; refine E_icmp_le 26 d_Mo_canNudge_21 rfl (nb_le (by omega) (by omega) fun h21 => ?_) (nb_nle (by omega) (by omega) fun h21 => ?_)) | refine E_icmp_le 26 d_Mo_canNudge_21 rfl (fun h21 => ?_) (fun h21 => ?_)
        · first | refine E_aload_n d_Mo_canNudge_26 rfl ?_ | refine E_aload_nN d_Mo_canNudge_26 rfl ?_
          refine E_getR d_Mo_canNudge_27 gf_Mo_9 (by first | exact hG.m ha | exact hG.m1 ha | exact hG.m2 ha | exact hG.s (by decide) rfl) (by first | exact hR.m0 ha | exact hR.m1 ha | exact hR.o rfl) ?_
          refine E_iload_n d_Mo_canNudge_30 rfl ?_
          refine E_SN2 (sp_TP_at (hG.m1 ha) (by decide) (by omega) el) d_Mo_canNudge_31 nl_Mo_51 cb_TP_at cs_TP_at ⟨by decide, by decide⟩ rfl (Nat.le_of_ble_eq_true rfl) (Nat.le_of_ble_eq_true rfl) (kI fun r1 M1 hc => ?_)
          obtain ⟨rfl, rfl⟩ := hc
          refine E_iload_n d_Mo_canNudge_34 rfl ?_
          first | (with_reducible refine E_isN2 ?_; refine E_iaddN d_Mo_canNudge_35 ?_) | refine E_iadd d_Mo_canNudge_35 ?_
          refine E_istore_3 d_Mo_canNudge_36 rfl ?_
          refine E_iload_n d_Mo_canNudge_37 rfl ?_
          first | (with_reducible refine E_isN1 ?_; refine E_if_lt 51 d_Mo_canNudge_38 rfl (nz_lt (by omega) fun h38 => ?_) (nz_nlt (by omega) fun h38 => ?_)) | refine E_if_lt 51 d_Mo_canNudge_38 rfl (fun h38 => ?_) (fun h38 => ?_)
          · refine E_iconst (v := nI 0) d_Mo_canNudge_51 rfl ?_
            refine E_retZ d_Mo_canNudge_52 rfl (by decide) ?_
            first | exact And.intro (pI_f (b3 h9)).symm rfl | exact And.intro (pI_f (b1 h15)).symm rfl | exact And.intro (pI_f (b2 h21)).symm rfl | exact And.intro (pI_f (b4 h15 h21 h38)).symm rfl | exact And.intro (pI_f (b5 h15 h21 h44)).symm rfl | exact And.intro (pI_t (b7 h9 h15 h21 h38 h44)).symm rfl
          · refine E_iload_n d_Mo_canNudge_41 rfl ?_
            refine E_bipush (v := nI 9) d_Mo_canNudge_42 (by decide) ?_
            first | (with_reducible refine E_isN2 ?_; refine E_icmp_gt 51 d_Mo_canNudge_44 rfl (nb_lt (by omega) (by omega) fun h44 => ?_) (nb_nlt (by omega) (by omega) fun h44 => ?_)) | refine E_icmp_gt 51 d_Mo_canNudge_44 rfl (fun h44 => ?_) (fun h44 => ?_)
            · refine E_iconst (v := nI 0) d_Mo_canNudge_51 rfl ?_
              refine E_retZ d_Mo_canNudge_52 rfl (by decide) ?_
              first | exact And.intro (pI_f (b3 h9)).symm rfl | exact And.intro (pI_f (b1 h15)).symm rfl | exact And.intro (pI_f (b2 h21)).symm rfl | exact And.intro (pI_f (b4 h15 h21 h38)).symm rfl | exact And.intro (pI_f (b5 h15 h21 h44)).symm rfl | exact And.intro (pI_t (b7 h9 h15 h21 h38 h44)).symm rfl
            · refine E_iconst (v := nI 1) d_Mo_canNudge_47 rfl ?_
              refine E_goto 52 d_Mo_canNudge_48 rfl ?_
              refine E_retZ d_Mo_canNudge_52 rfl (by decide) ?_
              first | exact And.intro (pI_f (b3 h9)).symm rfl | exact And.intro (pI_f (b1 h15)).symm rfl | exact And.intro (pI_f (b2 h21)).symm rfl | exact And.intro (pI_f (b4 h15 h21 h38)).symm rfl | exact And.intro (pI_f (b5 h15 h21 h44)).symm rfl | exact And.intro (pI_t (b7 h9 h15 h21 h38 h44)).symm rfl
        · refine E_iconst (v := nI 0) d_Mo_canNudge_24 rfl ?_
          refine E_retZ d_Mo_canNudge_25 rfl (by decide) ?_
          first | exact And.intro (pI_f (b3 h9)).symm rfl | exact And.intro (pI_f (b1 h15)).symm rfl | exact And.intro (pI_f (b2 h21)).symm rfl | exact And.intro (pI_f (b4 h15 h21 h38)).symm rfl | exact And.intro (pI_f (b5 h15 h21 h44)).symm rfl | exact And.intro (pI_t (b7 h9 h15 h21 h38 h44)).symm rfl
  · first | refine E_aload_n d_Mo_canNudge_0 rfl ?_ | refine E_aload_nN d_Mo_canNudge_0 rfl ?_
    refine E_iload_n d_Mo_canNudge_1 rfl ?_
    refine E_V1 (sp_Mo_hasPerson hG ha hm hk _) d_Mo_canNudge_2 ml_Mo_47 cb_Mo_hasPerson cv_Mo_hasPerson (by first | exact hG.m ha | exact hG.m1 ha | exact hG.m2 ha | exact hG.s (by decide) rfl) ⟨by decide, rfl⟩ ⟨by decide, by decide⟩ rfl (Nat.le_of_ble_eq_true rfl) (Nat.le_of_ble_eq_true rfl) (kI fun r1 M1 hc => ?_)
    obtain ⟨rfl, rfl⟩ := hc
    first | (with_reducible refine E_isP ?_; refine E_if_eq 24 d_Mo_canNudge_5 rfl (pb_0 fun h5 => ?_) (pb_1 fun h5 => ?_)) | (with_reducible refine E_isN1 ?_; refine E_if_eq 24 d_Mo_canNudge_5 rfl (nz_eq (by omega) fun h5 => ?_) (nz_ne fun h5 => ?_)) | refine E_if_eq 24 d_Mo_canNudge_5 rfl (fun h5 => ?_) (fun h5 => ?_)
    rotate_left
    · exfalso; exact hx h5
    refine E_iconst (v := nI 0) d_Mo_canNudge_24 rfl ?_
    refine E_retZ d_Mo_canNudge_25 rfl (by decide) ?_
    exact ⟨(pI_f (fun q => hx q.1)).symm, rfl⟩
theorem sp_Mo_allLeans {G : Geo} {M : Mem} {a : Nat} {m : Mo} (hG : GC G) (hR : RC M) (ha : MoAd a) (hm : MoC m a M) (hk : Mok m) : E 1 0 0 Y_Mo_allLeans 0 [some (.ref a), none, none] [] G M (QI G fun r M' => r = nI (sumN m.lean m.people) ∧ M' = M) := by
  have hp8 := hk.p8
  have L : ∀ k p, p + k = m.people → E 1 0 0 Y_Mo_allLeans 4 [some (.ref a), some (.int (nI (sumN m.lean p))), some (.int (nI p))] [] G M (QI G fun r M' => r = nI (sumN m.lean m.people) ∧ M' = M) := by
    intro k
    induction k with
    | zero =>
      intro p hp
      have hp2 : p = m.people := by omega
      subst hp2
      refine E_iload_n d_Mo_allLeans_4 rfl ?_
      first | refine E_aload_n d_Mo_allLeans_5 rfl ?_ | refine E_aload_nN d_Mo_allLeans_5 rfl ?_
      refine E_getI d_Mo_allLeans_6 gf_Mo_28 (by first | exact hG.m ha | exact hG.m1 ha | exact hG.m2 ha | exact hG.s (by decide) rfl) (by first | exact hm.people | exact hm.answers | exact hm.figure | exact hm.round | exact hm.x | exact hm.written) ?_
      first | (with_reducible refine E_isN2 ?_; refine E_icmp_ge 29 d_Mo_allLeans_9 rfl (nb_le (by omega) (by omega) fun h9 => ?_) (nb_nle (by omega) (by omega) fun h9 => ?_)) | refine E_icmp_ge 29 d_Mo_allLeans_9 rfl (fun h9 => ?_) (fun h9 => ?_)
      rotate_left
      · exfalso; omega
      refine E_iload_n d_Mo_allLeans_29 rfl ?_
      refine E_retI d_Mo_allLeans_30 rfl ?_
      exact ⟨rfl, rfl⟩
    | succ k ih =>
      intro p hp
      refine E_iload_n d_Mo_allLeans_4 rfl ?_
      first | refine E_aload_n d_Mo_allLeans_5 rfl ?_ | refine E_aload_nN d_Mo_allLeans_5 rfl ?_
      refine E_getI d_Mo_allLeans_6 gf_Mo_28 (by first | exact hG.m ha | exact hG.m1 ha | exact hG.m2 ha | exact hG.s (by decide) rfl) (by first | exact hm.people | exact hm.answers | exact hm.figure | exact hm.round | exact hm.x | exact hm.written) ?_
      first | (with_reducible refine E_isN2 ?_; refine E_icmp_ge 29 d_Mo_allLeans_9 rfl (nb_le (by omega) (by omega) fun h9 => ?_) (nb_nle (by omega) (by omega) fun h9 => ?_)) | refine E_icmp_ge 29 d_Mo_allLeans_9 rfl (fun h9 => ?_) (fun h9 => ?_)
      · exfalso; omega
      refine E_iload_n d_Mo_allLeans_12 rfl ?_
      first | refine E_aload_n d_Mo_allLeans_13 rfl ?_ | refine E_aload_nN d_Mo_allLeans_13 rfl ?_
      refine E_getR d_Mo_allLeans_14 gf_Mo_9 (by first | exact hG.m ha | exact hG.m1 ha | exact hG.m2 ha | exact hG.s (by decide) rfl) (by first | exact hR.m0 ha | exact hR.m1 ha | exact hR.o rfl) ?_
      refine E_iload_n d_Mo_allLeans_17 rfl ?_
      refine E_SN2 (sp_TP_at (hG.m1 ha) (by decide) (by omega) (hm.lean (by omega))) d_Mo_allLeans_18 nl_Mo_51 cb_TP_at cs_TP_at ⟨by decide, by decide⟩ rfl (Nat.le_of_ble_eq_true rfl) (Nat.le_of_ble_eq_true rfl) (kI fun r1 M1 hc => ?_)
      obtain ⟨rfl, rfl⟩ := hc
      first | (with_reducible refine E_isN2 ?_; refine E_iaddN d_Mo_allLeans_21 ?_) | refine E_iadd d_Mo_allLeans_21 ?_
      refine E_istore_1 d_Mo_allLeans_22 rfl ?_
      first | (with_reducible refine E_isL2 ?_; refine E_iincN2 (m := 1) d_Mo_allLeans_23 rfl rfl ?_) | refine E_iinc_2 d_Mo_allLeans_23 rfl rfl ?_
      refine E_goto 4 d_Mo_allLeans_26 rfl ?_
      exact ih (p + 1) (by omega)
  refine E_iconst (v := nI 0) d_Mo_allLeans_0 rfl ?_
  refine E_istore_1 d_Mo_allLeans_1 rfl ?_
  refine E_iconst (v := nI 0) d_Mo_allLeans_2 rfl ?_
  refine E_istore_2 d_Mo_allLeans_3 rfl ?_
  exact L m.people 0 (Nat.zero_add _)
theorem sp_Mo_drawX {G : Geo} {M : Mem} {a : Nat} {m : Mo} (hG : GC G) (ha : MoAd a) (hm : MoC m a M) (hk : Mok m) : E 0 0 0 Y_Mo_drawX 0 [some (.ref a), none] [] G M (QI G fun r M' => r = nI m.x ∧ M' = wI M a 6 (nI (nx m.x))) := by
  have hx := hk.x
  first | refine E_aload_n d_Mo_drawX_0 rfl ?_ | refine E_aload_nN d_Mo_drawX_0 rfl ?_
  refine E_getI d_Mo_drawX_1 gf_Mo_18 (by first | exact hG.m ha | exact hG.m1 ha | exact hG.m2 ha | exact hG.s (by decide) rfl) (by first | exact hm.people | exact hm.answers | exact hm.figure | exact hm.round | exact hm.x | exact hm.written) ?_
  refine E_istore_1 d_Mo_drawX_4 rfl ?_
  first | refine E_aload_n d_Mo_drawX_5 rfl ?_ | refine E_aload_nN d_Mo_drawX_5 rfl ?_
  first | refine E_aload_n d_Mo_drawX_6 rfl ?_ | refine E_aload_nN d_Mo_drawX_6 rfl ?_
  refine E_getI d_Mo_drawX_7 gf_Mo_18 (by first | exact hG.m ha | exact hG.m1 ha | exact hG.m2 ha | exact hG.s (by decide) rfl) (by first | exact hm.people | exact hm.answers | exact hm.figure | exact hm.round | exact hm.x | exact hm.written) ?_
  refine E_sipush (v := nI 709) d_Mo_drawX_10 (by decide) ?_
  first | (with_reducible refine E_isN2 ?_; refine E_imulN d_Mo_drawX_13 ?_) | refine E_imul d_Mo_drawX_13 ?_
  refine E_sipush (v := nI 577) d_Mo_drawX_14 (by decide) ?_
  first | (with_reducible refine E_isN2 ?_; refine E_iaddN d_Mo_drawX_17 ?_) | refine E_iadd d_Mo_drawX_17 ?_
  refine E_sipush (v := nI 31033) d_Mo_drawX_18 (by decide) ?_
  first | (with_reducible refine E_isN2 ?_; refine E_iremN d_Mo_drawX_21 (by omega) (by omega) (by omega) ?_) | refine E_irem d_Mo_drawX_21 (by decide) ?_
  refine E_putI d_Mo_drawX_22 gf_Mo_18 (by first | exact hG.m ha | exact hG.m1 ha | exact hG.m2 ha | exact hG.s (by decide) rfl) rfl rfl ?_
  refine E_iload_n d_Mo_drawX_25 rfl ?_
  refine E_retI d_Mo_drawX_26 rfl ?_
  exact ⟨rfl, rfl⟩
theorem MoC.setX {m : Mo} {a x : Nat} {M : Mem} (h : MoC m a M) : MoC (m.setX x) a (wI M a 6 (nI x)) := by
  have ne : ∀ j, j ≠ 6 → mI (wI M a 6 (nI x)) a j = mI M a j := fun j hj => (mI_wa j).trans (if_neg hj)
  have e1 : mI (wI M a 6 (nI x)) (a + 1) = mI M (a + 1) := mI_ne (by omega)
  have e2 : mI (wI M a 6 (nI x)) (a + 2) = mI M (a + 2) := mI_ne (by omega)
  obtain ⟨m0, m1, m2, m3, m4, m5, m6, m7⟩ := h
  refine ⟨(ne _ (by decide)).trans m0, (ne _ (by decide)).trans m1, (ne _ (by decide)).trans m2, (ne _ (by decide)).trans m3, (mI_wa 6).trans (if_pos rfl), (ne _ (by decide)).trans m5, ?_, ?_⟩
  · rw [e1]; exact m6
  · rw [e2]; exact m7
theorem sp_Mo_bookAt {G : Geo} {M : Mem} {a i w : Nat} {m : Mo} {v : Int32} (hG : GC G) (hR : RC M) (ha : MoAd a) (hm : MoC m a M) (hk : Mok m) (hi : i < m.book.length) (hw : w ≤ 2) (hv : mI M (a + 2) (i * 3 + w) = v) : E 1 0 0 Y_Mo_bookAt 0 [some (.ref a), some (.int (nI i)), some (.int (nI w))] [] G M (QI G fun r M' => r = v ∧ M' = M) := by
  have hb := hk.book
  first | refine E_aload_n d_Mo_bookAt_0 rfl ?_ | refine E_aload_nN d_Mo_bookAt_0 rfl ?_
  refine E_getR d_Mo_bookAt_1 gf_Mo_15 (by first | exact hG.m ha | exact hG.m1 ha | exact hG.m2 ha | exact hG.s (by decide) rfl) (by first | exact hR.m0 ha | exact hR.m1 ha | exact hR.o rfl) ?_
  refine E_iload_n d_Mo_bookAt_4 rfl ?_
  refine E_iconst (v := nI 3) d_Mo_bookAt_5 rfl ?_
  first | (with_reducible refine E_isN2 ?_; refine E_imulN d_Mo_bookAt_6 ?_) | refine E_imul d_Mo_bookAt_6 ?_
  refine E_iload_n d_Mo_bookAt_7 rfl ?_
  first | (with_reducible refine E_isN2 ?_; refine E_iaddN d_Mo_bookAt_8 ?_) | refine E_iadd d_Mo_bookAt_8 ?_
  refine E_SN2 (sp_TP_at (hG.m2 ha) (by decide) (by omega) hv) d_Mo_bookAt_9 nl_Mo_51 cb_TP_at cs_TP_at ⟨by decide, by decide⟩ rfl (Nat.le_of_ble_eq_true rfl) (Nat.le_of_ble_eq_true rfl) (kI fun r1 M1 hc => ?_)
  obtain ⟨rfl, rfl⟩ := hc
  refine E_retI d_Mo_bookAt_12 rfl ?_
  exact ⟨rfl, rfl⟩
