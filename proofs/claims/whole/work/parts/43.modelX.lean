theorem fl1 {M M' : Mem} {x : Int32} (g : Sx S1 M M') (h : mI M 0 23 = x) : mI M' 0 23 = x := by rw [(g.2 0 (by unfold S1 SQ; decide)).1]; exact h
theorem nI_inj {a b : Nat} (ha : a < 2147483648) (hb : b < 2147483648) (h : nI a = nI b) : a = b := (nI_eq ha hb).mp h
def tellS (c : Cr) (f : Nat) : Cr := passS true (keepS c) f
theorem sp_TM_tellB {c : Cr} {M : Mem} {f : Nat} (hM : HM c M) (hw : mI M 0 23 = nI 1) (hf : f ≤ 8) (hr : c.now.round < 9999) : E 6 0 0 Y_TM_tell 22 [some (.ref 0), some (.int (nI f))] [] GM M (QI GM fun r M' => r = nI (tellS c f).now.figure ∧ HM (tellS c f) M' ∧ Sx S1 M M') := by
  first | refine E_aload_n d_TM_tell_22 rfl ?_ | refine E_aload_nN d_TM_tell_22 rfl ?_
  refine E_V0 (sp_TM_keep hM) d_TM_tell_23 ml_TM_314 cb_TM_keep cv_TM_keep (by exact ⟨by decide, rfl⟩) ⟨by decide, rfl⟩ ⟨by decide, by decide⟩ rfl (Nat.le_of_ble_eq_true rfl) (Nat.le_of_ble_eq_true rfl) (kV fun M1 hc => ?_)
  obtain ⟨hM1, hS1⟩ := hc
  have hX1 : Sx S1 M M1 := hS1.wk fun _ => S01.s
  have hw1 := fl1 hX1 hw
  first | refine E_aload_n d_TM_tell_26 rfl ?_ | refine E_aload_nN d_TM_tell_26 rfl ?_
  refine E_iload_n d_TM_tell_27 rfl ?_
  refine E_V1 (sp_TM_pass (c := keepS c) true hM1 hw1 hf hr) d_TM_tell_28 ml_TM_317 cb_TM_pass cv_TM_pass (by exact ⟨by decide, rfl⟩) ⟨by decide, rfl⟩ ⟨by decide, by decide⟩ rfl (Nat.le_of_ble_eq_true rfl) (Nat.le_of_ble_eq_true rfl) (kV fun M1 hc => ?_)
  obtain ⟨hM2, hS2⟩ := hc
  have hR := hM2.R
  first | refine E_aload_n d_TM_tell_31 rfl ?_ | refine E_aload_nN d_TM_tell_31 rfl ?_
  refine E_getR (q := 1) d_TM_tell_32 gf_TM_7 (by exact ⟨by decide, rfl⟩) (by exact hR _ rfl) ?_
  refine E_bipush (v := nI 7) d_TM_tell_35 (by decide) ?_
  refine E_iald d_TM_tell_37 (by exact ⟨by decide, rfl⟩) (by exact ⟨by with_reducible rfl, by omega, by decide⟩) (by exact hM2.A.figure) ?_
  refine E_retI d_TM_tell_38 rfl ?_
  exact ⟨rfl, hM2, hX1.tr hS2⟩
def st_tell (c : Cr) (x : Int32) : Cr := if inN x (c.now.people + 1) ∧ c.now.round ≠ 9999 then tellS c (tN x) else c
def ans_tell (c : Cr) (x : Int32) : Int32 := if inN x (c.now.people + 1) ∧ c.now.round ≠ 9999 then nI (tellS c (tN x)).now.figure else -1
theorem sp_TM_tell {c : Cr} {M : Mem} (hM : HM c M) (hw : mI M 0 23 = nI 1) (x : Int32) : E 6 0 0 Y_TM_tell 0 [some (.ref 0), some (.int x)] [] GM M (QI GM fun r M' => r = ans_tell c x ∧ HM (st_tell c x) M' ∧ Sx S1 M M') := by
  have hR := hM.R
  have hA := hM.A
  have hwf := hM.w
  have hp8 := hwf.p8
  have hr := hwf.round
  have er := hA.round
  revert x
  refine args1 (c.now.people + 1) (fun f hf hx ht => ?_) (fun x hx => ?_)
  · by_cases h9 : c.now.round = 9999
    · first | refine E_aload_n d_TM_tell_0 rfl ?_ | refine E_aload_nN d_TM_tell_0 rfl ?_
      refine E_iload_n d_TM_tell_1 rfl ?_
      refine E_V1 (sp_TM_canBeTold hR hA hwf _) d_TM_tell_2 ml_TM_311 cb_TM_canBeTold cv_TM_canBeTold (by exact ⟨by decide, rfl⟩) ⟨by decide, rfl⟩ ⟨by decide, by decide⟩ rfl (Nat.le_of_ble_eq_true rfl) (Nat.le_of_ble_eq_true rfl) (kI fun r1 M1 hc => ?_)
      obtain ⟨rfl, rfl⟩ := hc
      first | (with_reducible refine E_isP ?_; refine E_if_eq 20 d_TM_tell_5 rfl (pb_0 fun h5 => ?_) (pb_1 fun h5 => ?_)) | (with_reducible refine E_isN1 ?_; refine E_if_eq 20 d_TM_tell_5 rfl (nz_eq (by omega) fun h5 => ?_) (nz_ne fun h5 => ?_)) | refine E_if_eq 20 d_TM_tell_5 rfl (fun h5 => ?_) (fun h5 => ?_)
      · exfalso; exact h5 hx
      first | refine E_aload_n d_TM_tell_8 rfl ?_ | refine E_aload_nN d_TM_tell_8 rfl ?_
      refine E_getR (q := 1) d_TM_tell_9 gf_TM_7 (by exact ⟨by decide, rfl⟩) (by exact hR _ rfl) ?_
      refine E_iconst (v := nI 5) d_TM_tell_12 rfl ?_
      refine E_iald d_TM_tell_13 (by exact ⟨by decide, rfl⟩) (by exact ⟨by with_reducible rfl, by omega, by decide⟩) (by exact er) ?_
      refine E_sipush (v := nI 9999) d_TM_tell_14 (by decide) ?_
      first | (with_reducible refine E_isN2 ?_; refine E_icmp_ne 22 d_TM_tell_17 rfl (nb_ne fun h17 => ?_) (nb_eq (by omega) (by omega) fun h17 => ?_)) | refine E_icmp_ne 22 d_TM_tell_17 rfl (fun h17 => ?_) (fun h17 => ?_)
      · exfalso; exact h17 h9
      refine E_iconst (v := (-1)) d_TM_tell_20 rfl ?_
      refine E_retI d_TM_tell_21 rfl ?_
      exact ⟨by rw [ans_tell, if_neg (fun q => q.2 h9)], by rw [st_tell, if_neg (fun q => q.2 h9)]; exact hM, Sx.rf⟩
    · have K := sp_TM_tellB (f := f) hM hw (by omega) (by omega)
      rw [ans_tell, st_tell, if_pos ⟨hx, h9⟩, if_pos ⟨hx, h9⟩, ht]
      first | refine E_aload_n d_TM_tell_0 rfl ?_ | refine E_aload_nN d_TM_tell_0 rfl ?_
      refine E_iload_n d_TM_tell_1 rfl ?_
      refine E_V1 (sp_TM_canBeTold hR hA hwf _) d_TM_tell_2 ml_TM_311 cb_TM_canBeTold cv_TM_canBeTold (by exact ⟨by decide, rfl⟩) ⟨by decide, rfl⟩ ⟨by decide, by decide⟩ rfl (Nat.le_of_ble_eq_true rfl) (Nat.le_of_ble_eq_true rfl) (kI fun r1 M1 hc => ?_)
      obtain ⟨rfl, rfl⟩ := hc
      first | (with_reducible refine E_isP ?_; refine E_if_eq 20 d_TM_tell_5 rfl (pb_0 fun h5 => ?_) (pb_1 fun h5 => ?_)) | (with_reducible refine E_isN1 ?_; refine E_if_eq 20 d_TM_tell_5 rfl (nz_eq (by omega) fun h5 => ?_) (nz_ne fun h5 => ?_)) | refine E_if_eq 20 d_TM_tell_5 rfl (fun h5 => ?_) (fun h5 => ?_)
      · exfalso; exact h5 hx
      first | refine E_aload_n d_TM_tell_8 rfl ?_ | refine E_aload_nN d_TM_tell_8 rfl ?_
      refine E_getR (q := 1) d_TM_tell_9 gf_TM_7 (by exact ⟨by decide, rfl⟩) (by exact hR _ rfl) ?_
      refine E_iconst (v := nI 5) d_TM_tell_12 rfl ?_
      refine E_iald d_TM_tell_13 (by exact ⟨by decide, rfl⟩) (by exact ⟨by with_reducible rfl, by omega, by decide⟩) (by exact er) ?_
      refine E_sipush (v := nI 9999) d_TM_tell_14 (by decide) ?_
      first | (with_reducible refine E_isN2 ?_; refine E_icmp_ne 22 d_TM_tell_17 rfl (nb_ne fun h17 => ?_) (nb_eq (by omega) (by omega) fun h17 => ?_)) | refine E_icmp_ne 22 d_TM_tell_17 rfl (fun h17 => ?_) (fun h17 => ?_)
      rotate_left
      · exfalso; exact h9 h17
      exact K
  · first | refine E_aload_n d_TM_tell_0 rfl ?_ | refine E_aload_nN d_TM_tell_0 rfl ?_
    refine E_iload_n d_TM_tell_1 rfl ?_
    refine E_V1 (sp_TM_canBeTold hR hA hwf _) d_TM_tell_2 ml_TM_311 cb_TM_canBeTold cv_TM_canBeTold (by exact ⟨by decide, rfl⟩) ⟨by decide, rfl⟩ ⟨by decide, by decide⟩ rfl (Nat.le_of_ble_eq_true rfl) (Nat.le_of_ble_eq_true rfl) (kI fun r1 M1 hc => ?_)
    obtain ⟨rfl, rfl⟩ := hc
    first | (with_reducible refine E_isP ?_; refine E_if_eq 20 d_TM_tell_5 rfl (pb_0 fun h5 => ?_) (pb_1 fun h5 => ?_)) | (with_reducible refine E_isN1 ?_; refine E_if_eq 20 d_TM_tell_5 rfl (nz_eq (by omega) fun h5 => ?_) (nz_ne fun h5 => ?_)) | refine E_if_eq 20 d_TM_tell_5 rfl (fun h5 => ?_) (fun h5 => ?_)
    rotate_left
    · exfalso; exact hx h5
    refine E_iconst (v := (-1)) d_TM_tell_20 rfl ?_
    refine E_retI d_TM_tell_21 rfl ?_
    exact ⟨by rw [ans_tell, if_neg (fun q => hx q.1)], by rw [st_tell, if_neg (fun q => hx q.1)]; exact hM, Sx.rf⟩
def shiftS (c : Cr) (p : Nat) (z : Int) : Cr := c.setNow (setLean c.now p ((c.now.lean p : Int) + z).toNat)
abbrev nudP (c : Cr) (x y : Int32) : Prop := inN x c.now.people ∧ (-9 ≤ y.toInt ∧ y.toInt ≤ 9) ∧ y.toInt ≠ 0 ∧ 0 ≤ (c.now.lean (tN x) : Int) + y.toInt ∧ (c.now.lean (tN x) : Int) + y.toInt ≤ 9
theorem iI_toInt {z : Int} (h : -1000000000 ≤ z ∧ z ≤ 1000000000) : (iI z).toInt = z :=
  Int32.toInt_ofInt_of_le (by rw [show (-2 ^ 31 : Int) = -2147483648 from by decide]; omega) (by rw [show (2 ^ 31 : Int) = 2147483648 from by decide]; omega)
theorem iI_of (y : Int32) : y = iI y.toInt := (Int32.ofInt_toInt y).symm
theorem lean_add {l : Nat} {y : Int32} (hl : l ≤ 9) (hy : -9 ≤ y.toInt ∧ y.toInt ≤ 9) : (nI l + y).toInt = (l : Int) + y.toInt := by
  have e : nI l + y = iI ((l : Int) + y.toInt) := by
    rw [← iI_add, ← nI_iI, ← iI_of]
  rw [e, iI_toInt ⟨by omega, by omega⟩]
theorem isIn_m {x : Int32} {n m : Nat} (hn : n < 2147483648) (hm : m < 1000000) : (iI (-(m : Int)) ≤ x ∧ x ≤ nI n) ↔ (-(m : Int) ≤ x.toInt ∧ x.toInt ≤ n) := by
  rw [le_toInt, le_toInt, nI_toInt hn, iI_toInt ⟨by omega, by omega⟩]
theorem sp_TM_canNudge {c : Cr} {M : Mem} (hM : HM c M) (x y : Int32) : E 2 0 0 Y_TM_canNudge 0 [some (.ref 0), some (.int x), some (.int y)] [] GM M (QI GM fun r M' => r = pI (nudP c x y) ∧ M' = M) := by
  have hR := hM.R
  have hA := hM.A
  have hwf := hM.w
  have hp8 := hwf.p8
  have h9 : ((-9) ≤ y ∧ y ≤ nI 9) ↔ (-9 ≤ y.toInt ∧ y.toInt ≤ 9) := isIn_m (x := y) (n := 9) (m := 9) (by decide) (by decide)
  have h0 : y = 0 ↔ y.toInt = 0 := ⟨fun q => by rw [q]; rfl, fun q => by rw [iI_of y, q]; rfl⟩
  revert x
  refine args1 c.now.people (fun p hp hx ht => ?_) (fun x hx => ?_)
  · have hl9 := hwf.lean9 p
    have el := hA.lean hp
    have hs : (-9 ≤ y.toInt ∧ y.toInt ≤ 9) → ((nI 0 ≤ nI (c.now.lean p) + y ∧ nI (c.now.lean p) + y ≤ nI 9) ↔ (0 ≤ (c.now.lean p : Int) + y.toInt ∧ (c.now.lean p : Int) + y.toInt ≤ 9)) := fun hy => by
      rw [isIn_lh (by decide) (by decide), lean_add hl9 hy]
      exact Iff.rfl
    have e : nudP c (nI p) y ↔ ((-9 ≤ y.toInt ∧ y.toInt ≤ 9) ∧ y.toInt ≠ 0 ∧ 0 ≤ (c.now.lean p : Int) + y.toInt ∧ (c.now.lean p : Int) + y.toInt ≤ 9) := by
      show (_ ∧ _) ↔ _
      rw [ht]
      exact ⟨fun q => q.2, fun q => ⟨hx, q⟩⟩
    have kA : ¬ ((-9) ≤ y ∧ y ≤ nI 9) → nI 0 = pI ((-9 ≤ y.toInt ∧ y.toInt ≤ 9) ∧ y.toInt ≠ 0 ∧ 0 ≤ (c.now.lean p : Int) + y.toInt ∧ (c.now.lean p : Int) + y.toInt ≤ 9) := fun h => (pI_f (fun q => h (h9.mpr q.1))).symm
    have kB : y = 0 → nI 0 = pI ((-9 ≤ y.toInt ∧ y.toInt ≤ 9) ∧ y.toInt ≠ 0 ∧ 0 ≤ (c.now.lean p : Int) + y.toInt ∧ (c.now.lean p : Int) + y.toInt ≤ 9) := fun h => (pI_f (fun q => q.2.1 (h0.mp h))).symm
    have kC : ((-9) ≤ y ∧ y ≤ nI 9) → ¬ (nI 0 ≤ nI (c.now.lean p) + y ∧ nI (c.now.lean p) + y ≤ nI 9) → nI 0 = pI ((-9 ≤ y.toInt ∧ y.toInt ≤ 9) ∧ y.toInt ≠ 0 ∧ 0 ≤ (c.now.lean p : Int) + y.toInt ∧ (c.now.lean p : Int) + y.toInt ≤ 9) := fun h h' => (pI_f (fun q => h' ((hs (h9.mp h)).mpr q.2.2))).symm
    have kD : ((-9) ≤ y ∧ y ≤ nI 9) → ¬ y = 0 → (nI 0 ≤ nI (c.now.lean p) + y ∧ nI (c.now.lean p) + y ≤ nI 9) → nI 1 = pI ((-9 ≤ y.toInt ∧ y.toInt ≤ 9) ∧ y.toInt ≠ 0 ∧ 0 ≤ (c.now.lean p : Int) + y.toInt ∧ (c.now.lean p : Int) + y.toInt ≤ 9) := fun h h' h'' => (pI_t ⟨h9.mp h, fun q => h' (h0.mpr q), (hs (h9.mp h)).mp h''⟩).symm
    rw [pI_congr e]
    first | refine E_aload_n d_TM_canNudge_0 rfl ?_ | refine E_aload_nN d_TM_canNudge_0 rfl ?_
    refine E_iload_n d_TM_canNudge_1 rfl ?_
    refine E_V1 (sp_TM_isPerson hR hA hwf _) d_TM_canNudge_2 ml_TM_73 cb_TM_isPerson cv_TM_isPerson (by exact ⟨by decide, rfl⟩) ⟨by decide, rfl⟩ ⟨by decide, by decide⟩ rfl (Nat.le_of_ble_eq_true rfl) (Nat.le_of_ble_eq_true rfl) (kI fun r1 M1 hc => ?_)
    obtain ⟨rfl, rfl⟩ := hc
    first | (with_reducible refine E_isP ?_; refine E_if_eq 47 d_TM_canNudge_5 rfl (pb_0 fun h5 => ?_) (pb_1 fun h5 => ?_)) | (with_reducible refine E_isN1 ?_; refine E_if_eq 47 d_TM_canNudge_5 rfl (nz_eq (by omega) fun h5 => ?_) (nz_ne fun h5 => ?_)) | refine E_if_eq 47 d_TM_canNudge_5 rfl (fun h5 => ?_) (fun h5 => ?_)
    · exfalso; exact h5 hx
    refine E_iload_n d_TM_canNudge_8 rfl ?_
    refine E_bipush (v := (-9)) d_TM_canNudge_9 (by decide) ?_
    refine E_bipush (v := nI 9) d_TM_canNudge_11 (by decide) ?_
    refine E_S3 (sp_TM_isIn _ _ _) d_TM_canNudge_13 ml_TM_69 cb_TM_isIn cs_TM_isIn ⟨by decide, by decide⟩ rfl (Nat.le_of_ble_eq_true rfl) (Nat.le_of_ble_eq_true rfl) (kI fun r1 M1 hc => ?_)
    obtain ⟨rfl, rfl⟩ := hc
    first | (with_reducible refine E_isP ?_; refine E_if_eq 47 d_TM_canNudge_16 rfl (pb_0 fun h16 => ?_) (pb_1 fun h16 => ?_)) | (with_reducible refine E_isN1 ?_; refine E_if_eq 47 d_TM_canNudge_16 rfl (nz_eq (by omega) fun h16 => ?_) (nz_ne fun h16 => ?_)) | refine E_if_eq 47 d_TM_canNudge_16 rfl (fun h16 => ?_) (fun h16 => ?_)
    · refine E_iconst (v := nI 0) d_TM_canNudge_47 rfl ?_
      refine E_retZ d_TM_canNudge_48 rfl (by first | exact pI_01 _ | decide) ?_
      first | exact And.intro (kA h16) rfl | exact And.intro (kB h20) rfl | exact And.intro (kC h16 h40) rfl | exact And.intro (kD h16 h20 h40) rfl
    · refine E_iload_n d_TM_canNudge_19 rfl ?_
      first | (with_reducible refine E_isP ?_; refine E_if_eq 47 d_TM_canNudge_20 rfl (pb_0 fun h20 => ?_) (pb_1 fun h20 => ?_)) | (with_reducible refine E_isN1 ?_; refine E_if_eq 47 d_TM_canNudge_20 rfl (nz_eq (by omega) fun h20 => ?_) (nz_ne fun h20 => ?_)) | refine E_if_eq 47 d_TM_canNudge_20 rfl (fun h20 => ?_) (fun h20 => ?_)
      · refine E_iconst (v := nI 0) d_TM_canNudge_47 rfl ?_
        refine E_retZ d_TM_canNudge_48 rfl (by first | exact pI_01 _ | decide) ?_
        first | exact And.intro (kA h16) rfl | exact And.intro (kB h20) rfl | exact And.intro (kC h16 h40) rfl | exact And.intro (kD h16 h20 h40) rfl
      · first | refine E_aload_n d_TM_canNudge_23 rfl ?_ | refine E_aload_nN d_TM_canNudge_23 rfl ?_
        refine E_getR (q := 1) d_TM_canNudge_24 gf_TM_7 (by exact ⟨by decide, rfl⟩) (by exact hR _ rfl) ?_
        refine E_bipush (v := nI 10) d_TM_canNudge_27 (by decide) ?_
        refine E_iload_n d_TM_canNudge_29 rfl ?_
        first | (with_reducible refine E_isN2 ?_; refine E_iaddN d_TM_canNudge_30 ?_) | refine E_iadd d_TM_canNudge_30 ?_
        refine E_iald d_TM_canNudge_31 (by exact ⟨by decide, rfl⟩) (by exact ⟨by with_reducible rfl, by omega, by decide⟩) (by exact el) ?_
        refine E_iload_n d_TM_canNudge_32 rfl ?_
        first | (with_reducible refine E_isN2 ?_; refine E_iaddN d_TM_canNudge_33 ?_) | refine E_iadd d_TM_canNudge_33 ?_
        refine E_iconst (v := nI 0) d_TM_canNudge_34 rfl ?_
        refine E_bipush (v := nI 9) d_TM_canNudge_35 (by decide) ?_
        refine E_S3 (sp_TM_isIn _ _ _) d_TM_canNudge_37 ml_TM_69 cb_TM_isIn cs_TM_isIn ⟨by decide, by decide⟩ rfl (Nat.le_of_ble_eq_true rfl) (Nat.le_of_ble_eq_true rfl) (kI fun r1 M1 hc => ?_)
        obtain ⟨rfl, rfl⟩ := hc
        first | (with_reducible refine E_isP ?_; refine E_if_eq 47 d_TM_canNudge_40 rfl (pb_0 fun h40 => ?_) (pb_1 fun h40 => ?_)) | (with_reducible refine E_isN1 ?_; refine E_if_eq 47 d_TM_canNudge_40 rfl (nz_eq (by omega) fun h40 => ?_) (nz_ne fun h40 => ?_)) | refine E_if_eq 47 d_TM_canNudge_40 rfl (fun h40 => ?_) (fun h40 => ?_)
        · refine E_iconst (v := nI 0) d_TM_canNudge_47 rfl ?_
          refine E_retZ d_TM_canNudge_48 rfl (by first | exact pI_01 _ | decide) ?_
          first | exact And.intro (kA h16) rfl | exact And.intro (kB h20) rfl | exact And.intro (kC h16 h40) rfl | exact And.intro (kD h16 h20 h40) rfl
        · refine E_iconst (v := nI 1) d_TM_canNudge_43 rfl ?_
          refine E_goto 48 d_TM_canNudge_44 rfl ?_
          refine E_retZ d_TM_canNudge_48 rfl (by first | exact pI_01 _ | decide) ?_
          first | exact And.intro (kA h16) rfl | exact And.intro (kB h20) rfl | exact And.intro (kC h16 h40) rfl | exact And.intro (kD h16 h20 h40) rfl
  · first | refine E_aload_n d_TM_canNudge_0 rfl ?_ | refine E_aload_nN d_TM_canNudge_0 rfl ?_
    refine E_iload_n d_TM_canNudge_1 rfl ?_
    refine E_V1 (sp_TM_isPerson hR hA hwf _) d_TM_canNudge_2 ml_TM_73 cb_TM_isPerson cv_TM_isPerson (by exact ⟨by decide, rfl⟩) ⟨by decide, rfl⟩ ⟨by decide, by decide⟩ rfl (Nat.le_of_ble_eq_true rfl) (Nat.le_of_ble_eq_true rfl) (kI fun r1 M1 hc => ?_)
    obtain ⟨rfl, rfl⟩ := hc
    first | (with_reducible refine E_isP ?_; refine E_if_eq 47 d_TM_canNudge_5 rfl (pb_0 fun h5 => ?_) (pb_1 fun h5 => ?_)) | (with_reducible refine E_isN1 ?_; refine E_if_eq 47 d_TM_canNudge_5 rfl (nz_eq (by omega) fun h5 => ?_) (nz_ne fun h5 => ?_)) | refine E_if_eq 47 d_TM_canNudge_5 rfl (fun h5 => ?_) (fun h5 => ?_)
    rotate_left
    · exfalso; exact hx h5
    refine E_iconst (v := nI 0) d_TM_canNudge_47 rfl ?_
    refine E_retZ d_TM_canNudge_48 rfl (by first | exact pI_01 _ | decide) ?_
    exact ⟨(pI_f (fun q => hx q.1)).symm, rfl⟩
theorem Mok_lean {m : Mo} (h : Mok m) {p l : Nat} (hl : l ≤ 9) : Mok (setLean m p l) := ⟨h.1, fun i => by show (if i = p then l else m.lean i) ≤ 9; split; exact hl; exact h.2.1 i, h.2.2.1, h.2.2.2.1, h.2.2.2.2.1, h.2.2.2.2.2.1, h.2.2.2.2.2.2.1, h.2.2.2.2.2.2.2⟩
theorem HM_lean {c : Cr} {M : Mem} (h : HM c M) {p l : Nat} (hp : p < c.now.people) (hl : l ≤ 9) : HM (c.setNow (setLean c.now p l)) (wI M 1 (10 + p) (nI l)) := by
  have hA := h.A
  obtain ⟨r0, r1, r2, r3, r4, r5, r6⟩ := hA.row
  have hp8 := h.w.p8
  have ne : ∀ i, i ≠ 10 + p → mI (wI M 1 (10 + p) (nI l)) 1 i = mI M 1 i := fun i hi => (mI_w1 i).trans (if_neg hi)
  refine ⟨h.R, RepA_now hA h.w rfl ⟨(ne _ (by omega)).trans r0, (ne _ (by omega)).trans r1, (ne _ (by omega)).trans r2, (ne _ (by omega)).trans r3, (ne _ (by omega)).trans r4, fun q hq => ?_, fun i hi => (ne _ (by omega)).trans (r6 i hi)⟩ (fun i a b => ne i (by omega)), h.T, Wf_now h.w (Mok_lean h.w.mo hl) rfl⟩
  show mI (wI M 1 (10 + p) (nI l)) 1 (5 + 5 + q) = nI (if q = p then l else c.now.lean q)
  by_cases e : q = p
  · rw [mI_w1, if_pos (by omega), if_pos e]
  · rw [mI_w1, if_neg (by omega), if_neg e]
    exact r5 q hq
theorem HM_shift {c : Cr} {M : Mem} {x y v : Int32} (h : HM c M) (hn : nudP c x y) (hv : v = nI (c.now.lean (tN x)) + y) : HM (shiftS c (tN x) y.toInt) (wI M 1 (10 + tN x) v) := by
  have hl9 := h.w.lean9 (tN x)
  have e := lean_add hl9 hn.2.1
  have e2 : v = nI ((c.now.lean (tN x) : Int) + y.toInt).toNat := by
    have h3 := hn.2.2.2
    rw [hv, iI_of (nI _ + y), e, nI_iI, Int.toNat_of_nonneg h3.1]
  rw [e2]
  exact HM_lean h (in_nI hn.1).2 (by have := hn.2.2.2; omega)
def nudgeS (c : Cr) (x y : Int32) : Cr := shiftS (keepS c) (tN x) y.toInt
def st_nudge (c : Cr) (x y : Int32) : Cr := if nudP c x y then nudgeS c x y else c
theorem sp_TM_nudge {c : Cr} {M : Mem} (hM : HM c M) (x y : Int32) : E 3 0 0 Y_TM_nudge 0 [some (.ref 0), some (.int x), some (.int y)] [] GM M (QI GM fun r M' => r = pI (nudP c x y) ∧ HM (st_nudge c x y) M' ∧ Sx S1 M M') := by
  have hp8 := hM.w.p8
  by_cases hn : nudP c x y
  · have e := (in_nI hn.1).1
    have hp := (in_nI hn.1).2
    have hn2 : nudP (keepS c) x y := hn
    rw [pI_t hn, st_nudge, if_pos hn]
    rw [e]
    first | refine E_aload_n d_TM_nudge_0 rfl ?_ | refine E_aload_nN d_TM_nudge_0 rfl ?_
    refine E_iload_n d_TM_nudge_1 rfl ?_
    refine E_iload_n d_TM_nudge_2 rfl ?_
    refine E_V2 (sp_TM_canNudge hM _ _) d_TM_nudge_3 ml_TM_320 cb_TM_canNudge cv_TM_canNudge (by exact ⟨by decide, rfl⟩) ⟨by decide, rfl⟩ ⟨by decide, by decide⟩ rfl (Nat.le_of_ble_eq_true rfl) (Nat.le_of_ble_eq_true rfl) (kI fun r1 M1 hc => ?_)
    obtain ⟨rfl, rfl⟩ := hc
    first | (with_reducible refine E_isP ?_; refine E_if_ne 11 d_TM_nudge_6 rfl (pb_1 fun h6 => ?_) (pb_0 fun h6 => ?_)) | (with_reducible refine E_isN1 ?_; refine E_if_ne 11 d_TM_nudge_6 rfl (nz_ne fun h6 => ?_) (nz_eq (by omega) fun h6 => ?_)) | refine E_if_ne 11 d_TM_nudge_6 rfl (fun h6 => ?_) (fun h6 => ?_)
    rotate_left
    · exfalso; rw [← e] at h6; exact h6 hn
    first | refine E_aload_n d_TM_nudge_11 rfl ?_ | refine E_aload_nN d_TM_nudge_11 rfl ?_
    refine E_V0 (sp_TM_keep hM) d_TM_nudge_12 ml_TM_314 cb_TM_keep cv_TM_keep (by exact ⟨by decide, rfl⟩) ⟨by decide, rfl⟩ ⟨by decide, by decide⟩ rfl (Nat.le_of_ble_eq_true rfl) (Nat.le_of_ble_eq_true rfl) (kV fun M1 hc => ?_)
    obtain ⟨hM1, hS1⟩ := hc
    have hR := hM1.R
    have el : mI M1 1 (10 + tN x) = nI (c.now.lean (tN x)) := hM1.A.lean hp
    first | refine E_aload_n d_TM_nudge_15 rfl ?_ | refine E_aload_nN d_TM_nudge_15 rfl ?_
    refine E_getR (q := 1) d_TM_nudge_16 gf_TM_7 (by exact ⟨by decide, rfl⟩) (by exact hR _ rfl) ?_
    refine E_bipush (v := nI 10) d_TM_nudge_19 (by decide) ?_
    refine E_iload_n d_TM_nudge_21 rfl ?_
    first | (with_reducible refine E_isN2 ?_; refine E_iaddN d_TM_nudge_22 ?_) | refine E_iadd d_TM_nudge_22 ?_
    refine E_dup2 d_TM_nudge_23 rfl rfl ?_
    refine E_iald d_TM_nudge_24 (by exact ⟨by decide, rfl⟩) (by exact ⟨by with_reducible rfl, by omega, by decide⟩) (by exact el) ?_
    refine E_iload_n d_TM_nudge_25 rfl ?_
    first | (with_reducible refine E_isN2 ?_; refine E_iaddN d_TM_nudge_26 ?_) | refine E_iadd d_TM_nudge_26 ?_
    refine E_iast d_TM_nudge_27 (by exact ⟨by decide, rfl⟩) (by exact ⟨by with_reducible rfl, by omega, by decide⟩) ?_
    refine E_iconst (v := nI 1) d_TM_nudge_28 rfl ?_
    refine E_retZ d_TM_nudge_29 rfl (by decide) ?_
    rw [← e]; exact ⟨rfl, HM_shift hM1 hn2 rfl, (hS1.wk fun _ => S01.s).wI S1.o⟩
  · rw [pI_f hn, st_nudge, if_neg hn]
    first | refine E_aload_n d_TM_nudge_0 rfl ?_ | refine E_aload_nN d_TM_nudge_0 rfl ?_
    refine E_iload_n d_TM_nudge_1 rfl ?_
    refine E_iload_n d_TM_nudge_2 rfl ?_
    refine E_V2 (sp_TM_canNudge hM _ _) d_TM_nudge_3 ml_TM_320 cb_TM_canNudge cv_TM_canNudge (by exact ⟨by decide, rfl⟩) ⟨by decide, rfl⟩ ⟨by decide, by decide⟩ rfl (Nat.le_of_ble_eq_true rfl) (Nat.le_of_ble_eq_true rfl) (kI fun r1 M1 hc => ?_)
    obtain ⟨rfl, rfl⟩ := hc
    first | (with_reducible refine E_isP ?_; refine E_if_ne 11 d_TM_nudge_6 rfl (pb_1 fun h6 => ?_) (pb_0 fun h6 => ?_)) | (with_reducible refine E_isN1 ?_; refine E_if_ne 11 d_TM_nudge_6 rfl (nz_ne fun h6 => ?_) (nz_eq (by omega) fun h6 => ?_)) | refine E_if_ne 11 d_TM_nudge_6 rfl (fun h6 => ?_) (fun h6 => ?_)
    · exfalso; exact hn h6
    refine E_iconst (v := nI 0) d_TM_nudge_9 rfl ?_
    refine E_retZ d_TM_nudge_10 rfl (by decide) ?_
    exact ⟨rfl, hM, Sx.rf⟩
