def addP (c : Cr) (l s : Nat) : Cr := Cr.mk (fun i => if i = c.now.people then l else c.now.lean i, c.now.book, c.now.people + 1, c.now.answers, c.now.figure, c.now.round, c.now.x) (fun i => if i = c.now.people then s else c.sort i) (fun i => if i = c.now.people then l else c.begun i) c.hears c.steps c.texts c.ruling c.parties c.saids c.villages
theorem upd_tab {g : Nat → Nat} {f f' : Nat → Int32} {b P v : Nat} (h : ∀ p, p < P → f (b + p) = nI (g p)) (e1 : f' (b + P) = nI v) (e2 : ∀ p, p < P → f' (b + p) = f (b + p)) : ∀ p, p < P + 1 → f' (b + p) = nI (if p = P then v else g p) := by
  intro p hp
  by_cases q : p = P
  · rw [if_pos q, q]; exact e1
  · rw [if_neg q, e2 p (by omega)]; exact h p (by omega)
theorem RepA_person {c : Cr} {f f' : Nat → Int32} {l s : Nat} (h : RepA c f) (hw : Wf c) (h8 : c.now.people < 8) (e : ∀ i, f' i = if i = 0 then nI (c.now.people + 1) else if i = 18 + c.now.people then nI s else if i = 10 + c.now.people then nI l else if i = 26 + c.now.people then nI l else f i) : RepA (addP c l s) f' := by
  have ne : ∀ i, i ≠ 0 → i ≠ 18 + c.now.people → i ≠ 10 + c.now.people → i ≠ 26 + c.now.people → f' i = f i := fun i a b d g => by rw [e, if_neg a, if_neg b, if_neg d, if_neg g]
  have hst := h.stepsR
  have p8 := hw.p8
  have l8 := hw.parties
  have s8 := hw.saids
  have b30 := hw.book
  obtain ⟨h0, h1, h2, h3, h4, h5, ⟨r0, r1, r2, r3, r4, r5, r6⟩, h7, h8', h9, h10, h11, h12, h13⟩ := h
  refine ⟨by rw [e, if_pos rfl]; rfl, (ne 1 (by omega) (by omega) (by omega) (by omega)).trans h1, (ne 2 (by omega) (by omega) (by omega) (by omega)).trans h2, (ne 3 (by omega) (by omega) (by omega) (by omega)).trans h3, (ne 4 (by omega) (by omega) (by omega) (by omega)).trans h4, (ne 84 (by omega) (by omega) (by omega) (by omega)).trans h5,
    ⟨(ne 5 (by omega) (by omega) (by omega) (by omega)).trans r0, (ne 6 (by omega) (by omega) (by omega) (by omega)).trans r1, (ne 7 (by omega) (by omega) (by omega) (by omega)).trans r2, (ne 8 (by omega) (by omega) (by omega) (by omega)).trans r3, (ne 9 (by omega) (by omega) (by omega) (by omega)).trans r4, upd_tab (b := 5 + 5) r5 (by rw [e, if_neg (by omega), if_neg (by omega), if_pos (by omega)]) (fun p hp => ne _ (by omega) (by omega) (by omega) (by omega)), fun i hi => (ne _ (by omega) (by omega) (by omega) (by omega)).trans (r6 i hi)⟩,
    upd_tab h7 (by rw [e, if_neg (by omega), if_pos (by omega)]) (fun p hp => ne _ (by omega) (by omega) (by omega) (by omega)), upd_tab h8' (by rw [e, if_neg (by omega), if_neg (by omega), if_neg (by omega), if_pos (by omega)]) (fun p hp => ne _ (by omega) (by omega) (by omega) (by omega)), fun p hp => (ne _ (by omega) (by omega) (by omega) (by omega)).trans (h9 p hp),
    fun i hi => ⟨(ne _ (by omega) (by have : i < c.saids.length := hi; omega) (by have : i < c.saids.length := hi; omega) (by have : i < c.saids.length := hi; omega)).trans (h10 i hi).1, (ne _ (by omega) (by have : i < c.saids.length := hi; omega) (by have : i < c.saids.length := hi; omega) (by have : i < c.saids.length := hi; omega)).trans (h10 i hi).2⟩, fun v hv => (ne _ (by omega) (by omega) (by omega) (by omega)).trans (h11 v hv), fun i hi => ⟨(ne _ (by omega) (by omega) (by omega) (by omega)).trans (h12 i hi).1, (ne _ (by omega) (by omega) (by omega) (by omega)).trans (h12 i hi).2⟩,
    StepsR.A (c := addP c l s) (hst.cg hw.steps (fun m hm => (hw.step m hm).1) (fun i a b => ne i (by omega) (by omega) (by omega) (by omega)))⟩
theorem Wf_person {c : Cr} {l s : Nat} (h : Wf c) (h8 : c.now.people < 8) (hl : l ≤ 9) (hs : s ≤ 3) : Wf (addP c l s) := by
  have hp2 : 2 ^ c.now.people ≤ 2 ^ (c.now.people + 1) := Nat.pow_le_pow_right (by decide) (by omega)
  obtain ⟨⟨m1, m2, m3, m4, m5, m6, m7, m8⟩, a2, a3, a4, a5, a6, a7, a8, a9, a10, a11, a12, a13, a14, a15⟩ := h
  refine ⟨⟨h8, fun p => ?_, Nat.lt_of_lt_of_le m3 hp2, m4, m5, m6, m7, m8⟩, fun p => ?_, fun p => ?_, fun p => Nat.lt_of_lt_of_le (a4 p) hp2, fun p hp => a5 p (Nat.le_of_succ_le hp), a6, fun m hm => ⟨(a7 m hm).1, Nat.le_succ_of_le (a7 m hm).2⟩, a8, a9, a10, a11, a12, a13, a14, a15⟩
  · show (if p = c.now.people then l else c.now.lean p) ≤ 9
    split
    · exact hl
    · exact m2 p
  · show (if p = c.now.people then s else c.sort p) ≤ 3
    split
    · exact hs
    · exact a2 p
  · show (if p = c.now.people then l else c.begun p) ≤ 9
    split
    · exact hl
    · exact a3 p
abbrev perP (c : Cr) (x y : Int32) : Prop := inN x 10 ∧ inN y 4 ∧ c.now.people ≠ 8
def ans_person (c : Cr) (x y : Int32) : Int32 := if perP c x y then nI c.now.people else -1
def st_person (c : Cr) (x y : Int32) : Cr := if perP c x y then addP c (tN x) (tN y) else c
theorem sp_TM_person {c : Cr} {M : Mem} (hM : HM c M) (x y : Int32) : E 1 0 0 Y_TM_person 0 [some (.ref 0), some (.int x), some (.int y), none] [] GM M (QI GM fun r M' => r = ans_person c x y ∧ HM (st_person c x y) M' ∧ Sx S1 M M') := by
  have hR := hM.R
  have hA := hM.A
  have hwf := hM.w
  have hp8 := hwf.p8
  have e0 := hA.people
  revert x y
  refine args2 10 4 (fun l s hl hx ht hs hy ht2 => ?_) (fun x y hx => ?_) (fun x y hx hy => ?_)
  · by_cases h8 : c.now.people = 8
    · have hn : ¬ perP c (nI l) (nI s) := fun q => q.2.2 h8
      refine E_iload_n d_TM_person_0 rfl ?_
      refine E_iconst (v := nI 0) d_TM_person_1 rfl ?_
      refine E_bipush (v := nI 9) d_TM_person_2 (by decide) ?_
      refine E_S3 (sp_TM_in _ 9 (by decide)) d_TM_person_4 ml_TM_69 cb_TM_isIn cs_TM_isIn ⟨by decide, by decide⟩ rfl (Nat.le_of_ble_eq_true rfl) (Nat.le_of_ble_eq_true rfl) (kI fun r1 M1 hc => ?_)
      obtain ⟨rfl, rfl⟩ := hc
      first | (with_reducible refine E_isP ?_; refine E_if_eq 30 d_TM_person_7 rfl (pb_0 fun h7 => ?_) (pb_1 fun h7 => ?_)) | (with_reducible refine E_isN1 ?_; refine E_if_eq 30 d_TM_person_7 rfl (nz_eq (by omega) fun h7 => ?_) (nz_ne fun h7 => ?_)) | refine E_if_eq 30 d_TM_person_7 rfl (fun h7 => ?_) (fun h7 => ?_)
      · exfalso; exact h7 hx
      refine E_iload_n d_TM_person_10 rfl ?_
      refine E_iconst (v := nI 0) d_TM_person_11 rfl ?_
      refine E_iconst (v := nI 3) d_TM_person_12 rfl ?_
      refine E_S3 (sp_TM_in _ 3 (by decide)) d_TM_person_13 ml_TM_69 cb_TM_isIn cs_TM_isIn ⟨by decide, by decide⟩ rfl (Nat.le_of_ble_eq_true rfl) (Nat.le_of_ble_eq_true rfl) (kI fun r1 M1 hc => ?_)
      obtain ⟨rfl, rfl⟩ := hc
      first | (with_reducible refine E_isP ?_; refine E_if_eq 30 d_TM_person_16 rfl (pb_0 fun h16 => ?_) (pb_1 fun h16 => ?_)) | (with_reducible refine E_isN1 ?_; refine E_if_eq 30 d_TM_person_16 rfl (nz_eq (by omega) fun h16 => ?_) (nz_ne fun h16 => ?_)) | refine E_if_eq 30 d_TM_person_16 rfl (fun h16 => ?_) (fun h16 => ?_)
      · exfalso; exact h16 hy
      first | refine E_aload_n d_TM_person_19 rfl ?_ | refine E_aload_nN d_TM_person_19 rfl ?_
      refine E_getR (q := 1) d_TM_person_20 gf_TM_7 (by exact ⟨by decide, rfl⟩) (by exact hR _ rfl) ?_
      refine E_iconst (v := nI 0) d_TM_person_23 rfl ?_
      refine E_iald d_TM_person_24 (by exact ⟨by decide, rfl⟩) (by exact ⟨by with_reducible rfl, by omega, by decide⟩) (by exact e0) ?_
      refine E_bipush (v := nI 8) d_TM_person_25 (by decide) ?_
      first | (with_reducible refine E_isN2 ?_; refine E_icmp_ne 32 d_TM_person_27 rfl (nb_ne fun h27 => ?_) (nb_eq (by omega) (by omega) fun h27 => ?_)) | refine E_icmp_ne 32 d_TM_person_27 rfl (fun h27 => ?_) (fun h27 => ?_)
      · exfalso; exact h27 h8
      refine E_iconst (v := (-1)) d_TM_person_30 rfl ?_
      refine E_retI d_TM_person_31 rfl ?_
      exact ⟨by rw [ans_person, if_neg hn], by rw [st_person, if_neg hn]; exact hM, Sx.rf⟩
    · have hP : perP c (nI l) (nI s) := ⟨hx, hy, h8⟩
      rw [ans_person, st_person, if_pos hP, if_pos hP, ht, ht2]
      refine E_iload_n d_TM_person_0 rfl ?_
      refine E_iconst (v := nI 0) d_TM_person_1 rfl ?_
      refine E_bipush (v := nI 9) d_TM_person_2 (by decide) ?_
      refine E_S3 (sp_TM_in _ 9 (by decide)) d_TM_person_4 ml_TM_69 cb_TM_isIn cs_TM_isIn ⟨by decide, by decide⟩ rfl (Nat.le_of_ble_eq_true rfl) (Nat.le_of_ble_eq_true rfl) (kI fun r1 M1 hc => ?_)
      obtain ⟨rfl, rfl⟩ := hc
      first | (with_reducible refine E_isP ?_; refine E_if_eq 30 d_TM_person_7 rfl (pb_0 fun h7 => ?_) (pb_1 fun h7 => ?_)) | (with_reducible refine E_isN1 ?_; refine E_if_eq 30 d_TM_person_7 rfl (nz_eq (by omega) fun h7 => ?_) (nz_ne fun h7 => ?_)) | refine E_if_eq 30 d_TM_person_7 rfl (fun h7 => ?_) (fun h7 => ?_)
      · exfalso; exact h7 hx
      refine E_iload_n d_TM_person_10 rfl ?_
      refine E_iconst (v := nI 0) d_TM_person_11 rfl ?_
      refine E_iconst (v := nI 3) d_TM_person_12 rfl ?_
      refine E_S3 (sp_TM_in _ 3 (by decide)) d_TM_person_13 ml_TM_69 cb_TM_isIn cs_TM_isIn ⟨by decide, by decide⟩ rfl (Nat.le_of_ble_eq_true rfl) (Nat.le_of_ble_eq_true rfl) (kI fun r1 M1 hc => ?_)
      obtain ⟨rfl, rfl⟩ := hc
      first | (with_reducible refine E_isP ?_; refine E_if_eq 30 d_TM_person_16 rfl (pb_0 fun h16 => ?_) (pb_1 fun h16 => ?_)) | (with_reducible refine E_isN1 ?_; refine E_if_eq 30 d_TM_person_16 rfl (nz_eq (by omega) fun h16 => ?_) (nz_ne fun h16 => ?_)) | refine E_if_eq 30 d_TM_person_16 rfl (fun h16 => ?_) (fun h16 => ?_)
      · exfalso; exact h16 hy
      first | refine E_aload_n d_TM_person_19 rfl ?_ | refine E_aload_nN d_TM_person_19 rfl ?_
      refine E_getR (q := 1) d_TM_person_20 gf_TM_7 (by exact ⟨by decide, rfl⟩) (by exact hR _ rfl) ?_
      refine E_iconst (v := nI 0) d_TM_person_23 rfl ?_
      refine E_iald d_TM_person_24 (by exact ⟨by decide, rfl⟩) (by exact ⟨by with_reducible rfl, by omega, by decide⟩) (by exact e0) ?_
      refine E_bipush (v := nI 8) d_TM_person_25 (by decide) ?_
      first | (with_reducible refine E_isN2 ?_; refine E_icmp_ne 32 d_TM_person_27 rfl (nb_ne fun h27 => ?_) (nb_eq (by omega) (by omega) fun h27 => ?_)) | refine E_icmp_ne 32 d_TM_person_27 rfl (fun h27 => ?_) (fun h27 => ?_)
      rotate_left
      · exfalso; exact h8 h27
      first | refine E_aload_n d_TM_person_32 rfl ?_ | refine E_aload_nN d_TM_person_32 rfl ?_
      refine E_getR (q := 1) d_TM_person_33 gf_TM_7 (by exact ⟨by decide, rfl⟩) (by exact hR _ rfl) ?_
      refine E_iconst (v := nI 0) d_TM_person_36 rfl ?_
      refine E_iald d_TM_person_37 (by exact ⟨by decide, rfl⟩) (by exact ⟨by with_reducible rfl, by omega, by decide⟩) (by exact e0) ?_
      refine E_istore_3 d_TM_person_38 rfl ?_
      first | refine E_aload_n d_TM_person_39 rfl ?_ | refine E_aload_nN d_TM_person_39 rfl ?_
      refine E_getR (q := 1) d_TM_person_40 gf_TM_7 (by exact ⟨by decide, rfl⟩) (by exact hR _ rfl) ?_
      refine E_bipush (v := nI 26) d_TM_person_43 (by decide) ?_
      refine E_iload_n d_TM_person_45 rfl ?_
      first | (with_reducible refine E_isN2 ?_; refine E_iaddN d_TM_person_46 ?_) | refine E_iadd d_TM_person_46 ?_
      refine E_iload_n d_TM_person_47 rfl ?_
      refine E_iast d_TM_person_48 (by exact ⟨by decide, rfl⟩) (by exact ⟨by with_reducible rfl, by omega, by decide⟩) ?_
      first | refine E_aload_n d_TM_person_49 rfl ?_ | refine E_aload_nN d_TM_person_49 rfl ?_
      refine E_getR (q := 1) d_TM_person_50 gf_TM_7 (by exact ⟨by decide, rfl⟩) (by exact hR _ rfl) ?_
      refine E_bipush (v := nI 10) d_TM_person_53 (by decide) ?_
      refine E_iload_n d_TM_person_55 rfl ?_
      first | (with_reducible refine E_isN2 ?_; refine E_iaddN d_TM_person_56 ?_) | refine E_iadd d_TM_person_56 ?_
      refine E_iload_n d_TM_person_57 rfl ?_
      refine E_iast d_TM_person_58 (by exact ⟨by decide, rfl⟩) (by exact ⟨by with_reducible rfl, by omega, by decide⟩) ?_
      first | refine E_aload_n d_TM_person_59 rfl ?_ | refine E_aload_nN d_TM_person_59 rfl ?_
      refine E_getR (q := 1) d_TM_person_60 gf_TM_7 (by exact ⟨by decide, rfl⟩) (by exact hR _ rfl) ?_
      refine E_bipush (v := nI 18) d_TM_person_63 (by decide) ?_
      refine E_iload_n d_TM_person_65 rfl ?_
      first | (with_reducible refine E_isN2 ?_; refine E_iaddN d_TM_person_66 ?_) | refine E_iadd d_TM_person_66 ?_
      refine E_iload_n d_TM_person_67 rfl ?_
      refine E_iast d_TM_person_68 (by exact ⟨by decide, rfl⟩) (by exact ⟨by with_reducible rfl, by omega, by decide⟩) ?_
      first | refine E_aload_n d_TM_person_69 rfl ?_ | refine E_aload_nN d_TM_person_69 rfl ?_
      refine E_getR (q := 1) d_TM_person_70 gf_TM_7 (by exact ⟨by decide, rfl⟩) (by exact hR _ rfl) ?_
      refine E_iconst (v := nI 0) d_TM_person_73 rfl ?_
      refine E_dup2 d_TM_person_74 rfl rfl ?_
      refine E_iald d_TM_person_75 (by exact ⟨by decide, rfl⟩) (by exact ⟨by with_reducible rfl, by omega, by decide⟩) (by exact (mI_w1 _).trans ((if_neg (by omega)).trans ((mI_w1 _).trans ((if_neg (by omega)).trans ((mI_w1 _).trans ((if_neg (by omega)).trans e0)))))) ?_
      refine E_iconst (v := nI 1) d_TM_person_76 rfl ?_
      first | (with_reducible refine E_isN2 ?_; refine E_iaddN d_TM_person_77 ?_) | refine E_iadd d_TM_person_77 ?_
      refine E_iast d_TM_person_78 (by exact ⟨by decide, rfl⟩) (by exact ⟨by with_reducible rfl, by omega, by decide⟩) ?_
      refine E_iload_n d_TM_person_79 rfl ?_
      refine E_retI d_TM_person_80 rfl ?_
      exact ⟨rfl, ⟨hR, RepA_person hA hwf (by omega) (fun i => by rw [mI_w1, mI_w1, mI_w1, mI_w1]), hM.T, Wf_person hwf (by omega) (by omega) (by omega)⟩, (((Sx.rf.wI S1.o).wI S1.o).wI S1.o).wI S1.o⟩
  · have hn : ¬ perP c x y := fun q => hx q.1
    refine E_iload_n d_TM_person_0 rfl ?_
    refine E_iconst (v := nI 0) d_TM_person_1 rfl ?_
    refine E_bipush (v := nI 9) d_TM_person_2 (by decide) ?_
    refine E_S3 (sp_TM_in _ 9 (by decide)) d_TM_person_4 ml_TM_69 cb_TM_isIn cs_TM_isIn ⟨by decide, by decide⟩ rfl (Nat.le_of_ble_eq_true rfl) (Nat.le_of_ble_eq_true rfl) (kI fun r1 M1 hc => ?_)
    obtain ⟨rfl, rfl⟩ := hc
    first | (with_reducible refine E_isP ?_; refine E_if_eq 30 d_TM_person_7 rfl (pb_0 fun h7 => ?_) (pb_1 fun h7 => ?_)) | (with_reducible refine E_isN1 ?_; refine E_if_eq 30 d_TM_person_7 rfl (nz_eq (by omega) fun h7 => ?_) (nz_ne fun h7 => ?_)) | refine E_if_eq 30 d_TM_person_7 rfl (fun h7 => ?_) (fun h7 => ?_)
    rotate_left
    · exfalso; exact hx h7
    refine E_iconst (v := (-1)) d_TM_person_30 rfl ?_
    refine E_retI d_TM_person_31 rfl ?_
    exact ⟨by rw [ans_person, if_neg hn], by rw [st_person, if_neg hn]; exact hM, Sx.rf⟩
  · have hn : ¬ perP c x y := fun q => hy q.2.1
    refine E_iload_n d_TM_person_0 rfl ?_
    refine E_iconst (v := nI 0) d_TM_person_1 rfl ?_
    refine E_bipush (v := nI 9) d_TM_person_2 (by decide) ?_
    refine E_S3 (sp_TM_in _ 9 (by decide)) d_TM_person_4 ml_TM_69 cb_TM_isIn cs_TM_isIn ⟨by decide, by decide⟩ rfl (Nat.le_of_ble_eq_true rfl) (Nat.le_of_ble_eq_true rfl) (kI fun r1 M1 hc => ?_)
    obtain ⟨rfl, rfl⟩ := hc
    first | (with_reducible refine E_isP ?_; refine E_if_eq 30 d_TM_person_7 rfl (pb_0 fun h7 => ?_) (pb_1 fun h7 => ?_)) | (with_reducible refine E_isN1 ?_; refine E_if_eq 30 d_TM_person_7 rfl (nz_eq (by omega) fun h7 => ?_) (nz_ne fun h7 => ?_)) | refine E_if_eq 30 d_TM_person_7 rfl (fun h7 => ?_) (fun h7 => ?_)
    · exfalso; exact h7 hx
    refine E_iload_n d_TM_person_10 rfl ?_
    refine E_iconst (v := nI 0) d_TM_person_11 rfl ?_
    refine E_iconst (v := nI 3) d_TM_person_12 rfl ?_
    refine E_S3 (sp_TM_in _ 3 (by decide)) d_TM_person_13 ml_TM_69 cb_TM_isIn cs_TM_isIn ⟨by decide, by decide⟩ rfl (Nat.le_of_ble_eq_true rfl) (Nat.le_of_ble_eq_true rfl) (kI fun r1 M1 hc => ?_)
    obtain ⟨rfl, rfl⟩ := hc
    first | (with_reducible refine E_isP ?_; refine E_if_eq 30 d_TM_person_16 rfl (pb_0 fun h16 => ?_) (pb_1 fun h16 => ?_)) | (with_reducible refine E_isN1 ?_; refine E_if_eq 30 d_TM_person_16 rfl (nz_eq (by omega) fun h16 => ?_) (nz_ne fun h16 => ?_)) | refine E_if_eq 30 d_TM_person_16 rfl (fun h16 => ?_) (fun h16 => ?_)
    rotate_left
    · exfalso; exact hy h16
    refine E_iconst (v := (-1)) d_TM_person_30 rfl ?_
    refine E_retI d_TM_person_31 rfl ?_
    exact ⟨by rw [ans_person, if_neg hn], by rw [st_person, if_neg hn]; exact hM, Sx.rf⟩
def earS (c : Cr) (a b : Nat) : Cr := Cr.mk c.now c.sort c.begun (fun i => if i = a then c.hears a ^^^ 2 ^ b else c.hears i) c.steps c.texts c.ruling c.parties c.saids c.villages
theorem RepA_hd {c c' : Cr} {f f' : Nat → Int32} (h : RepA c f) (hw : Wf c) (en : c'.now = c.now) (es : c'.sort = c.sort) (eb : c'.begun = c.begun) (et : c'.steps = c.steps) (h1 : f' 1 = nI c'.texts.length) (h2 : f' 2 = enO c'.ruling) (h4 : f' 4 = nI c'.saids.length) (h5 : f' 84 = nI c'.parties.length)
    (hh : ∀ p, p < 8 → f' (34 + p) = nI (c'.hears p)) (hsd : ∀ i, i < c'.saids.length → f' (42 + 2 * i) = nI (c'.saids.getD i (0, 0)).1 ∧ f' (42 + 2 * i + 1) = nI (c'.saids.getD i (0, 0)).2) (hv : ∀ v, v < 10 → f' (58 + v) = nI (c'.villages v)) (hpt : ∀ i, i < c'.parties.length → f' (68 + 2 * i) = nI (c'.parties.getD i (0, 0)).1 ∧ f' (68 + 2 * i + 1) = nI (c'.parties.getD i (0, 0)).2)
    (ne : ∀ i, i ≠ 1 → i ≠ 2 → i ≠ 4 → (i < 34 ∨ 85 ≤ i) → f' i = f i) : RepA c' f' := by
  have hst := h.stepsR
  have p8 := hw.p8
  obtain ⟨h0, -, -, h3, -, -, hr, h7, h8', -, -, -, -, -⟩ := h
  refine ⟨by rw [en]; exact (ne 0 (by omega) (by omega) (by omega) (by omega)).trans h0, h1, h2, by rw [et]; exact (ne 3 (by omega) (by omega) (by omega) (by omega)).trans h3, h4, h5, by rw [en]; exact hr.cg p8 hw.book (fun i a b => ne i (by omega) (by omega) (by omega) (by omega)) (fun i a b => ne i (by omega) (by omega) (by omega) (by omega)), fun p hp => ?_, fun p hp => ?_, hh, hsd, hv, hpt, StepsR.A (c := c') (by rw [et]; exact hst.cg hw.steps (fun m hm => (hw.step m hm).1) (fun i a b => ne i (by omega) (by omega) (by omega) (by omega)))⟩
  · rw [en] at hp; rw [es]; exact (ne _ (by omega) (by omega) (by omega) (by omega)).trans (h7 p hp)
  · rw [en] at hp; rw [eb]; exact (ne _ (by omega) (by omega) (by omega) (by omega)).trans (h8' p hp)
abbrev heaP (c : Cr) (x y : Int32) : Prop := inN x c.now.people ∧ inN y c.now.people ∧ x ≠ y
def ans_hear (c : Cr) (x y : Int32) : Int32 := pI (heaP c x y)
def st_hear (c : Cr) (x y : Int32) : Cr := if heaP c x y then earS c (tN x) (tN y) else c
theorem Wf_hear {c : Cr} {a b : Nat} (h : Wf c) (ha : a < c.now.people) (hb : b < c.now.people) : Wf (earS c a b) := by
  obtain ⟨a1, a2, a3, a4, a5, a6, a7, a8, a9, a10, a11, a12, a13, a14, a15⟩ := h
  refine ⟨a1, a2, a3, fun p => ?_, fun p hp => ?_, a6, a7, a8, a9, a10, a11, a12, a13, a14, a15⟩
  · show (if p = a then c.hears a ^^^ 2 ^ b else c.hears p) < 2 ^ c.now.people
    split
    · exact xor_lt (a4 a) (Nat.pow_lt_pow_right (by decide) hb)
    · exact a4 p
  · show (if p = a then c.hears a ^^^ 2 ^ b else c.hears p) = 0
    have hp2 : c.now.people ≤ p := hp
    rw [if_neg (by omega)]
    exact a5 p hp
theorem HM_hear {c : Cr} {M : Mem} {a b : Nat} (h : HM c M) (ha : a < c.now.people) (hb : b < c.now.people) : HM (earS c a b) (wI M 1 (34 + a) (nI (c.hears a ^^^ 2 ^ b))) := by
  have hA := h.A
  have hw := h.w
  have p8 := hw.p8
  have l8 := hw.parties
  have s8 := hw.saids
  have ne : ∀ i, i ≠ 34 + a → mI (wI M 1 (34 + a) (nI (c.hears a ^^^ 2 ^ b))) 1 i = mI M 1 i := fun i q => (mI_w1 _).trans (if_neg q)
  refine ⟨h.R, RepA_hd (c' := earS c a b) hA hw rfl rfl rfl rfl ((ne 1 (by omega)).trans hA.texts) ((ne 2 (by omega)).trans hA.ruling) ((ne 4 (by omega)).trans hA.saids) ((ne 84 (by omega)).trans hA.parties) (fun p hp => ?_) (fun i hi => ⟨(ne (42 + 2 * i) (by omega)).trans (hA.said hi).1, (ne (42 + 2 * i + 1) (by omega)).trans (hA.said hi).2⟩) (fun v hv => (ne (58 + v) (by omega)).trans (hA.village hv)) (fun i hi => ⟨(ne (68 + 2 * i) (by omega)).trans (hA.party hi).1, (ne (68 + 2 * i + 1) (by omega)).trans (hA.party hi).2⟩) (fun i _ _ _ q => ne i (by omega)), h.T, Wf_hear hw ha hb⟩
  show _ = nI (if p = a then c.hears a ^^^ 2 ^ b else c.hears p)
  by_cases q : p = a
  · rw [if_pos q, mI_w1, if_pos (by omega)]
  · rw [if_neg q, ne _ (by omega)]; exact hA.hears hp
theorem sp_TM_hear {c : Cr} {M : Mem} (hM : HM c M) (x y : Int32) : E 2 0 0 Y_TM_hear 0 [some (.ref 0), some (.int x), some (.int y)] [] GM M (QI GM fun r M' => r = ans_hear c x y ∧ HM (st_hear c x y) M' ∧ Sx S1 M M') := by
  have hR := hM.R
  have hA := hM.A
  have hwf := hM.w
  have hp8 := hwf.p8
  revert x y
  refine args2 c.now.people c.now.people (fun a b ha hx ht hb hy ht2 => ?_) (fun x y hx => ?_) (fun x y hx hy => ?_)
  · by_cases hab : a = b
    · have hn : ¬ heaP c (nI a) (nI b) := fun q => q.2.2 (congrArg nI hab)
      first | refine E_aload_n d_TM_hear_0 rfl ?_ | refine E_aload_nN d_TM_hear_0 rfl ?_
      refine E_iload_n d_TM_hear_1 rfl ?_
      refine E_V1 (sp_TM_isPerson hR hA hwf _) d_TM_hear_2 ml_TM_73 cb_TM_isPerson cv_TM_isPerson (by exact ⟨by decide, rfl⟩) ⟨by decide, rfl⟩ ⟨by decide, by decide⟩ rfl (Nat.le_of_ble_eq_true rfl) (Nat.le_of_ble_eq_true rfl) (kI fun r1 M1 hc => ?_)
      obtain ⟨rfl, rfl⟩ := hc
      first | (with_reducible refine E_isP ?_; refine E_if_eq 21 d_TM_hear_5 rfl (pb_0 fun h5 => ?_) (pb_1 fun h5 => ?_)) | (with_reducible refine E_isN1 ?_; refine E_if_eq 21 d_TM_hear_5 rfl (nz_eq (by omega) fun h5 => ?_) (nz_ne fun h5 => ?_)) | refine E_if_eq 21 d_TM_hear_5 rfl (fun h5 => ?_) (fun h5 => ?_)
      · exfalso; exact h5 hx
      first | refine E_aload_n d_TM_hear_8 rfl ?_ | refine E_aload_nN d_TM_hear_8 rfl ?_
      refine E_iload_n d_TM_hear_9 rfl ?_
      refine E_V1 (sp_TM_isPerson hR hA hwf _) d_TM_hear_10 ml_TM_73 cb_TM_isPerson cv_TM_isPerson (by exact ⟨by decide, rfl⟩) ⟨by decide, rfl⟩ ⟨by decide, by decide⟩ rfl (Nat.le_of_ble_eq_true rfl) (Nat.le_of_ble_eq_true rfl) (kI fun r1 M1 hc => ?_)
      obtain ⟨rfl, rfl⟩ := hc
      first | (with_reducible refine E_isP ?_; refine E_if_eq 21 d_TM_hear_13 rfl (pb_0 fun h13 => ?_) (pb_1 fun h13 => ?_)) | (with_reducible refine E_isN1 ?_; refine E_if_eq 21 d_TM_hear_13 rfl (nz_eq (by omega) fun h13 => ?_) (nz_ne fun h13 => ?_)) | refine E_if_eq 21 d_TM_hear_13 rfl (fun h13 => ?_) (fun h13 => ?_)
      · exfalso; exact h13 hy
      refine E_iload_n d_TM_hear_16 rfl ?_
      refine E_iload_n d_TM_hear_17 rfl ?_
      first | (with_reducible refine E_isN2 ?_; refine E_icmp_ne 23 d_TM_hear_18 rfl (nb_ne fun h18 => ?_) (nb_eq (by omega) (by omega) fun h18 => ?_)) | refine E_icmp_ne 23 d_TM_hear_18 rfl (fun h18 => ?_) (fun h18 => ?_)
      · exfalso; exact h18 hab
      refine E_iconst (v := nI 0) d_TM_hear_21 rfl ?_
      refine E_retZ d_TM_hear_22 rfl (by decide) ?_
      exact ⟨by rw [ans_hear, pI_f hn]; rfl, by rw [st_hear, if_neg hn]; exact hM, Sx.rf⟩
    · have hP : heaP c (nI a) (nI b) := ⟨hx, hy, fun q => hab (nI_inj (by omega) (by omega) q)⟩
      have hh := hA.hears (show a < 8 by omega)
      have hh8 := hwf.hears8 a
      rw [ans_hear, st_hear, pI_t hP, if_pos hP, ht, ht2]
      have l8 := hwf.parties
      have s8 := hwf.saids
      first | refine E_aload_n d_TM_hear_0 rfl ?_ | refine E_aload_nN d_TM_hear_0 rfl ?_
      refine E_iload_n d_TM_hear_1 rfl ?_
      refine E_V1 (sp_TM_isPerson hR hA hwf _) d_TM_hear_2 ml_TM_73 cb_TM_isPerson cv_TM_isPerson (by exact ⟨by decide, rfl⟩) ⟨by decide, rfl⟩ ⟨by decide, by decide⟩ rfl (Nat.le_of_ble_eq_true rfl) (Nat.le_of_ble_eq_true rfl) (kI fun r1 M1 hc => ?_)
      obtain ⟨rfl, rfl⟩ := hc
      first | (with_reducible refine E_isP ?_; refine E_if_eq 21 d_TM_hear_5 rfl (pb_0 fun h5 => ?_) (pb_1 fun h5 => ?_)) | (with_reducible refine E_isN1 ?_; refine E_if_eq 21 d_TM_hear_5 rfl (nz_eq (by omega) fun h5 => ?_) (nz_ne fun h5 => ?_)) | refine E_if_eq 21 d_TM_hear_5 rfl (fun h5 => ?_) (fun h5 => ?_)
      · exfalso; exact h5 hx
      first | refine E_aload_n d_TM_hear_8 rfl ?_ | refine E_aload_nN d_TM_hear_8 rfl ?_
      refine E_iload_n d_TM_hear_9 rfl ?_
      refine E_V1 (sp_TM_isPerson hR hA hwf _) d_TM_hear_10 ml_TM_73 cb_TM_isPerson cv_TM_isPerson (by exact ⟨by decide, rfl⟩) ⟨by decide, rfl⟩ ⟨by decide, by decide⟩ rfl (Nat.le_of_ble_eq_true rfl) (Nat.le_of_ble_eq_true rfl) (kI fun r1 M1 hc => ?_)
      obtain ⟨rfl, rfl⟩ := hc
      first | (with_reducible refine E_isP ?_; refine E_if_eq 21 d_TM_hear_13 rfl (pb_0 fun h13 => ?_) (pb_1 fun h13 => ?_)) | (with_reducible refine E_isN1 ?_; refine E_if_eq 21 d_TM_hear_13 rfl (nz_eq (by omega) fun h13 => ?_) (nz_ne fun h13 => ?_)) | refine E_if_eq 21 d_TM_hear_13 rfl (fun h13 => ?_) (fun h13 => ?_)
      · exfalso; exact h13 hy
      refine E_iload_n d_TM_hear_16 rfl ?_
      refine E_iload_n d_TM_hear_17 rfl ?_
      first | (with_reducible refine E_isN2 ?_; refine E_icmp_ne 23 d_TM_hear_18 rfl (nb_ne fun h18 => ?_) (nb_eq (by omega) (by omega) fun h18 => ?_)) | refine E_icmp_ne 23 d_TM_hear_18 rfl (fun h18 => ?_) (fun h18 => ?_)
      rotate_left
      · exfalso; exact hab h18
      first | refine E_aload_n d_TM_hear_23 rfl ?_ | refine E_aload_nN d_TM_hear_23 rfl ?_
      refine E_getR (q := 1) d_TM_hear_24 gf_TM_7 (by exact ⟨by decide, rfl⟩) (by exact hR _ rfl) ?_
      refine E_bipush (v := nI 34) d_TM_hear_27 (by decide) ?_
      refine E_iload_n d_TM_hear_29 rfl ?_
      first | (with_reducible refine E_isN2 ?_; refine E_iaddN d_TM_hear_30 ?_) | refine E_iadd d_TM_hear_30 ?_
      refine E_dup2 d_TM_hear_31 rfl rfl ?_
      refine E_iald d_TM_hear_32 (by exact ⟨by decide, rfl⟩) (by exact ⟨by with_reducible rfl, by omega, by decide⟩) (by exact hh) ?_
      refine E_iconst (v := nI 1) d_TM_hear_33 rfl ?_
      refine E_iload_n d_TM_hear_34 rfl ?_
      first | (with_reducible refine E_isN2 ?_; first | refine E_ishl1 d_TM_hear_35 (by omega) ?_ | refine E_ishlN d_TM_hear_35 (by omega) (by omega) ?_) | refine E_ishl d_TM_hear_35 ?_
      first | (with_reducible refine E_isN2 ?_; refine E_ixorN d_TM_hear_36 ?_) | refine E_ixor d_TM_hear_36 ?_
      refine E_iast d_TM_hear_37 (by exact ⟨by decide, rfl⟩) (by exact ⟨by with_reducible rfl, by omega, by decide⟩) ?_
      refine E_iconst (v := nI 1) d_TM_hear_38 rfl ?_
      refine E_retZ d_TM_hear_39 rfl (by decide) ?_
      exact ⟨rfl, HM_hear hM (by omega) (by omega), Sx.rf.wI S1.o⟩
  · have hn : ¬ heaP c x y := fun q => hx q.1
    first | refine E_aload_n d_TM_hear_0 rfl ?_ | refine E_aload_nN d_TM_hear_0 rfl ?_
    refine E_iload_n d_TM_hear_1 rfl ?_
    refine E_V1 (sp_TM_isPerson hR hA hwf _) d_TM_hear_2 ml_TM_73 cb_TM_isPerson cv_TM_isPerson (by exact ⟨by decide, rfl⟩) ⟨by decide, rfl⟩ ⟨by decide, by decide⟩ rfl (Nat.le_of_ble_eq_true rfl) (Nat.le_of_ble_eq_true rfl) (kI fun r1 M1 hc => ?_)
    obtain ⟨rfl, rfl⟩ := hc
    first | (with_reducible refine E_isP ?_; refine E_if_eq 21 d_TM_hear_5 rfl (pb_0 fun h5 => ?_) (pb_1 fun h5 => ?_)) | (with_reducible refine E_isN1 ?_; refine E_if_eq 21 d_TM_hear_5 rfl (nz_eq (by omega) fun h5 => ?_) (nz_ne fun h5 => ?_)) | refine E_if_eq 21 d_TM_hear_5 rfl (fun h5 => ?_) (fun h5 => ?_)
    rotate_left
    · exfalso; exact hx h5
    refine E_iconst (v := nI 0) d_TM_hear_21 rfl ?_
    refine E_retZ d_TM_hear_22 rfl (by decide) ?_
    exact ⟨by rw [ans_hear, pI_f hn]; rfl, by rw [st_hear, if_neg hn]; exact hM, Sx.rf⟩
  · have hn : ¬ heaP c x y := fun q => hy q.2.1
    first | refine E_aload_n d_TM_hear_0 rfl ?_ | refine E_aload_nN d_TM_hear_0 rfl ?_
    refine E_iload_n d_TM_hear_1 rfl ?_
    refine E_V1 (sp_TM_isPerson hR hA hwf _) d_TM_hear_2 ml_TM_73 cb_TM_isPerson cv_TM_isPerson (by exact ⟨by decide, rfl⟩) ⟨by decide, rfl⟩ ⟨by decide, by decide⟩ rfl (Nat.le_of_ble_eq_true rfl) (Nat.le_of_ble_eq_true rfl) (kI fun r1 M1 hc => ?_)
    obtain ⟨rfl, rfl⟩ := hc
    first | (with_reducible refine E_isP ?_; refine E_if_eq 21 d_TM_hear_5 rfl (pb_0 fun h5 => ?_) (pb_1 fun h5 => ?_)) | (with_reducible refine E_isN1 ?_; refine E_if_eq 21 d_TM_hear_5 rfl (nz_eq (by omega) fun h5 => ?_) (nz_ne fun h5 => ?_)) | refine E_if_eq 21 d_TM_hear_5 rfl (fun h5 => ?_) (fun h5 => ?_)
    · exfalso; exact h5 hx
    first | refine E_aload_n d_TM_hear_8 rfl ?_ | refine E_aload_nN d_TM_hear_8 rfl ?_
    refine E_iload_n d_TM_hear_9 rfl ?_
    refine E_V1 (sp_TM_isPerson hR hA hwf _) d_TM_hear_10 ml_TM_73 cb_TM_isPerson cv_TM_isPerson (by exact ⟨by decide, rfl⟩) ⟨by decide, rfl⟩ ⟨by decide, by decide⟩ rfl (Nat.le_of_ble_eq_true rfl) (Nat.le_of_ble_eq_true rfl) (kI fun r1 M1 hc => ?_)
    obtain ⟨rfl, rfl⟩ := hc
    first | (with_reducible refine E_isP ?_; refine E_if_eq 21 d_TM_hear_13 rfl (pb_0 fun h13 => ?_) (pb_1 fun h13 => ?_)) | (with_reducible refine E_isN1 ?_; refine E_if_eq 21 d_TM_hear_13 rfl (nz_eq (by omega) fun h13 => ?_) (nz_ne fun h13 => ?_)) | refine E_if_eq 21 d_TM_hear_13 rfl (fun h13 => ?_) (fun h13 => ?_)
    rotate_left
    · exfalso; exact hy h13
    refine E_iconst (v := nI 0) d_TM_hear_21 rfl ?_
    refine E_retZ d_TM_hear_22 rfl (by decide) ?_
    exact ⟨by rw [ans_hear, pI_f hn]; rfl, by rw [st_hear, if_neg hn]; exact hM, Sx.rf⟩
