section ECall6
variable {d b bs : Nat} {Y : MI} {pc : Nat} {ls : List (Option Value)} {st : List Value} {G : Geo} {M : Mem} {Q : Option Value → Geo → Mem → Prop}
theorem E_S6 {idx d' : Nat} {Y' : MI} {x0 x1 x2 x3 x4 x5 : Value} {ls' : List (Option Value)} {Q' : Option Value → Geo → Mem → Prop} (spec : E d' 0 0 Y' 0 ls' [] G M Q') (hd : decode Y.2.1 pc = .ok (.invokestatic idx, 3)) (hl : Cond.methodLink Y.1.cls idx Y'.1 ∈ TB) (cb : CB Y' 6) (ct : CSt Y') (hr : rmok d d' Y'.2.2.1)
    (hls : el Y'.2.2.1 [x0, x1, x2, x3, x4, x5] = ls') (hlen : (([x0, x1, x2, x3, x4, x5] : List Value).flatMap el1).length ≤ Y'.2.2.1) (hroom : (st.map fun v => v.category).sum ≤ 8) (kk : ∀ v G' M', Q' v G' M' → E d b bs Y (pc + 3) ls (v.toList ++ st) G' M' Q) : E d b bs Y pc ls (x5 :: x4 :: x3 :: x2 :: x1 :: x0 :: st) G M Q :=
  E_callS (As := [x0, x1, x2, x3, x4, x5]) hd hl cb ct rfl hr hls hlen rfl hroom (by omega) (by omega) spec kk
end ECall6
section MQa
variable {M : Mem} {l : List Nat} {k : Nat}
theorem sp_TM_w2 (x y z : Nat) (hb : x < 256 ∧ y < 256) (hz : z = x * 256 + y) : E 0 0 0 Y_TM_w2 0 [some (.int (nI x)), some (.int (nI y))] [] GM M (QL GM fun r M' => r = lN z ∧ M' = M) := by
  have h1 := hb.1
  have h2 := hb.2
  refine E_iload_n d_TM_w2_0 rfl ?_
  first | (with_reducible refine E_isN1 ?_; refine E_i2lN d_TM_w2_1 (by omega) ?_) | refine E_i2l d_TM_w2_1 ?_
  refine E_bipush (v := nI 8) d_TM_w2_2 (by decide) ?_
  refine E_lshl d_TM_w2_4 ?_
  rw [lL_shl (by omega)]
  refine E_iload_n d_TM_w2_5 rfl ?_
  first | (with_reducible refine E_isN1 ?_; refine E_i2lN d_TM_w2_6 (by omega) ?_) | refine E_i2l d_TM_w2_6 ?_
  refine E_lor d_TM_w2_7 ?_
  refine E_retL d_TM_w2_8 rfl ?_
  exact ⟨by rw [hz]; exact lL_or (by omega) h2, rfl⟩
theorem sp_TM_w3 (x y v z : Nat) (hb : (x < 256 ∧ y < 256) ∧ v < 256) (hz : z = (x * 256 + y) * 256 + v) : E 1 0 0 Y_TM_w3 0 [some (.int (nI x)), some (.int (nI y)), some (.int (nI v))] [] GM M (QL GM fun r M' => r = lN z ∧ M' = M) := by
  have h1 := hb.1.1
  have h2 := hb.1.2
  have h3 := hb.2
  refine E_iload_n d_TM_w3_0 rfl ?_
  refine E_iload_n d_TM_w3_1 rfl ?_
  refine E_S2 (sp_TM_w2 x y _ hb.1 rfl) d_TM_w3_2 ml_TM_116 cb_TM_w2 cs_TM_w2 ⟨by decide, by decide⟩ rfl (Nat.le_of_ble_eq_true rfl) (Nat.le_of_ble_eq_true rfl) (kL fun r1 M1 hc => ?_)
  obtain ⟨rfl, rfl⟩ := hc
  refine E_bipush (v := nI 8) d_TM_w3_5 (by decide) ?_
  refine E_lshl d_TM_w3_7 ?_
  rw [lL_shl (by omega)]
  refine E_iload_n d_TM_w3_8 rfl ?_
  first | (with_reducible refine E_isN1 ?_; refine E_i2lN d_TM_w3_9 (by omega) ?_) | refine E_i2l d_TM_w3_9 ?_
  refine E_lor d_TM_w3_10 ?_
  refine E_retL d_TM_w3_11 rfl ?_
  exact ⟨by rw [hz]; exact lL_or (by omega) h3, rfl⟩
theorem sp_TM_w4 (x y v u z : Nat) (hb : ((x < 256 ∧ y < 256) ∧ v < 256) ∧ u < 256) (hz : z = ((x * 256 + y) * 256 + v) * 256 + u) : E 2 0 0 Y_TM_w4 0 [some (.int (nI x)), some (.int (nI y)), some (.int (nI v)), some (.int (nI u))] [] GM M (QL GM fun r M' => r = lN z ∧ M' = M) := by
  have h1 := hb.1.1.1
  have h2 := hb.1.1.2
  have h3 := hb.1.2
  have h4 := hb.2
  refine E_iload_n d_TM_w4_0 rfl ?_
  refine E_iload_n d_TM_w4_1 rfl ?_
  refine E_iload_n d_TM_w4_2 rfl ?_
  refine E_S3 (sp_TM_w3 x y v _ hb.1 rfl) d_TM_w4_3 ml_TM_120 cb_TM_w3 cs_TM_w3 ⟨by decide, by decide⟩ rfl (Nat.le_of_ble_eq_true rfl) (Nat.le_of_ble_eq_true rfl) (kL fun r1 M1 hc => ?_)
  obtain ⟨rfl, rfl⟩ := hc
  refine E_bipush (v := nI 8) d_TM_w4_6 (by decide) ?_
  refine E_lshl d_TM_w4_8 ?_
  rw [lL_shl (by omega)]
  refine E_iload_n d_TM_w4_9 rfl ?_
  first | (with_reducible refine E_isN1 ?_; refine E_i2lN d_TM_w4_10 (by omega) ?_) | refine E_i2l d_TM_w4_10 ?_
  refine E_lor d_TM_w4_11 ?_
  refine E_retL d_TM_w4_12 rfl ?_
  exact ⟨by rw [hz]; exact lL_or (by omega) h4, rfl⟩
theorem sp_TM_w5 (x y v u t z : Nat) (hb : (((x < 256 ∧ y < 256) ∧ v < 256) ∧ u < 256) ∧ t < 256) (hz : z = (((x * 256 + y) * 256 + v) * 256 + u) * 256 + t) : E 3 0 0 Y_TM_w5 0 [some (.int (nI x)), some (.int (nI y)), some (.int (nI v)), some (.int (nI u)), some (.int (nI t))] [] GM M (QL GM fun r M' => r = lN z ∧ M' = M) := by
  have h1 := hb.1.1.1.1
  have h2 := hb.1.1.1.2
  have h3 := hb.1.1.2
  have h4 := hb.1.2
  have h5 := hb.2
  refine E_iload_n d_TM_w5_0 rfl ?_
  refine E_iload_n d_TM_w5_1 rfl ?_
  refine E_iload_n d_TM_w5_2 rfl ?_
  refine E_iload_n d_TM_w5_3 rfl ?_
  refine E_S4 (sp_TM_w4 x y v u _ hb.1 rfl) d_TM_w5_4 ml_TM_124 cb_TM_w4 cs_TM_w4 ⟨by decide, by decide⟩ rfl (Nat.le_of_ble_eq_true rfl) (Nat.le_of_ble_eq_true rfl) (kL fun r1 M1 hc => ?_)
  obtain ⟨rfl, rfl⟩ := hc
  refine E_bipush (v := nI 8) d_TM_w5_7 (by decide) ?_
  refine E_lshl d_TM_w5_9 ?_
  rw [lL_shl (by omega)]
  refine E_iload d_TM_w5_10 rfl ?_
  first | (with_reducible refine E_isN1 ?_; refine E_i2lN d_TM_w5_12 (by omega) ?_) | refine E_i2l d_TM_w5_12 ?_
  refine E_lor d_TM_w5_13 ?_
  refine E_retL d_TM_w5_14 rfl ?_
  exact ⟨by rw [hz]; exact lL_or (by omega) h5, rfl⟩
theorem sp_TM_w6 (x y v u t s z : Nat) (hb : ((((x < 256 ∧ y < 256) ∧ v < 256) ∧ u < 256) ∧ t < 256) ∧ s < 256) (hz : z = ((((x * 256 + y) * 256 + v) * 256 + u) * 256 + t) * 256 + s) : E 4 0 0 Y_TM_w6 0 [some (.int (nI x)), some (.int (nI y)), some (.int (nI v)), some (.int (nI u)), some (.int (nI t)), some (.int (nI s))] [] GM M (QL GM fun r M' => r = lN z ∧ M' = M) := by
  have h1 := hb.1.1.1.1.1
  have h2 := hb.1.1.1.1.2
  have h3 := hb.1.1.1.2
  have h4 := hb.1.1.2
  have h5 := hb.1.2
  have h6 := hb.2
  refine E_iload_n d_TM_w6_0 rfl ?_
  refine E_iload_n d_TM_w6_1 rfl ?_
  refine E_iload_n d_TM_w6_2 rfl ?_
  refine E_iload_n d_TM_w6_3 rfl ?_
  refine E_iload d_TM_w6_4 rfl ?_
  refine E_S5 (sp_TM_w5 x y v u t _ hb.1 rfl) d_TM_w6_6 ml_TM_128 cb_TM_w5 cs_TM_w5 ⟨by decide, by decide⟩ rfl (Nat.le_of_ble_eq_true rfl) (Nat.le_of_ble_eq_true rfl) (kL fun r1 M1 hc => ?_)
  obtain ⟨rfl, rfl⟩ := hc
  refine E_bipush (v := nI 8) d_TM_w6_9 (by decide) ?_
  refine E_lshl d_TM_w6_11 ?_
  rw [lL_shl (by omega)]
  refine E_iload d_TM_w6_12 rfl ?_
  first | (with_reducible refine E_isN1 ?_; refine E_i2lN d_TM_w6_14 (by omega) ?_) | refine E_i2l d_TM_w6_14 ?_
  refine E_lor d_TM_w6_15 ?_
  refine E_retL d_TM_w6_16 rfl ?_
  exact ⟨by rw [hz]; exact lL_or (by omega) h6, rfl⟩
theorem sgT_tab1 : ∀ t, t < 256 → (t ≠ 1 ∧ t ≠ 2) → (t = 60 ↔ sgT t = 28) ∧ (t = 4 ↔ sgT t = 26) ∧ (t = 62 ↔ sgT t = 29) ∧ (t = 5 ↔ sgT t = 27) ∧ (t = 61 ↔ sgT t = 30) ∧ (t = 35 ↔ sgT t = 31) := by decide +kernel
theorem sgT_tab2 : ∀ t, t < 256 → (t ≠ 1 ∧ t ≠ 2) → (t = 43 ↔ sgT t = 32) ∧ (t = 45 ↔ sgT t = 33) ∧ (t = 42 ↔ sgT t = 34) ∧ (t = 47 ↔ sgT t = 35) ∧ (t = 40 ↔ sgT t = 36) := by decide +kernel
theorem sgT_tab3 : ∀ t, t < 256 → (t ≠ 1 ∧ t ≠ 2) → (t = 41 ↔ sgT t = 37) ∧ (t = 59 ↔ sgT t = 38) ∧ (t = 0 ↔ sgT t = 40) ∧ sgT t ≠ 39 ∧ 26 ≤ sgT t := by decide +kernel
theorem TokR.tk {s v t n w : Nat} (h : TokR s v t n w) : (t = 60 ↔ s = 28) ∧ (t = 4 ↔ s = 26) ∧ (t = 62 ↔ s = 29) ∧ (t = 5 ↔ s = 27) ∧ (t = 61 ↔ s = 30) ∧ (t = 35 ↔ s = 31) ∧ (t = 43 ↔ s = 32) ∧ (t = 45 ↔ s = 33) ∧ (t = 42 ↔ s = 34) ∧ (t = 47 ↔ s = 35) ∧ (t = 40 ↔ s = 36) ∧ (t = 41 ↔ s = 37) ∧ (t = 59 ↔ s = 38) ∧ (t = 0 ↔ s = 40) ∧ (t = 1 ↔ s = 39) ∧ (t = 2 → s < 26 ∨ s = 41) ∧ (t ≠ 2 → 26 ≤ s) := by
  obtain ⟨h1, -, -, ht, -⟩ := h
  by_cases a : t = 1
  · rw [if_pos a] at h1; subst a; subst h1; decide
  · by_cases b : t = 2
    · rw [if_neg a, if_pos b] at h1
      have r := sgN_rg w
      subst b
      subst h1
      refine ⟨?_, ?_, ?_, ?_, ?_, ?_, ?_, ?_, ?_, ?_, ?_, ?_, ?_, ?_, ?_, fun _ => r, fun q => absurd rfl q⟩ <;> omega
    · rw [if_neg a, if_neg b] at h1
      subst h1
      obtain ⟨z1, z2, z3, z4, z5, z6⟩ := sgT_tab1 t ht ⟨a, b⟩
      obtain ⟨z7, z8, z9, z10, z11⟩ := sgT_tab2 t ht ⟨a, b⟩
      obtain ⟨z12, z13, z14, z15, z16⟩ := sgT_tab3 t ht ⟨a, b⟩
      exact ⟨z1, z2, z3, z4, z5, z6, z7, z8, z9, z10, z11, z12, z13, z14, ⟨fun q => absurd q a, fun q => absurd q z15⟩, fun q => absurd q b, fun _ => z16⟩
theorem TokR.wd {s v t n w : Nat} (h : TokR s v t n w) (ht : t = 2) {j z : Nat} (hj : j < 26) (hz : z = kwN.getD j 0) (hzl : z < 9223372036854775808) : lg_cmp (lN w) (lN z) = 0 ↔ s = j := by
  obtain ⟨h1, -, -, -, -, hw⟩ := h
  rw [if_neg (by omega), if_pos ht] at h1
  rw [lg_eq0 (by omega) hzl, h1, sgN_iff hj, hz]
theorem sp_TM_isWord (h : TKM l k M) (j z : Nat) (hj : j < 26) (hz : z = kwN.getD j 0) (hzl : z < 9223372036854775808) : E 0 0 0 Y_TM_isWord 0 [some (.ref 0), some (.long (lN z)), none] [] GM M (QI GM fun r M' => r = pI (SS l k = j) ∧ M' = M) := by
  obtain ⟨h8, h7, tk, n, w, h9, h10, h11, hT⟩ := h
  have ht := hT.2.2.2.1
  have tt := hT.tk.2.2.2.2.2.2.2.2.2.2.2.2.2.2.2.2
  have ww := fun q : tk = 2 => hT.wd q hj hz hzl
  have n1 : tk ≠ 2 → SS l k ≠ j := fun q => by have := tt q; omega
  first | refine E_aload_n d_TM_isWord_0 rfl ?_ | refine E_aload_nN d_TM_isWord_0 rfl ?_
  refine E_getI d_TM_isWord_1 gf_TM_94 (by exact ⟨by decide, rfl⟩) (by exact h9) ?_
  refine E_iconst (v := nI 2) d_TM_isWord_4 rfl ?_
  first | (with_reducible refine E_isN2 ?_; refine E_icmp_ne 21 d_TM_isWord_5 rfl (nb_ne fun h5 => ?_) (nb_eq (by omega) (by omega) fun h5 => ?_)) | refine E_icmp_ne 21 d_TM_isWord_5 rfl (fun h5 => ?_) (fun h5 => ?_)
  · refine E_iconst (v := nI 0) d_TM_isWord_21 rfl ?_
    refine E_retZ d_TM_isWord_22 rfl (by first | exact pI_01 _ | decide) ?_
    first | exact ⟨(pI_f (n1 h5)).symm, rfl⟩ | exact ⟨(pI_t ((ww h5).mp h14)).symm, rfl⟩ | exact ⟨(pI_f (fun q => h14 ((ww h5).mpr q))).symm, rfl⟩
  · first | refine E_aload_n d_TM_isWord_8 rfl ?_ | refine E_aload_nN d_TM_isWord_8 rfl ?_
    refine E_getL d_TM_isWord_9 gf_TM_107 (by exact ⟨by decide, rfl⟩) (by exact h11) ?_
    refine E_lload_n d_TM_isWord_12 rfl ?_
    refine E_lcmp d_TM_isWord_13 ?_
    first | (with_reducible refine E_isP ?_; refine E_if_ne 21 d_TM_isWord_14 rfl (pb_1 fun h14 => ?_) (pb_0 fun h14 => ?_)) | (with_reducible refine E_isN1 ?_; refine E_if_ne 21 d_TM_isWord_14 rfl (nz_ne fun h14 => ?_) (nz_eq (by omega) fun h14 => ?_)) | refine E_if_ne 21 d_TM_isWord_14 rfl (fun h14 => ?_) (fun h14 => ?_)
    · refine E_iconst (v := nI 0) d_TM_isWord_21 rfl ?_
      refine E_retZ d_TM_isWord_22 rfl (by first | exact pI_01 _ | decide) ?_
      first | exact ⟨(pI_f (n1 h5)).symm, rfl⟩ | exact ⟨(pI_t ((ww h5).mp h14)).symm, rfl⟩ | exact ⟨(pI_f (fun q => h14 ((ww h5).mpr q))).symm, rfl⟩
    · refine E_iconst (v := nI 1) d_TM_isWord_17 rfl ?_
      refine E_goto 22 d_TM_isWord_18 rfl ?_
      refine E_retZ d_TM_isWord_22 rfl (by first | exact pI_01 _ | decide) ?_
      first | exact ⟨(pI_f (n1 h5)).symm, rfl⟩ | exact ⟨(pI_t ((ww h5).mp h14)).symm, rfl⟩ | exact ⟨(pI_f (fun q => h14 ((ww h5).mpr q))).symm, rfl⟩
def nmV (s : Nat) : Int32 := if (19 ≤ s ∧ s ≤ 25) ∨ s = 3 then nI (nmI s) else -1
theorem nmV_n {s : Nat} (h : ¬ ((19 ≤ s ∧ s ≤ 25) ∨ s = 3)) : -1 = nmV s := (if_neg h).symm
theorem sp_TM_nameOf (h : TKM l k M) : E 5 0 0 Y_TM_nameOf 0 [some (.ref 0)] [] GM M (QI GM fun r M' => r = nmV (SS l k) ∧ M' = M) := by
  obtain ⟨h8, h7, tk, n, w, h9, h10, h11, hT⟩ := h
  have ht := hT.2.2.2.1
  have tt := hT.tk.2.2.2.2.2.2.2.2.2.2.2.2.2.2.2.2
  have wr := fun q : tk = 2 => hT.wd q (j := 19) (z := 491496238692) (by decide) rfl (by decide)
  have ww := fun q : tk = 2 => hT.wd q (j := 20) (z := 7825519) (by decide) rfl (by decide)
  have wo := fun q : tk = 2 => hT.wd q (j := 21) (z := 7305070) (by decide) rfl (by decide)
  have ws := fun q : tk = 2 => hT.wd q (j := 3) (z := 1936683636) (by decide) rfl (by decide)
  have wp := fun q : tk = 2 => hT.wd q (j := 22) (z := 123580963646565) (by decide) rfl (by decide)
  have wh := fun q : tk = 2 => hT.wd q (j := 23) (z := 448377483876) (by decide) rfl (by decide)
  have wf := fun q : tk = 2 => hT.wd q (j := 24) (z := 112602893349477) (by decide) rfl (by decide)
  have wy := fun q : tk = 2 => hT.wd q (j := 25) (z := 7955827) (by decide) rfl (by decide)
  have k1 : ∀ s i, nI i = nmV s → SS l k = s → nI i = nmV (SS l k) ∧ M = M := fun s i q e => ⟨by rw [e]; exact q, rfl⟩
  have k0 : (tk ≠ 2 → -1 = nmV (SS l k)) := fun q => nmV_n (by have := tt q; omega)
  first | refine E_aload_n d_TM_nameOf_0 rfl ?_ | refine E_aload_nN d_TM_nameOf_0 rfl ?_
  refine E_getI d_TM_nameOf_1 gf_TM_94 (by exact ⟨by decide, rfl⟩) (by exact h9) ?_
  refine E_iconst (v := nI 2) d_TM_nameOf_4 rfl ?_
  first | (with_reducible refine E_isN2 ?_; refine E_icmp_eq 10 d_TM_nameOf_5 rfl (nb_eq (by omega) (by omega) fun h5 => ?_) (nb_ne fun h5 => ?_)) | refine E_icmp_eq 10 d_TM_nameOf_5 rfl (fun h5 => ?_) (fun h5 => ?_)
  · first | refine E_aload_n d_TM_nameOf_10 rfl ?_ | refine E_aload_nN d_TM_nameOf_10 rfl ?_
    refine E_getL d_TM_nameOf_11 gf_TM_107 (by exact ⟨by decide, rfl⟩) (by exact h11) ?_
    refine E_bipush (v := nI 114) d_TM_nameOf_14 (by decide) ?_
    refine E_bipush (v := nI 111) d_TM_nameOf_16 (by decide) ?_
    refine E_bipush (v := nI 117) d_TM_nameOf_18 (by decide) ?_
    refine E_bipush (v := nI 110) d_TM_nameOf_20 (by decide) ?_
    refine E_bipush (v := nI 100) d_TM_nameOf_22 (by decide) ?_
    refine E_S5 (sp_TM_w5 114 111 117 110 100 491496238692 (by decide) (by decide)) d_TM_nameOf_24 ml_TM_128 cb_TM_w5 cs_TM_w5 ⟨by decide, by decide⟩ rfl (Nat.le_of_ble_eq_true rfl) (Nat.le_of_ble_eq_true rfl) (kL fun r1 M1 hc => ?_)
    obtain ⟨rfl, rfl⟩ := hc
    refine E_lcmp d_TM_nameOf_27 ?_
    first | (with_reducible refine E_isP ?_; refine E_if_ne 33 d_TM_nameOf_28 rfl (pb_1 fun h28 => ?_) (pb_0 fun h28 => ?_)) | (with_reducible refine E_isN1 ?_; refine E_if_ne 33 d_TM_nameOf_28 rfl (nz_ne fun h28 => ?_) (nz_eq (by omega) fun h28 => ?_)) | refine E_if_ne 33 d_TM_nameOf_28 rfl (fun h28 => ?_) (fun h28 => ?_)
    · first | refine E_aload_n d_TM_nameOf_33 rfl ?_ | refine E_aload_nN d_TM_nameOf_33 rfl ?_
      refine E_getL d_TM_nameOf_34 gf_TM_107 (by exact ⟨by decide, rfl⟩) (by exact h11) ?_
      refine E_bipush (v := nI 119) d_TM_nameOf_37 (by decide) ?_
      refine E_bipush (v := nI 104) d_TM_nameOf_39 (by decide) ?_
      refine E_bipush (v := nI 111) d_TM_nameOf_41 (by decide) ?_
      refine E_S3 (sp_TM_w3 119 104 111 7825519 (by decide) (by decide)) d_TM_nameOf_43 ml_TM_120 cb_TM_w3 cs_TM_w3 ⟨by decide, by decide⟩ rfl (Nat.le_of_ble_eq_true rfl) (Nat.le_of_ble_eq_true rfl) (kL fun r1 M1 hc => ?_)
      obtain ⟨rfl, rfl⟩ := hc
      refine E_lcmp d_TM_nameOf_46 ?_
      first | (with_reducible refine E_isP ?_; refine E_if_ne 52 d_TM_nameOf_47 rfl (pb_1 fun h47 => ?_) (pb_0 fun h47 => ?_)) | (with_reducible refine E_isN1 ?_; refine E_if_ne 52 d_TM_nameOf_47 rfl (nz_ne fun h47 => ?_) (nz_eq (by omega) fun h47 => ?_)) | refine E_if_ne 52 d_TM_nameOf_47 rfl (fun h47 => ?_) (fun h47 => ?_)
      · first | refine E_aload_n d_TM_nameOf_52 rfl ?_ | refine E_aload_nN d_TM_nameOf_52 rfl ?_
        refine E_getL d_TM_nameOf_53 gf_TM_107 (by exact ⟨by decide, rfl⟩) (by exact h11) ?_
        refine E_bipush (v := nI 111) d_TM_nameOf_56 (by decide) ?_
        refine E_bipush (v := nI 119) d_TM_nameOf_58 (by decide) ?_
        refine E_bipush (v := nI 110) d_TM_nameOf_60 (by decide) ?_
        refine E_S3 (sp_TM_w3 111 119 110 7305070 (by decide) (by decide)) d_TM_nameOf_62 ml_TM_120 cb_TM_w3 cs_TM_w3 ⟨by decide, by decide⟩ rfl (Nat.le_of_ble_eq_true rfl) (Nat.le_of_ble_eq_true rfl) (kL fun r1 M1 hc => ?_)
        obtain ⟨rfl, rfl⟩ := hc
        refine E_lcmp d_TM_nameOf_65 ?_
        first | (with_reducible refine E_isP ?_; refine E_if_ne 71 d_TM_nameOf_66 rfl (pb_1 fun h66 => ?_) (pb_0 fun h66 => ?_)) | (with_reducible refine E_isN1 ?_; refine E_if_ne 71 d_TM_nameOf_66 rfl (nz_ne fun h66 => ?_) (nz_eq (by omega) fun h66 => ?_)) | refine E_if_ne 71 d_TM_nameOf_66 rfl (fun h66 => ?_) (fun h66 => ?_)
        · first | refine E_aload_n d_TM_nameOf_71 rfl ?_ | refine E_aload_nN d_TM_nameOf_71 rfl ?_
          refine E_getL d_TM_nameOf_72 gf_TM_107 (by exact ⟨by decide, rfl⟩) (by exact h11) ?_
          refine E_bipush (v := nI 115) d_TM_nameOf_75 (by decide) ?_
          refine E_bipush (v := nI 111) d_TM_nameOf_77 (by decide) ?_
          refine E_bipush (v := nI 114) d_TM_nameOf_79 (by decide) ?_
          refine E_bipush (v := nI 116) d_TM_nameOf_81 (by decide) ?_
          refine E_S4 (sp_TM_w4 115 111 114 116 1936683636 (by decide) (by decide)) d_TM_nameOf_83 ml_TM_124 cb_TM_w4 cs_TM_w4 ⟨by decide, by decide⟩ rfl (Nat.le_of_ble_eq_true rfl) (Nat.le_of_ble_eq_true rfl) (kL fun r1 M1 hc => ?_)
          obtain ⟨rfl, rfl⟩ := hc
          refine E_lcmp d_TM_nameOf_86 ?_
          first | (with_reducible refine E_isP ?_; refine E_if_ne 92 d_TM_nameOf_87 rfl (pb_1 fun h87 => ?_) (pb_0 fun h87 => ?_)) | (with_reducible refine E_isN1 ?_; refine E_if_ne 92 d_TM_nameOf_87 rfl (nz_ne fun h87 => ?_) (nz_eq (by omega) fun h87 => ?_)) | refine E_if_ne 92 d_TM_nameOf_87 rfl (fun h87 => ?_) (fun h87 => ?_)
          · first | refine E_aload_n d_TM_nameOf_92 rfl ?_ | refine E_aload_nN d_TM_nameOf_92 rfl ?_
            refine E_getL d_TM_nameOf_93 gf_TM_107 (by exact ⟨by decide, rfl⟩) (by exact h11) ?_
            refine E_bipush (v := nI 112) d_TM_nameOf_96 (by decide) ?_
            refine E_bipush (v := nI 101) d_TM_nameOf_98 (by decide) ?_
            refine E_bipush (v := nI 111) d_TM_nameOf_100 (by decide) ?_
            refine E_bipush (v := nI 112) d_TM_nameOf_102 (by decide) ?_
            refine E_bipush (v := nI 108) d_TM_nameOf_104 (by decide) ?_
            refine E_bipush (v := nI 101) d_TM_nameOf_106 (by decide) ?_
            refine E_S6 (sp_TM_w6 112 101 111 112 108 101 123580963646565 (by decide) (by decide)) d_TM_nameOf_108 ml_TM_138 cb_TM_w6 cs_TM_w6 ⟨by decide, by decide⟩ rfl (Nat.le_of_ble_eq_true rfl) (Nat.le_of_ble_eq_true rfl) (kL fun r1 M1 hc => ?_)
            obtain ⟨rfl, rfl⟩ := hc
            refine E_lcmp d_TM_nameOf_111 ?_
            first | (with_reducible refine E_isP ?_; refine E_if_ne 117 d_TM_nameOf_112 rfl (pb_1 fun h112 => ?_) (pb_0 fun h112 => ?_)) | (with_reducible refine E_isN1 ?_; refine E_if_ne 117 d_TM_nameOf_112 rfl (nz_ne fun h112 => ?_) (nz_eq (by omega) fun h112 => ?_)) | refine E_if_ne 117 d_TM_nameOf_112 rfl (fun h112 => ?_) (fun h112 => ?_)
            · first | refine E_aload_n d_TM_nameOf_117 rfl ?_ | refine E_aload_nN d_TM_nameOf_117 rfl ?_
              refine E_getL d_TM_nameOf_118 gf_TM_107 (by exact ⟨by decide, rfl⟩) (by exact h11) ?_
              refine E_bipush (v := nI 104) d_TM_nameOf_121 (by decide) ?_
              refine E_bipush (v := nI 101) d_TM_nameOf_123 (by decide) ?_
              refine E_bipush (v := nI 97) d_TM_nameOf_125 (by decide) ?_
              refine E_bipush (v := nI 114) d_TM_nameOf_127 (by decide) ?_
              refine E_bipush (v := nI 100) d_TM_nameOf_129 (by decide) ?_
              refine E_S5 (sp_TM_w5 104 101 97 114 100 448377483876 (by decide) (by decide)) d_TM_nameOf_131 ml_TM_128 cb_TM_w5 cs_TM_w5 ⟨by decide, by decide⟩ rfl (Nat.le_of_ble_eq_true rfl) (Nat.le_of_ble_eq_true rfl) (kL fun r1 M1 hc => ?_)
              obtain ⟨rfl, rfl⟩ := hc
              refine E_lcmp d_TM_nameOf_134 ?_
              first | (with_reducible refine E_isP ?_; refine E_if_ne 140 d_TM_nameOf_135 rfl (pb_1 fun h135 => ?_) (pb_0 fun h135 => ?_)) | (with_reducible refine E_isN1 ?_; refine E_if_ne 140 d_TM_nameOf_135 rfl (nz_ne fun h135 => ?_) (nz_eq (by omega) fun h135 => ?_)) | refine E_if_ne 140 d_TM_nameOf_135 rfl (fun h135 => ?_) (fun h135 => ?_)
              · first | refine E_aload_n d_TM_nameOf_140 rfl ?_ | refine E_aload_nN d_TM_nameOf_140 rfl ?_
                refine E_getL d_TM_nameOf_141 gf_TM_107 (by exact ⟨by decide, rfl⟩) (by exact h11) ?_
                refine E_bipush (v := nI 102) d_TM_nameOf_144 (by decide) ?_
                refine E_bipush (v := nI 105) d_TM_nameOf_146 (by decide) ?_
                refine E_bipush (v := nI 103) d_TM_nameOf_148 (by decide) ?_
                refine E_bipush (v := nI 117) d_TM_nameOf_150 (by decide) ?_
                refine E_bipush (v := nI 114) d_TM_nameOf_152 (by decide) ?_
                refine E_bipush (v := nI 101) d_TM_nameOf_154 (by decide) ?_
                refine E_S6 (sp_TM_w6 102 105 103 117 114 101 112602893349477 (by decide) (by decide)) d_TM_nameOf_156 ml_TM_138 cb_TM_w6 cs_TM_w6 ⟨by decide, by decide⟩ rfl (Nat.le_of_ble_eq_true rfl) (Nat.le_of_ble_eq_true rfl) (kL fun r1 M1 hc => ?_)
                obtain ⟨rfl, rfl⟩ := hc
                refine E_lcmp d_TM_nameOf_159 ?_
                first | (with_reducible refine E_isP ?_; refine E_if_ne 168 d_TM_nameOf_160 rfl (pb_1 fun h160 => ?_) (pb_0 fun h160 => ?_)) | (with_reducible refine E_isN1 ?_; refine E_if_ne 168 d_TM_nameOf_160 rfl (nz_ne fun h160 => ?_) (nz_eq (by omega) fun h160 => ?_)) | refine E_if_ne 168 d_TM_nameOf_160 rfl (fun h160 => ?_) (fun h160 => ?_)
                · first | refine E_aload_n d_TM_nameOf_168 rfl ?_ | refine E_aload_nN d_TM_nameOf_168 rfl ?_
                  refine E_getL d_TM_nameOf_169 gf_TM_107 (by exact ⟨by decide, rfl⟩) (by exact h11) ?_
                  refine E_bipush (v := nI 121) d_TM_nameOf_172 (by decide) ?_
                  refine E_bipush (v := nI 101) d_TM_nameOf_174 (by decide) ?_
                  refine E_bipush (v := nI 115) d_TM_nameOf_176 (by decide) ?_
                  refine E_S3 (sp_TM_w3 121 101 115 7955827 (by decide) (by decide)) d_TM_nameOf_178 ml_TM_120 cb_TM_w3 cs_TM_w3 ⟨by decide, by decide⟩ rfl (Nat.le_of_ble_eq_true rfl) (Nat.le_of_ble_eq_true rfl) (kL fun r1 M1 hc => ?_)
                  obtain ⟨rfl, rfl⟩ := hc
                  refine E_lcmp d_TM_nameOf_181 ?_
                  first | (with_reducible refine E_isP ?_; refine E_if_ne 190 d_TM_nameOf_182 rfl (pb_1 fun h182 => ?_) (pb_0 fun h182 => ?_)) | (with_reducible refine E_isN1 ?_; refine E_if_ne 190 d_TM_nameOf_182 rfl (nz_ne fun h182 => ?_) (nz_eq (by omega) fun h182 => ?_)) | refine E_if_ne 190 d_TM_nameOf_182 rfl (fun h182 => ?_) (fun h182 => ?_)
                  · refine E_iconst (v := (-1)) d_TM_nameOf_190 rfl ?_
                    refine E_retI d_TM_nameOf_191 rfl ?_
                    first | exact k1 24 6 rfl ((wf h5).mp h160) | exact k1 25 7 rfl ((wy h5).mp h182) | exact ⟨nmV_n (fun q => by
                      have a1 : SS l k ≠ 19 := fun z => h28 ((wr h5).mpr z)
                      have a2 : SS l k ≠ 20 := fun z => h47 ((ww h5).mpr z)
                      have a3 : SS l k ≠ 21 := fun z => h66 ((wo h5).mpr z)
                      have a4 : SS l k ≠ 3 := fun z => h87 ((ws h5).mpr z)
                      have a5 : SS l k ≠ 22 := fun z => h112 ((wp h5).mpr z)
                      have a6 : SS l k ≠ 23 := fun z => h135 ((wh h5).mpr z)
                      have a7 : SS l k ≠ 24 := fun z => h160 ((wf h5).mpr z)
                      have a8 : SS l k ≠ 25 := fun z => h182 ((wy h5).mpr z)
                      omega), rfl⟩
                  · refine E_bipush (v := nI 7) d_TM_nameOf_185 (by decide) ?_
                    refine E_goto 191 d_TM_nameOf_187 rfl ?_
                    refine E_retI d_TM_nameOf_191 rfl ?_
                    first | exact k1 24 6 rfl ((wf h5).mp h160) | exact k1 25 7 rfl ((wy h5).mp h182) | exact ⟨nmV_n (fun q => by
                      have a1 : SS l k ≠ 19 := fun z => h28 ((wr h5).mpr z)
                      have a2 : SS l k ≠ 20 := fun z => h47 ((ww h5).mpr z)
                      have a3 : SS l k ≠ 21 := fun z => h66 ((wo h5).mpr z)
                      have a4 : SS l k ≠ 3 := fun z => h87 ((ws h5).mpr z)
                      have a5 : SS l k ≠ 22 := fun z => h112 ((wp h5).mpr z)
                      have a6 : SS l k ≠ 23 := fun z => h135 ((wh h5).mpr z)
                      have a7 : SS l k ≠ 24 := fun z => h160 ((wf h5).mpr z)
                      have a8 : SS l k ≠ 25 := fun z => h182 ((wy h5).mpr z)
                      omega), rfl⟩
                · refine E_bipush (v := nI 6) d_TM_nameOf_163 (by decide) ?_
                  refine E_goto 191 d_TM_nameOf_165 rfl ?_
                  refine E_retI d_TM_nameOf_191 rfl ?_
                  first | exact k1 24 6 rfl ((wf h5).mp h160) | exact k1 25 7 rfl ((wy h5).mp h182) | exact ⟨nmV_n (fun q => by
                    have a1 : SS l k ≠ 19 := fun z => h28 ((wr h5).mpr z)
                    have a2 : SS l k ≠ 20 := fun z => h47 ((ww h5).mpr z)
                    have a3 : SS l k ≠ 21 := fun z => h66 ((wo h5).mpr z)
                    have a4 : SS l k ≠ 3 := fun z => h87 ((ws h5).mpr z)
                    have a5 : SS l k ≠ 22 := fun z => h112 ((wp h5).mpr z)
                    have a6 : SS l k ≠ 23 := fun z => h135 ((wh h5).mpr z)
                    have a7 : SS l k ≠ 24 := fun z => h160 ((wf h5).mpr z)
                    have a8 : SS l k ≠ 25 := fun z => h182 ((wy h5).mpr z)
                    omega), rfl⟩
              · refine E_iconst (v := nI 5) d_TM_nameOf_138 rfl ?_
                refine E_retI d_TM_nameOf_139 rfl ?_
                exact k1 23 5 rfl ((wh h5).mp h135)
            · refine E_iconst (v := nI 4) d_TM_nameOf_115 rfl ?_
              refine E_retI d_TM_nameOf_116 rfl ?_
              exact k1 22 4 rfl ((wp h5).mp h112)
          · refine E_iconst (v := nI 3) d_TM_nameOf_90 rfl ?_
            refine E_retI d_TM_nameOf_91 rfl ?_
            exact k1 3 3 rfl ((ws h5).mp h87)
        · refine E_iconst (v := nI 2) d_TM_nameOf_69 rfl ?_
          refine E_retI d_TM_nameOf_70 rfl ?_
          exact k1 21 2 rfl ((wo h5).mp h66)
      · refine E_iconst (v := nI 1) d_TM_nameOf_50 rfl ?_
        refine E_retI d_TM_nameOf_51 rfl ?_
        exact k1 20 1 rfl ((ww h5).mp h47)
    · refine E_iconst (v := nI 0) d_TM_nameOf_31 rfl ?_
      refine E_retI d_TM_nameOf_32 rfl ?_
      exact k1 19 0 rfl ((wr h5).mp h28)
  · refine E_iconst (v := (-1)) d_TM_nameOf_8 rfl ?_
    refine E_retI d_TM_nameOf_9 rfl ?_
    exact ⟨k0 h5, rfl⟩
def cmV (s : Nat) : Int32 := if 26 ≤ s ∧ s ≤ 31 then nI (cmO s) else -1
theorem sp_TM_compareOf (h : TKM l k M) : E 0 0 0 Y_TM_compareOf 0 [some (.ref 0)] [] GM M (QI GM fun r M' => r = cmV (SS l k) ∧ M' = M) := by
  obtain ⟨h8, h7, tk, n, w, h9, h10, h11, hT⟩ := h
  have ht := hT.2.2.2.1
  obtain ⟨t1, t2, t3, t4, t5, t6, -⟩ := hT.tk
  have k1 : ∀ s i, nI i = cmV s → SS l k = s → nI i = cmV (SS l k) ∧ M = M := fun s i q e => ⟨by rw [e]; exact q, rfl⟩
  first | refine E_aload_n d_TM_compareOf_0 rfl ?_ | refine E_aload_nN d_TM_compareOf_0 rfl ?_
  refine E_getI d_TM_compareOf_1 gf_TM_94 (by exact ⟨by decide, rfl⟩) (by exact h9) ?_
  refine E_bipush (v := nI 60) d_TM_compareOf_4 (by decide) ?_
  first | (with_reducible refine E_isN2 ?_; refine E_icmp_ne 14 d_TM_compareOf_6 rfl (nb_ne fun h6 => ?_) (nb_eq (by omega) (by omega) fun h6 => ?_)) | refine E_icmp_ne 14 d_TM_compareOf_6 rfl (fun h6 => ?_) (fun h6 => ?_)
  · first | refine E_aload_n d_TM_compareOf_14 rfl ?_ | refine E_aload_nN d_TM_compareOf_14 rfl ?_
    refine E_getI d_TM_compareOf_15 gf_TM_94 (by exact ⟨by decide, rfl⟩) (by exact h9) ?_
    refine E_iconst (v := nI 4) d_TM_compareOf_18 rfl ?_
    first | (with_reducible refine E_isN2 ?_; refine E_icmp_ne 27 d_TM_compareOf_19 rfl (nb_ne fun h19 => ?_) (nb_eq (by omega) (by omega) fun h19 => ?_)) | refine E_icmp_ne 27 d_TM_compareOf_19 rfl (fun h19 => ?_) (fun h19 => ?_)
    · first | refine E_aload_n d_TM_compareOf_27 rfl ?_ | refine E_aload_nN d_TM_compareOf_27 rfl ?_
      refine E_getI d_TM_compareOf_28 gf_TM_94 (by exact ⟨by decide, rfl⟩) (by exact h9) ?_
      refine E_bipush (v := nI 62) d_TM_compareOf_31 (by decide) ?_
      first | (with_reducible refine E_isN2 ?_; refine E_icmp_ne 41 d_TM_compareOf_33 rfl (nb_ne fun h33 => ?_) (nb_eq (by omega) (by omega) fun h33 => ?_)) | refine E_icmp_ne 41 d_TM_compareOf_33 rfl (fun h33 => ?_) (fun h33 => ?_)
      · first | refine E_aload_n d_TM_compareOf_41 rfl ?_ | refine E_aload_nN d_TM_compareOf_41 rfl ?_
        refine E_getI d_TM_compareOf_42 gf_TM_94 (by exact ⟨by decide, rfl⟩) (by exact h9) ?_
        refine E_iconst (v := nI 5) d_TM_compareOf_45 rfl ?_
        first | (with_reducible refine E_isN2 ?_; refine E_icmp_ne 54 d_TM_compareOf_46 rfl (nb_ne fun h46 => ?_) (nb_eq (by omega) (by omega) fun h46 => ?_)) | refine E_icmp_ne 54 d_TM_compareOf_46 rfl (fun h46 => ?_) (fun h46 => ?_)
        · first | refine E_aload_n d_TM_compareOf_54 rfl ?_ | refine E_aload_nN d_TM_compareOf_54 rfl ?_
          refine E_getI d_TM_compareOf_55 gf_TM_94 (by exact ⟨by decide, rfl⟩) (by exact h9) ?_
          refine E_bipush (v := nI 61) d_TM_compareOf_58 (by decide) ?_
          first | (with_reducible refine E_isN2 ?_; refine E_icmp_ne 68 d_TM_compareOf_60 rfl (nb_ne fun h60 => ?_) (nb_eq (by omega) (by omega) fun h60 => ?_)) | refine E_icmp_ne 68 d_TM_compareOf_60 rfl (fun h60 => ?_) (fun h60 => ?_)
          · first | refine E_aload_n d_TM_compareOf_68 rfl ?_ | refine E_aload_nN d_TM_compareOf_68 rfl ?_
            refine E_getI d_TM_compareOf_69 gf_TM_94 (by exact ⟨by decide, rfl⟩) (by exact h9) ?_
            refine E_bipush (v := nI 35) d_TM_compareOf_72 (by decide) ?_
            first | (with_reducible refine E_isN2 ?_; refine E_icmp_ne 82 d_TM_compareOf_74 rfl (nb_ne fun h74 => ?_) (nb_eq (by omega) (by omega) fun h74 => ?_)) | refine E_icmp_ne 82 d_TM_compareOf_74 rfl (fun h74 => ?_) (fun h74 => ?_)
            · refine E_iconst (v := (-1)) d_TM_compareOf_82 rfl ?_
              refine E_retI d_TM_compareOf_83 rfl ?_
              first | exact k1 28 10 rfl (t1.mp h6) | exact k1 26 11 rfl (t2.mp h19) | exact k1 29 12 rfl (t3.mp h33) | exact k1 27 13 rfl (t4.mp h46) | exact k1 30 14 rfl (t5.mp h60) | exact k1 31 15 rfl (t6.mp h74) | exact ⟨(if_neg (by omega)).symm, rfl⟩
            · refine E_bipush (v := nI 15) d_TM_compareOf_77 (by decide) ?_
              refine E_goto 83 d_TM_compareOf_79 rfl ?_
              refine E_retI d_TM_compareOf_83 rfl ?_
              first | exact k1 28 10 rfl (t1.mp h6) | exact k1 26 11 rfl (t2.mp h19) | exact k1 29 12 rfl (t3.mp h33) | exact k1 27 13 rfl (t4.mp h46) | exact k1 30 14 rfl (t5.mp h60) | exact k1 31 15 rfl (t6.mp h74) | exact ⟨(if_neg (by omega)).symm, rfl⟩
          · refine E_bipush (v := nI 14) d_TM_compareOf_63 (by decide) ?_
            refine E_goto 83 d_TM_compareOf_65 rfl ?_
            refine E_retI d_TM_compareOf_83 rfl ?_
            first | exact k1 28 10 rfl (t1.mp h6) | exact k1 26 11 rfl (t2.mp h19) | exact k1 29 12 rfl (t3.mp h33) | exact k1 27 13 rfl (t4.mp h46) | exact k1 30 14 rfl (t5.mp h60) | exact k1 31 15 rfl (t6.mp h74) | exact ⟨(if_neg (by omega)).symm, rfl⟩
        · refine E_bipush (v := nI 13) d_TM_compareOf_49 (by decide) ?_
          refine E_goto 83 d_TM_compareOf_51 rfl ?_
          refine E_retI d_TM_compareOf_83 rfl ?_
          first | exact k1 28 10 rfl (t1.mp h6) | exact k1 26 11 rfl (t2.mp h19) | exact k1 29 12 rfl (t3.mp h33) | exact k1 27 13 rfl (t4.mp h46) | exact k1 30 14 rfl (t5.mp h60) | exact k1 31 15 rfl (t6.mp h74) | exact ⟨(if_neg (by omega)).symm, rfl⟩
      · refine E_bipush (v := nI 12) d_TM_compareOf_36 (by decide) ?_
        refine E_goto 83 d_TM_compareOf_38 rfl ?_
        refine E_retI d_TM_compareOf_83 rfl ?_
        first | exact k1 28 10 rfl (t1.mp h6) | exact k1 26 11 rfl (t2.mp h19) | exact k1 29 12 rfl (t3.mp h33) | exact k1 27 13 rfl (t4.mp h46) | exact k1 30 14 rfl (t5.mp h60) | exact k1 31 15 rfl (t6.mp h74) | exact ⟨(if_neg (by omega)).symm, rfl⟩
    · refine E_bipush (v := nI 11) d_TM_compareOf_22 (by decide) ?_
      refine E_goto 83 d_TM_compareOf_24 rfl ?_
      refine E_retI d_TM_compareOf_83 rfl ?_
      first | exact k1 28 10 rfl (t1.mp h6) | exact k1 26 11 rfl (t2.mp h19) | exact k1 29 12 rfl (t3.mp h33) | exact k1 27 13 rfl (t4.mp h46) | exact k1 30 14 rfl (t5.mp h60) | exact k1 31 15 rfl (t6.mp h74) | exact ⟨(if_neg (by omega)).symm, rfl⟩
  · refine E_bipush (v := nI 10) d_TM_compareOf_9 (by decide) ?_
    refine E_goto 83 d_TM_compareOf_11 rfl ?_
    refine E_retI d_TM_compareOf_83 rfl ?_
    first | exact k1 28 10 rfl (t1.mp h6) | exact k1 26 11 rfl (t2.mp h19) | exact k1 29 12 rfl (t3.mp h33) | exact k1 27 13 rfl (t4.mp h46) | exact k1 30 14 rfl (t5.mp h60) | exact k1 31 15 rfl (t6.mp h74) | exact ⟨(if_neg (by omega)).symm, rfl⟩
def soV (s : Nat) : Int32 := if s ≤ 9 ∧ s ≠ 3 ∧ s ≠ 5 then nI (kdS s) else -1
theorem sp_TM_sortOf (h : TKM l k M) : E 5 0 0 Y_TM_sortOf 0 [some (.ref 0)] [] GM M (QI GM fun r M' => r = soV (SS l k) ∧ M' = M) := by
  have k1 : ∀ s i, nI i = soV s → SS l k = s → nI i = soV (SS l k) ∧ M = M := fun s i q e => ⟨by rw [e]; exact q, rfl⟩
  first | refine E_aload_n d_TM_sortOf_0 rfl ?_ | refine E_aload_nN d_TM_sortOf_0 rfl ?_
  refine E_bipush (v := nI 115) d_TM_sortOf_1 (by decide) ?_
  refine E_bipush (v := nI 97) d_TM_sortOf_3 (by decide) ?_
  refine E_bipush (v := nI 121) d_TM_sortOf_5 (by decide) ?_
  refine E_bipush (v := nI 115) d_TM_sortOf_7 (by decide) ?_
  refine E_S4 (sp_TM_w4 115 97 121 115 1935767923 (by decide) (by decide)) d_TM_sortOf_9 ml_TM_124 cb_TM_w4 cs_TM_w4 ⟨by decide, by decide⟩ rfl (Nat.le_of_ble_eq_true rfl) (Nat.le_of_ble_eq_true rfl) (kL fun r1 M1 hc => ?_)
  obtain ⟨rfl, rfl⟩ := hc
  refine E_V1 (sp_TM_isWord h 0 1935767923 (by decide) rfl (by decide)) d_TM_sortOf_12 ml_TM_183 cb_TM_isWord cv_TM_isWord (by exact ⟨by decide, rfl⟩) ⟨by decide, rfl⟩ ⟨by decide, by decide⟩ rfl (Nat.le_of_ble_eq_true rfl) (Nat.le_of_ble_eq_true rfl) (kI fun r1 M1 hc => ?_)
  obtain ⟨rfl, rfl⟩ := hc
  first | (with_reducible refine E_isP ?_; refine E_if_eq 20 d_TM_sortOf_15 rfl (pb_0 fun h15 => ?_) (pb_1 fun h15 => ?_)) | (with_reducible refine E_isN1 ?_; refine E_if_eq 20 d_TM_sortOf_15 rfl (nz_eq (by omega) fun h15 => ?_) (nz_ne fun h15 => ?_)) | refine E_if_eq 20 d_TM_sortOf_15 rfl (fun h15 => ?_) (fun h15 => ?_)
  · first | refine E_aload_n d_TM_sortOf_20 rfl ?_ | refine E_aload_nN d_TM_sortOf_20 rfl ?_
    refine E_bipush (v := nI 115) d_TM_sortOf_21 (by decide) ?_
    refine E_bipush (v := nI 119) d_TM_sortOf_23 (by decide) ?_
    refine E_bipush (v := nI 97) d_TM_sortOf_25 (by decide) ?_
    refine E_bipush (v := nI 121) d_TM_sortOf_27 (by decide) ?_
    refine E_bipush (v := nI 115) d_TM_sortOf_29 (by decide) ?_
    refine E_S5 (sp_TM_w5 115 119 97 121 115 495924115827 (by decide) (by decide)) d_TM_sortOf_31 ml_TM_128 cb_TM_w5 cs_TM_w5 ⟨by decide, by decide⟩ rfl (Nat.le_of_ble_eq_true rfl) (Nat.le_of_ble_eq_true rfl) (kL fun r1 M1 hc => ?_)
    obtain ⟨rfl, rfl⟩ := hc
    refine E_V1 (sp_TM_isWord h 1 495924115827 (by decide) rfl (by decide)) d_TM_sortOf_34 ml_TM_183 cb_TM_isWord cv_TM_isWord (by exact ⟨by decide, rfl⟩) ⟨by decide, rfl⟩ ⟨by decide, by decide⟩ rfl (Nat.le_of_ble_eq_true rfl) (Nat.le_of_ble_eq_true rfl) (kI fun r1 M1 hc => ?_)
    obtain ⟨rfl, rfl⟩ := hc
    first | (with_reducible refine E_isP ?_; refine E_if_eq 42 d_TM_sortOf_37 rfl (pb_0 fun h37 => ?_) (pb_1 fun h37 => ?_)) | (with_reducible refine E_isN1 ?_; refine E_if_eq 42 d_TM_sortOf_37 rfl (nz_eq (by omega) fun h37 => ?_) (nz_ne fun h37 => ?_)) | refine E_if_eq 42 d_TM_sortOf_37 rfl (fun h37 => ?_) (fun h37 => ?_)
    · first | refine E_aload_n d_TM_sortOf_42 rfl ?_ | refine E_aload_nN d_TM_sortOf_42 rfl ?_
      refine E_bipush (v := nI 112) d_TM_sortOf_43 (by decide) ?_
      refine E_bipush (v := nI 101) d_TM_sortOf_45 (by decide) ?_
      refine E_bipush (v := nI 114) d_TM_sortOf_47 (by decide) ?_
      refine E_bipush (v := nI 115) d_TM_sortOf_49 (by decide) ?_
      refine E_bipush (v := nI 111) d_TM_sortOf_51 (by decide) ?_
      refine E_bipush (v := nI 110) d_TM_sortOf_53 (by decide) ?_
      refine E_S6 (sp_TM_w6 112 101 114 115 111 110 123581014175598 (by decide) (by decide)) d_TM_sortOf_55 ml_TM_138 cb_TM_w6 cs_TM_w6 ⟨by decide, by decide⟩ rfl (Nat.le_of_ble_eq_true rfl) (Nat.le_of_ble_eq_true rfl) (kL fun r1 M1 hc => ?_)
      obtain ⟨rfl, rfl⟩ := hc
      refine E_V1 (sp_TM_isWord h 2 123581014175598 (by decide) rfl (by decide)) d_TM_sortOf_58 ml_TM_183 cb_TM_isWord cv_TM_isWord (by exact ⟨by decide, rfl⟩) ⟨by decide, rfl⟩ ⟨by decide, by decide⟩ rfl (Nat.le_of_ble_eq_true rfl) (Nat.le_of_ble_eq_true rfl) (kI fun r1 M1 hc => ?_)
      obtain ⟨rfl, rfl⟩ := hc
      first | (with_reducible refine E_isP ?_; refine E_if_eq 66 d_TM_sortOf_61 rfl (pb_0 fun h61 => ?_) (pb_1 fun h61 => ?_)) | (with_reducible refine E_isN1 ?_; refine E_if_eq 66 d_TM_sortOf_61 rfl (nz_eq (by omega) fun h61 => ?_) (nz_ne fun h61 => ?_)) | refine E_if_eq 66 d_TM_sortOf_61 rfl (fun h61 => ?_) (fun h61 => ?_)
      · first | refine E_aload_n d_TM_sortOf_66 rfl ?_ | refine E_aload_nN d_TM_sortOf_66 rfl ?_
        refine E_bipush (v := nI 104) d_TM_sortOf_67 (by decide) ?_
        refine E_bipush (v := nI 101) d_TM_sortOf_69 (by decide) ?_
        refine E_bipush (v := nI 97) d_TM_sortOf_71 (by decide) ?_
        refine E_bipush (v := nI 114) d_TM_sortOf_73 (by decide) ?_
        refine E_S4 (sp_TM_w4 104 101 97 114 1751474546 (by decide) (by decide)) d_TM_sortOf_75 ml_TM_124 cb_TM_w4 cs_TM_w4 ⟨by decide, by decide⟩ rfl (Nat.le_of_ble_eq_true rfl) (Nat.le_of_ble_eq_true rfl) (kL fun r1 M1 hc => ?_)
        obtain ⟨rfl, rfl⟩ := hc
        refine E_V1 (sp_TM_isWord h 4 1751474546 (by decide) rfl (by decide)) d_TM_sortOf_78 ml_TM_183 cb_TM_isWord cv_TM_isWord (by exact ⟨by decide, rfl⟩) ⟨by decide, rfl⟩ ⟨by decide, by decide⟩ rfl (Nat.le_of_ble_eq_true rfl) (Nat.le_of_ble_eq_true rfl) (kI fun r1 M1 hc => ?_)
        obtain ⟨rfl, rfl⟩ := hc
        first | (with_reducible refine E_isP ?_; refine E_if_eq 86 d_TM_sortOf_81 rfl (pb_0 fun h81 => ?_) (pb_1 fun h81 => ?_)) | (with_reducible refine E_isN1 ?_; refine E_if_eq 86 d_TM_sortOf_81 rfl (nz_eq (by omega) fun h81 => ?_) (nz_ne fun h81 => ?_)) | refine E_if_eq 86 d_TM_sortOf_81 rfl (fun h81 => ?_) (fun h81 => ?_)
        · first | refine E_aload_n d_TM_sortOf_86 rfl ?_ | refine E_aload_nN d_TM_sortOf_86 rfl ?_
          refine E_bipush (v := nI 116) d_TM_sortOf_87 (by decide) ?_
          refine E_bipush (v := nI 101) d_TM_sortOf_89 (by decide) ?_
          refine E_bipush (v := nI 108) d_TM_sortOf_91 (by decide) ?_
          refine E_bipush (v := nI 108) d_TM_sortOf_93 (by decide) ?_
          refine E_S4 (sp_TM_w4 116 101 108 108 1952803948 (by decide) (by decide)) d_TM_sortOf_95 ml_TM_124 cb_TM_w4 cs_TM_w4 ⟨by decide, by decide⟩ rfl (Nat.le_of_ble_eq_true rfl) (Nat.le_of_ble_eq_true rfl) (kL fun r1 M1 hc => ?_)
          obtain ⟨rfl, rfl⟩ := hc
          refine E_V1 (sp_TM_isWord h 6 1952803948 (by decide) rfl (by decide)) d_TM_sortOf_98 ml_TM_183 cb_TM_isWord cv_TM_isWord (by exact ⟨by decide, rfl⟩) ⟨by decide, rfl⟩ ⟨by decide, by decide⟩ rfl (Nat.le_of_ble_eq_true rfl) (Nat.le_of_ble_eq_true rfl) (kI fun r1 M1 hc => ?_)
          obtain ⟨rfl, rfl⟩ := hc
          first | (with_reducible refine E_isP ?_; refine E_if_eq 106 d_TM_sortOf_101 rfl (pb_0 fun h101 => ?_) (pb_1 fun h101 => ?_)) | (with_reducible refine E_isN1 ?_; refine E_if_eq 106 d_TM_sortOf_101 rfl (nz_eq (by omega) fun h101 => ?_) (nz_ne fun h101 => ?_)) | refine E_if_eq 106 d_TM_sortOf_101 rfl (fun h101 => ?_) (fun h101 => ?_)
          · first | refine E_aload_n d_TM_sortOf_106 rfl ?_ | refine E_aload_nN d_TM_sortOf_106 rfl ?_
            refine E_bipush (v := nI 117) d_TM_sortOf_107 (by decide) ?_
            refine E_bipush (v := nI 112) d_TM_sortOf_109 (by decide) ?_
            refine E_S2 (sp_TM_w2 117 112 30064 (by decide) (by decide)) d_TM_sortOf_111 ml_TM_116 cb_TM_w2 cs_TM_w2 ⟨by decide, by decide⟩ rfl (Nat.le_of_ble_eq_true rfl) (Nat.le_of_ble_eq_true rfl) (kL fun r1 M1 hc => ?_)
            obtain ⟨rfl, rfl⟩ := hc
            refine E_V1 (sp_TM_isWord h 7 30064 (by decide) rfl (by decide)) d_TM_sortOf_114 ml_TM_183 cb_TM_isWord cv_TM_isWord (by exact ⟨by decide, rfl⟩) ⟨by decide, rfl⟩ ⟨by decide, by decide⟩ rfl (Nat.le_of_ble_eq_true rfl) (Nat.le_of_ble_eq_true rfl) (kI fun r1 M1 hc => ?_)
            obtain ⟨rfl, rfl⟩ := hc
            first | (with_reducible refine E_isP ?_; refine E_if_eq 122 d_TM_sortOf_117 rfl (pb_0 fun h117 => ?_) (pb_1 fun h117 => ?_)) | (with_reducible refine E_isN1 ?_; refine E_if_eq 122 d_TM_sortOf_117 rfl (nz_eq (by omega) fun h117 => ?_) (nz_ne fun h117 => ?_)) | refine E_if_eq 122 d_TM_sortOf_117 rfl (fun h117 => ?_) (fun h117 => ?_)
            · first | refine E_aload_n d_TM_sortOf_122 rfl ?_ | refine E_aload_nN d_TM_sortOf_122 rfl ?_
              refine E_bipush (v := nI 100) d_TM_sortOf_123 (by decide) ?_
              refine E_bipush (v := nI 111) d_TM_sortOf_125 (by decide) ?_
              refine E_bipush (v := nI 119) d_TM_sortOf_127 (by decide) ?_
              refine E_bipush (v := nI 110) d_TM_sortOf_129 (by decide) ?_
              refine E_S4 (sp_TM_w4 100 111 119 110 1685026670 (by decide) (by decide)) d_TM_sortOf_131 ml_TM_124 cb_TM_w4 cs_TM_w4 ⟨by decide, by decide⟩ rfl (Nat.le_of_ble_eq_true rfl) (Nat.le_of_ble_eq_true rfl) (kL fun r1 M1 hc => ?_)
              obtain ⟨rfl, rfl⟩ := hc
              refine E_V1 (sp_TM_isWord h 8 1685026670 (by decide) rfl (by decide)) d_TM_sortOf_134 ml_TM_183 cb_TM_isWord cv_TM_isWord (by exact ⟨by decide, rfl⟩) ⟨by decide, rfl⟩ ⟨by decide, by decide⟩ rfl (Nat.le_of_ble_eq_true rfl) (Nat.le_of_ble_eq_true rfl) (kI fun r1 M1 hc => ?_)
              obtain ⟨rfl, rfl⟩ := hc
              first | (with_reducible refine E_isP ?_; refine E_if_eq 145 d_TM_sortOf_137 rfl (pb_0 fun h137 => ?_) (pb_1 fun h137 => ?_)) | (with_reducible refine E_isN1 ?_; refine E_if_eq 145 d_TM_sortOf_137 rfl (nz_eq (by omega) fun h137 => ?_) (nz_ne fun h137 => ?_)) | refine E_if_eq 145 d_TM_sortOf_137 rfl (fun h137 => ?_) (fun h137 => ?_)
              · first | refine E_aload_n d_TM_sortOf_145 rfl ?_ | refine E_aload_nN d_TM_sortOf_145 rfl ?_
                refine E_bipush (v := nI 100) d_TM_sortOf_146 (by decide) ?_
                refine E_bipush (v := nI 97) d_TM_sortOf_148 (by decide) ?_
                refine E_bipush (v := nI 121) d_TM_sortOf_150 (by decide) ?_
                refine E_S3 (sp_TM_w3 100 97 121 6578553 (by decide) (by decide)) d_TM_sortOf_152 ml_TM_120 cb_TM_w3 cs_TM_w3 ⟨by decide, by decide⟩ rfl (Nat.le_of_ble_eq_true rfl) (Nat.le_of_ble_eq_true rfl) (kL fun r1 M1 hc => ?_)
                obtain ⟨rfl, rfl⟩ := hc
                refine E_V1 (sp_TM_isWord h 9 6578553 (by decide) rfl (by decide)) d_TM_sortOf_155 ml_TM_183 cb_TM_isWord cv_TM_isWord (by exact ⟨by decide, rfl⟩) ⟨by decide, rfl⟩ ⟨by decide, by decide⟩ rfl (Nat.le_of_ble_eq_true rfl) (Nat.le_of_ble_eq_true rfl) (kI fun r1 M1 hc => ?_)
                obtain ⟨rfl, rfl⟩ := hc
                first | (with_reducible refine E_isP ?_; refine E_if_eq 166 d_TM_sortOf_158 rfl (pb_0 fun h158 => ?_) (pb_1 fun h158 => ?_)) | (with_reducible refine E_isN1 ?_; refine E_if_eq 166 d_TM_sortOf_158 rfl (nz_eq (by omega) fun h158 => ?_) (nz_ne fun h158 => ?_)) | refine E_if_eq 166 d_TM_sortOf_158 rfl (fun h158 => ?_) (fun h158 => ?_)
                · refine E_iconst (v := (-1)) d_TM_sortOf_166 rfl ?_
                  refine E_retI d_TM_sortOf_167 rfl ?_
                  first | exact k1 8 6 rfl h137 | exact k1 9 7 rfl h158 | exact ⟨(if_neg (by omega)).symm, rfl⟩
                · refine E_bipush (v := nI 7) d_TM_sortOf_161 (by decide) ?_
                  refine E_goto 167 d_TM_sortOf_163 rfl ?_
                  refine E_retI d_TM_sortOf_167 rfl ?_
                  first | exact k1 8 6 rfl h137 | exact k1 9 7 rfl h158 | exact ⟨(if_neg (by omega)).symm, rfl⟩
              · refine E_bipush (v := nI 6) d_TM_sortOf_140 (by decide) ?_
                refine E_goto 167 d_TM_sortOf_142 rfl ?_
                refine E_retI d_TM_sortOf_167 rfl ?_
                first | exact k1 8 6 rfl h137 | exact k1 9 7 rfl h158 | exact ⟨(if_neg (by omega)).symm, rfl⟩
            · refine E_iconst (v := nI 5) d_TM_sortOf_120 rfl ?_
              refine E_retI d_TM_sortOf_121 rfl ?_
              exact k1 7 5 rfl h117
          · refine E_iconst (v := nI 4) d_TM_sortOf_104 rfl ?_
            refine E_retI d_TM_sortOf_105 rfl ?_
            exact k1 6 4 rfl h101
        · refine E_iconst (v := nI 3) d_TM_sortOf_84 rfl ?_
          refine E_retI d_TM_sortOf_85 rfl ?_
          exact k1 4 3 rfl h81
      · refine E_iconst (v := nI 2) d_TM_sortOf_64 rfl ?_
        refine E_retI d_TM_sortOf_65 rfl ?_
        exact k1 2 2 rfl h61
    · refine E_iconst (v := nI 1) d_TM_sortOf_40 rfl ?_
      refine E_retI d_TM_sortOf_41 rfl ?_
      exact k1 1 1 rfl h37
  · refine E_iconst (v := nI 0) d_TM_sortOf_18 rfl ?_
    refine E_retI d_TM_sortOf_19 rfl ?_
    exact k1 0 0 rfl h15
theorem sp_TM_rank {G : Geo} {o : Nat} (ho : o < 100) : E 0 0 0 Y_TM_rank 0 [some (.int (nI o))] [] G M (QI G fun r M' => r = nI (mpR o) ∧ M' = M) := by
  refine E_iload_n d_TM_rank_0 rfl ?_
  refine E_bipush (v := nI 40) d_TM_rank_1 (by decide) ?_
  first | (with_reducible refine E_isN2 ?_; refine E_icmp_lt 10 d_TM_rank_3 rfl (nb_lt (by omega) (by omega) fun h3 => ?_) (nb_nlt (by omega) (by omega) fun h3 => ?_)) | refine E_icmp_lt 10 d_TM_rank_3 rfl (fun h3 => ?_) (fun h3 => ?_)
  · refine E_iload_n d_TM_rank_10 rfl ?_
    refine E_bipush (v := nI 22) d_TM_rank_11 (by decide) ?_
    first | (with_reducible refine E_isN2 ?_; refine E_icmp_ne 20 d_TM_rank_13 rfl (nb_ne fun h13 => ?_) (nb_eq (by omega) (by omega) fun h13 => ?_)) | refine E_icmp_ne 20 d_TM_rank_13 rfl (fun h13 => ?_) (fun h13 => ?_)
    · refine E_iload_n d_TM_rank_20 rfl ?_
      refine E_bipush (v := nI 21) d_TM_rank_21 (by decide) ?_
      first | (with_reducible refine E_isN2 ?_; refine E_icmp_ne 30 d_TM_rank_23 rfl (nb_ne fun h23 => ?_) (nb_eq (by omega) (by omega) fun h23 => ?_)) | refine E_icmp_ne 30 d_TM_rank_23 rfl (fun h23 => ?_) (fun h23 => ?_)
      · refine E_iload_n d_TM_rank_30 rfl ?_
        refine E_bipush (v := nI 20) d_TM_rank_31 (by decide) ?_
        first | (with_reducible refine E_isN2 ?_; refine E_icmp_ne 40 d_TM_rank_33 rfl (nb_ne fun h33 => ?_) (nb_eq (by omega) (by omega) fun h33 => ?_)) | refine E_icmp_ne 40 d_TM_rank_33 rfl (fun h33 => ?_) (fun h33 => ?_)
        · refine E_iload_n d_TM_rank_40 rfl ?_
          refine E_bipush (v := nI 10) d_TM_rank_41 (by decide) ?_
          first | (with_reducible refine E_isN2 ?_; refine E_icmp_lt 50 d_TM_rank_43 rfl (nb_lt (by omega) (by omega) fun h43 => ?_) (nb_nlt (by omega) (by omega) fun h43 => ?_)) | refine E_icmp_lt 50 d_TM_rank_43 rfl (fun h43 => ?_) (fun h43 => ?_)
          · refine E_iload_n d_TM_rank_50 rfl ?_
            refine E_bipush (v := nI 8) d_TM_rank_51 (by decide) ?_
            first | (with_reducible refine E_isN2 ?_; refine E_icmp_lt 61 d_TM_rank_53 rfl (nb_lt (by omega) (by omega) fun h53 => ?_) (nb_nlt (by omega) (by omega) fun h53 => ?_)) | refine E_icmp_lt 61 d_TM_rank_53 rfl (fun h53 => ?_) (fun h53 => ?_)
            · refine E_iload_n d_TM_rank_61 rfl ?_
              refine E_bipush (v := nI 6) d_TM_rank_62 (by decide) ?_
              first | (with_reducible refine E_isN2 ?_; refine E_icmp_lt 71 d_TM_rank_64 rfl (nb_lt (by omega) (by omega) fun h64 => ?_) (nb_nlt (by omega) (by omega) fun h64 => ?_)) | refine E_icmp_lt 71 d_TM_rank_64 rfl (fun h64 => ?_) (fun h64 => ?_)
              · refine E_bipush (v := nI 7) d_TM_rank_71 (by decide) ?_
                refine E_retI d_TM_rank_73 rfl ?_
                refine ⟨congrArg nI ?_, rfl⟩
                unfold mpR
                repeat' split
                all_goals omega
              · refine E_iconst (v := nI 5) d_TM_rank_67 rfl ?_
                refine E_goto 73 d_TM_rank_68 rfl ?_
                refine E_retI d_TM_rank_73 rfl ?_
                refine ⟨congrArg nI ?_, rfl⟩
                unfold mpR
                repeat' split
                all_goals omega
            · refine E_bipush (v := nI 6) d_TM_rank_56 (by decide) ?_
              refine E_goto 73 d_TM_rank_58 rfl ?_
              refine E_retI d_TM_rank_73 rfl ?_
              refine ⟨congrArg nI ?_, rfl⟩
              unfold mpR
              repeat' split
              all_goals omega
          · refine E_iconst (v := nI 4) d_TM_rank_46 rfl ?_
            refine E_goto 73 d_TM_rank_47 rfl ?_
            refine E_retI d_TM_rank_73 rfl ?_
            refine ⟨congrArg nI ?_, rfl⟩
            unfold mpR
            repeat' split
            all_goals omega
        · refine E_iconst (v := nI 3) d_TM_rank_36 rfl ?_
          refine E_goto 73 d_TM_rank_37 rfl ?_
          refine E_retI d_TM_rank_73 rfl ?_
          refine ⟨congrArg nI ?_, rfl⟩
          unfold mpR
          repeat' split
          all_goals omega
      · refine E_iconst (v := nI 2) d_TM_rank_26 rfl ?_
        refine E_goto 73 d_TM_rank_27 rfl ?_
        refine E_retI d_TM_rank_73 rfl ?_
        refine ⟨congrArg nI ?_, rfl⟩
        unfold mpR
        repeat' split
        all_goals omega
    · refine E_iconst (v := nI 1) d_TM_rank_16 rfl ?_
      refine E_goto 73 d_TM_rank_17 rfl ?_
      refine E_retI d_TM_rank_73 rfl ?_
      refine ⟨congrArg nI ?_, rfl⟩
      unfold mpR
      repeat' split
      all_goals omega
  · refine E_iconst (v := nI 0) d_TM_rank_6 rfl ?_
    refine E_goto 73 d_TM_rank_7 rfl ?_
    refine E_retI d_TM_rank_73 rfl ?_
    refine ⟨congrArg nI ?_, rfl⟩
    unfold mpR
    repeat' split
    all_goals omega
theorem sp_TM_isOf {x s : Nat} (hx : x < 8) (hs : mI M 0 14 = nI s) (h1 : s ≤ 1) : E 0 0 0 Y_TM_isOf 0 [some (.ref 0), some (.int (nI x))] [] GM M (QI GM fun r M' => r = pI (¬ (x = 7 ∧ s ≠ 1)) ∧ M' = M) := by
  refine E_iload_n d_TM_isOf_0 rfl ?_
  refine E_bipush (v := nI 7) d_TM_isOf_1 (by decide) ?_
  first | (with_reducible refine E_isN2 ?_; refine E_icmp_lt 14 d_TM_isOf_3 rfl (nb_lt (by omega) (by omega) fun h3 => ?_) (nb_nlt (by omega) (by omega) fun h3 => ?_)) | refine E_icmp_lt 14 d_TM_isOf_3 rfl (fun h3 => ?_) (fun h3 => ?_)
  · refine E_iconst (v := nI 1) d_TM_isOf_14 rfl ?_
    refine E_goto 19 d_TM_isOf_15 rfl ?_
    refine E_retZ d_TM_isOf_19 rfl (by first | exact pI_01 _ | decide) ?_
    first | exact ⟨(pI_t (by omega)).symm, rfl⟩ | exact ⟨(pI_f (by omega)).symm, rfl⟩
  · first | refine E_aload_n d_TM_isOf_6 rfl ?_ | refine E_aload_nN d_TM_isOf_6 rfl ?_
    refine E_getI d_TM_isOf_7 gf_TM_142 (by exact ⟨by decide, rfl⟩) (by exact hs) ?_
    refine E_iconst (v := nI 1) d_TM_isOf_10 rfl ?_
    first | (with_reducible refine E_isN2 ?_; refine E_icmp_ne 18 d_TM_isOf_11 rfl (nb_ne fun h11 => ?_) (nb_eq (by omega) (by omega) fun h11 => ?_)) | refine E_icmp_ne 18 d_TM_isOf_11 rfl (fun h11 => ?_) (fun h11 => ?_)
    · refine E_iconst (v := nI 0) d_TM_isOf_18 rfl ?_
      refine E_retZ d_TM_isOf_19 rfl (by first | exact pI_01 _ | decide) ?_
      first | exact ⟨(pI_t (by omega)).symm, rfl⟩ | exact ⟨(pI_f (by omega)).symm, rfl⟩
    · refine E_iconst (v := nI 1) d_TM_isOf_14 rfl ?_
      refine E_goto 19 d_TM_isOf_15 rfl ?_
      refine E_retZ d_TM_isOf_19 rfl (by first | exact pI_01 _ | decide) ?_
      first | exact ⟨(pI_t (by omega)).symm, rfl⟩ | exact ⟨(pI_f (by omega)).symm, rfl⟩
end MQa
