theorem nI_nm1 {n : Nat} (h : n < 2147483648) : ¬ nI n = -1 := fun q => by
  have e2 := congrArg Int32.toInt q
  rw [nI_toInt h] at e2
  have : (-1 : Int32).toInt = -1 := by decide
  omega
theorem tb_and (s k : Nat) : s / 2 ^ k &&& 1 = if s.testBit k = true then 1 else 0 := by
  by_cases h : s.testBit k = true
  · rw [if_pos h]; exact (tb_div s k).mp h
  · rw [if_neg h]
    have h2 : ¬ (s / 2 ^ k &&& 1 = 1) := fun q => h ((tb_div s k).mpr q)
    have h3 : s / 2 ^ k &&& 1 ≤ 1 := Nat.and_le_right
    omega
theorem getD_mem {α : Type} {l : List α} {i : Nat} {d : α} (h : i < l.length) : l.getD i d ∈ l := by
  rw [List.getD_eq_getElem?_getD, List.getElem?_eq_getElem h]
  exact List.getElem_mem h
def iL (z : Int) : Int64 := Int64.ofInt z
def iI (z : Int) : Int32 := Int32.ofInt z
theorem lN_iL (n : Nat) : lN n = iL n := Int64.ofInt_eq_ofNat.symm
theorem nI_iI (n : Nat) : nI n = iI n := Int32.ofInt_eq_ofNat.symm
def zB (z : Int) : Prop := -4000000000000 ≤ z ∧ z ≤ 4000000000000
theorem iL_toInt {z : Int} (h : zB z) : (iL z).toInt = z :=
  Int64.toInt_ofInt_of_le (by rw [show (-2 ^ 63 : Int) = -9223372036854775808 from by decide]; have := h.1; omega) (by rw [show (2 ^ 63 : Int) = 9223372036854775808 from by decide]; have := h.2; omega)
theorem iL_add (x y : Int) : iL x + iL y = iL (x + y) := (Int64.ofInt_add x y).symm
theorem iL_sub (x y : Int) : iL x - iL y = iL (x - y) := (Int64.ofInt_sub x y).symm
theorem iL_mul (x y : Int) : iL x * iL y = iL (x * y) := (Int64.ofInt_mul x y).symm
theorem iL_neg (x : Int) : -iL x = iL (-x) := (Int64.ofInt_neg x).symm
theorem iL_div {x y : Int} (hx : zB x) (hy : zB y) : iL x / iL y = iL (x.tdiv y) := by
  have e1 : Int64.minValue.toInt = -9223372036854775808 := by decide
  have e2 : Int64.maxValue.toInt = 9223372036854775807 := by decide
  exact (Int64.ofInt_tdiv (by rw [e1]; have := hx.1; omega) (by rw [e2]; have := hx.2; omega) (by rw [e1]; have := hy.1; omega) (by rw [e2]; have := hy.2; omega)).symm
theorem lc_le {a b : Int} (ha : zB a) (hb : zB b) : lg_cmp (iL a) (iL b) ≤ 0 ↔ a ≤ b := by rw [lg_cmp_le, Int64.le_iff_toInt_le, iL_toInt ha, iL_toInt hb]
theorem lc_ge {a b : Int} (ha : zB a) (hb : zB b) : 0 ≤ lg_cmp (iL a) (iL b) ↔ b ≤ a := by rw [lg_cmp_ge, Int64.le_iff_toInt_le, iL_toInt ha, iL_toInt hb]
theorem lc_lt {a b : Int} (ha : zB a) (hb : zB b) : lg_cmp (iL a) (iL b) < 0 ↔ a < b := by rw [lg_cmp_lt, Int64.lt_iff_toInt_lt, iL_toInt ha, iL_toInt hb]
theorem lc_gt {a b : Int} (ha : zB a) (hb : zB b) : 0 < lg_cmp (iL a) (iL b) ↔ b < a := by rw [lg_cmp_gt, Int64.lt_iff_toInt_lt, iL_toInt ha, iL_toInt hb]
theorem lc_eq {a b : Int} (ha : zB a) (hb : zB b) : lg_cmp (iL a) (iL b) = 0 ↔ a = b := by rw [lg_cmp_eq, ← Int64.toInt_inj, iL_toInt ha, iL_toInt hb]
theorem sp_TM_clip {G : Geo} {M : Mem} {z : Int} (hz : zB z) : E 0 0 0 Y_TM_clip 0 [some (.long (iL z)), none] [] G M (QL G fun r M' => r = iL (clip z) ∧ M' = M) := by
  have b1 : zB 1000000 := ⟨by decide, by decide⟩
  have b2 : zB (-1000000) := ⟨by decide, by decide⟩
  have e2 : (-1000000 : Int64) = iL (-1000000) := by decide
  have c1 : ¬ lg_cmp (iL z) (lN 1000000) ≤ 0 → lN 1000000 = iL (clip z) := fun h => by
    rw [lN_iL] at h ⊢
    have h2 : ¬ z ≤ 1000000 := fun q => h ((lc_le hz b1).mpr q)
    unfold clip
    rw [if_pos (by omega)]
    rfl
  have c2 : lg_cmp (iL z) (lN 1000000) ≤ 0 → 0 ≤ lg_cmp (iL z) (-1000000) → iL z = iL (clip z) := fun h h' => by
    rw [lN_iL] at h
    rw [e2] at h'
    have h2 := (lc_le hz b1).mp h
    have h3 := (lc_ge hz b2).mp h'
    unfold clip
    rw [if_neg (by omega), if_neg (by omega)]
  have c3 : ¬ 0 ≤ lg_cmp (iL z) (-1000000) → (-1000000 : Int64) = iL (clip z) := fun h' => by
    rw [e2] at h'
    have h3 : ¬ -1000000 ≤ z := fun q => h' ((lc_ge hz b2).mpr q)
    unfold clip
    rw [if_neg (by omega), if_pos (by omega)]
    exact e2
  refine E_lload_n d_TM_clip_0 rfl ?_
  refine E_ldc2 (v := lN 1000000) d_TM_clip_1 kc_TM_243 ?_
  refine E_lcmp d_TM_clip_4 ?_
  first | (with_reducible refine E_isN1 ?_; refine E_if_le 14 d_TM_clip_5 rfl (nz_le (by omega) fun h5 => ?_) (nz_nle (by omega) fun h5 => ?_)) | refine E_if_le 14 d_TM_clip_5 rfl (fun h5 => ?_) (fun h5 => ?_)
  · refine E_lload_n d_TM_clip_14 rfl ?_
    refine E_ldc2 d_TM_clip_15 kc_TM_245 ?_
    refine E_lcmp d_TM_clip_18 ?_
    first | (with_reducible refine E_isN1 ?_; refine E_if_ge 28 d_TM_clip_19 rfl (nz_ge (by omega) fun h19 => ?_) (nz_nge (by omega) fun h19 => ?_)) | refine E_if_ge 28 d_TM_clip_19 rfl (fun h19 => ?_) (fun h19 => ?_)
    · refine E_lload_n d_TM_clip_28 rfl ?_
      refine E_retL d_TM_clip_29 rfl ?_
      first | exact ⟨c1 h5, rfl⟩ | exact ⟨c2 h5 h19, rfl⟩ | exact ⟨c3 h19, rfl⟩
    · refine E_ldc2 d_TM_clip_22 kc_TM_245 ?_
      refine E_goto 29 d_TM_clip_25 rfl ?_
      refine E_retL d_TM_clip_29 rfl ?_
      first | exact ⟨c1 h5, rfl⟩ | exact ⟨c2 h5 h19, rfl⟩ | exact ⟨c3 h19, rfl⟩
  · refine E_ldc2 (v := lN 1000000) d_TM_clip_8 kc_TM_243 ?_
    refine E_goto 29 d_TM_clip_11 rfl ?_
    refine E_retL d_TM_clip_29 rfl ?_
    first | exact ⟨c1 h5, rfl⟩ | exact ⟨c2 h5 h19, rfl⟩ | exact ⟨c3 h19, rfl⟩
def zM (z : Int) : Prop := -1000000 ≤ z ∧ z ≤ 1000000
theorem zM.b {z : Int} (h : zM z) : zB z := ⟨by have := h.1; omega, by have := h.2; omega⟩
theorem zM_mul {x y : Int} (hx : zM x) (hy : zM y) : zB (x * y) := by
  have h1 : x.natAbs ≤ 1000000 := by have := hx.1; have := hx.2; omega
  have h2 : y.natAbs ≤ 1000000 := by have := hy.1; have := hy.2; omega
  have h3 : (x * y).natAbs ≤ 1000000 * 1000000 := by rw [Int.natAbs_mul]; exact Nat.mul_le_mul h1 h2
  exact ⟨by omega, by omega⟩
theorem zM_div {x y : Int} (hx : zM x) : zB (x.tdiv y) := by
  have h1 : x.natAbs ≤ 1000000 := by have := hx.1; have := hx.2; omega
  have h3 : (x.tdiv y).natAbs ≤ x.natAbs := by rw [Int.natAbs_tdiv]; exact Nat.div_le_self _ _
  exact ⟨by omega, by omega⟩
theorem sp_TM_twoBy {G : Geo} {M : Mem} {o : Nat} {x y : Int} (h6 : 6 ≤ o) (ho : o < 10) (hx : zM x) (hy : zM y) : E 1 0 0 Y_TM_twoBy 0 [some (.int (nI o)), some (.long (iL x)), none, some (.long (iL y)), none] [] G M (QL G fun r M' => r = iL (twoBy o x y) ∧ M' = M) := by
  have x1 := hx.1
  have x2 := hx.2
  have y1 := hy.1
  have y2 := hy.2
  have hz0 : zB 0 := ⟨by decide, by decide⟩
  have ho4 : o = 6 ∨ o = 7 ∨ o = 8 ∨ o = 9 := by omega
  rcases ho4 with rfl | rfl | rfl | rfl
  · refine E_iload_n d_TM_twoBy_0 rfl ?_
    refine E_tableIn 28 d_TM_twoBy_1 (by decide) (by decide) (by first | rfl | decide) rfl ?_
    refine E_lload_n d_TM_twoBy_28 rfl ?_
    refine E_lload_n d_TM_twoBy_29 rfl ?_
    first | (with_reducible refine E_isM2 ?_; refine E_laddN d_TM_twoBy_30 ?_) | refine E_ladd d_TM_twoBy_30 ?_
    rw [iL_add]
    refine E_S1 (sp_TM_clip ⟨by omega, by omega⟩) d_TM_twoBy_31 ml_TM_247 cb_TM_clip cs_TM_clip ⟨by decide, by decide⟩ rfl (Nat.le_of_ble_eq_true rfl) (Nat.le_of_ble_eq_true rfl) (kL fun r1 M1 hc => ?_)
    obtain ⟨rfl, rfl⟩ := hc
    refine E_retL d_TM_twoBy_34 rfl ?_
    exact ⟨(by rw [twoBy, if_pos rfl]), rfl⟩
  · refine E_iload_n d_TM_twoBy_0 rfl ?_
    refine E_tableIn 35 d_TM_twoBy_1 (by decide) (by decide) (by first | rfl | decide) rfl ?_
    refine E_lload_n d_TM_twoBy_35 rfl ?_
    refine E_lload_n d_TM_twoBy_36 rfl ?_
    first | (with_reducible refine E_isM2 ?_; refine E_lsubN d_TM_twoBy_37 (by omega) ?_) | refine E_lsub d_TM_twoBy_37 ?_
    rw [iL_sub]
    refine E_S1 (sp_TM_clip ⟨by omega, by omega⟩) d_TM_twoBy_38 ml_TM_247 cb_TM_clip cs_TM_clip ⟨by decide, by decide⟩ rfl (Nat.le_of_ble_eq_true rfl) (Nat.le_of_ble_eq_true rfl) (kL fun r1 M1 hc => ?_)
    obtain ⟨rfl, rfl⟩ := hc
    refine E_retL d_TM_twoBy_41 rfl ?_
    exact ⟨(by rw [twoBy, if_neg (by decide), if_pos rfl]), rfl⟩
  · refine E_iload_n d_TM_twoBy_0 rfl ?_
    refine E_tableIn 42 d_TM_twoBy_1 (by decide) (by decide) (by first | rfl | decide) rfl ?_
    refine E_lload_n d_TM_twoBy_42 rfl ?_
    refine E_lload_n d_TM_twoBy_43 rfl ?_
    first | (with_reducible refine E_isM2 ?_; refine E_lmulN d_TM_twoBy_44 ?_) | refine E_lmul d_TM_twoBy_44 ?_
    rw [iL_mul]
    refine E_S1 (sp_TM_clip (zM_mul hx hy)) d_TM_twoBy_45 ml_TM_247 cb_TM_clip cs_TM_clip ⟨by decide, by decide⟩ rfl (Nat.le_of_ble_eq_true rfl) (Nat.le_of_ble_eq_true rfl) (kL fun r1 M1 hc => ?_)
    obtain ⟨rfl, rfl⟩ := hc
    refine E_retL d_TM_twoBy_48 rfl ?_
    exact ⟨(by rw [twoBy, if_neg (by decide), if_neg (by decide), if_pos rfl]), rfl⟩
  · have hyi : lg_cmp (iL y) (lN 0) = 0 ↔ y = 0 := by rw [lN_iL]; exact lc_eq hy.b hz0
    have hy0 : ¬ lg_cmp (iL y) (lN 0) = 0 → ¬ iL y = 0 := fun h q => h ((lg_cmp_eq _ _).mpr q)
    have hyz : ¬ lg_cmp (iL y) (lN 0) = 0 → ¬ y = 0 := fun h q => h (hyi.mpr q)
    have hyy : lg_cmp (iL y) (lN 0) = 0 → y = 0 := hyi.mp
    refine E_iload_n d_TM_twoBy_0 rfl ?_
    refine E_tableOut 49 d_TM_twoBy_1 (by decide) rfl ?_
    refine E_lload_n d_TM_twoBy_49 rfl ?_
    refine E_lconst (v := lN 0) d_TM_twoBy_50 rfl ?_
    refine E_lcmp d_TM_twoBy_51 ?_
    first | (with_reducible refine E_isP ?_; refine E_if_ne 59 d_TM_twoBy_52 rfl (pb_1 fun h52 => ?_) (pb_0 fun h52 => ?_)) | (with_reducible refine E_isN1 ?_; refine E_if_ne 59 d_TM_twoBy_52 rfl (nz_ne fun h52 => ?_) (nz_eq (by omega) fun h52 => ?_)) | refine E_if_ne 59 d_TM_twoBy_52 rfl (fun h52 => ?_) (fun h52 => ?_)
    · refine E_lload_n d_TM_twoBy_59 rfl ?_
      refine E_lload_n d_TM_twoBy_60 rfl ?_
      first | (with_reducible refine E_isM2 ?_; refine E_ldivN d_TM_twoBy_61 (by omega) (by omega) (by omega) ?_) | refine E_ldiv d_TM_twoBy_61 (by exact hy0 h52) ?_
      rw [iL_div hx.b hy.b]
      refine E_S1 (sp_TM_clip (zM_div hx)) d_TM_twoBy_62 ml_TM_247 cb_TM_clip cs_TM_clip ⟨by decide, by decide⟩ rfl (Nat.le_of_ble_eq_true rfl) (Nat.le_of_ble_eq_true rfl) (kL fun r1 M1 hc => ?_)
      obtain ⟨rfl, rfl⟩ := hc
      refine E_retL d_TM_twoBy_65 rfl ?_
      first | exact ⟨by rw [twoBy, if_neg (by decide), if_neg (by decide), if_neg (by decide), if_neg (hyz h52)], rfl⟩ | exact ⟨by rw [twoBy, if_neg (by decide), if_neg (by decide), if_neg (by decide), if_pos (hyy h52)]; exact lN_iL 0, rfl⟩
    · refine E_lconst (v := lN 0) d_TM_twoBy_55 rfl ?_
      refine E_goto 65 d_TM_twoBy_56 rfl ?_
      refine E_retL d_TM_twoBy_65 rfl ?_
      first | exact ⟨by rw [twoBy, if_neg (by decide), if_neg (by decide), if_neg (by decide), if_neg (hyz h52)], rfl⟩ | exact ⟨by rw [twoBy, if_neg (by decide), if_neg (by decide), if_neg (by decide), if_pos (hyy h52)]; exact lN_iL 0, rfl⟩
theorem sp_TM_isAsked {G : Geo} {M : Mem} {o : Nat} {x y : Int} (ho : o < 100) (hx : zB x) (hy : zB y) : E 0 0 0 Y_TM_isAsked 0 [some (.int (nI o)), some (.long (iL x)), none, some (.long (iL y)), none] [] G M (QI G fun r M' => r = pI (askBy o x y = true) ∧ M' = M) := by
  have k1 : ∀ {P : Prop} [Decidable P], askBy o x y = decide P → P → nI 1 = pI (askBy o x y = true) := fun e h => (pI_t (by rw [e]; exact decide_eq_true h)).symm
  have k0 : ∀ {P : Prop} [Decidable P], askBy o x y = decide P → ¬ P → nI 0 = pI (askBy o x y = true) := fun e h => (pI_f (by rw [e]; intro q; exact h (of_decide_eq_true q))).symm
  have a10 : o = 10 → askBy o x y = decide (x < y) := fun h => by rw [askBy, if_pos h]
  have a11 : o = 11 → askBy o x y = decide (x ≤ y) := fun h => by rw [askBy, if_neg (by omega), if_pos h]
  have a12 : o = 12 → askBy o x y = decide (x > y) := fun h => by rw [askBy, if_neg (by omega), if_neg (by omega), if_pos h]
  have a13 : o = 13 → askBy o x y = decide (x ≥ y) := fun h => by rw [askBy, if_neg (by omega), if_neg (by omega), if_neg (by omega), if_pos h]
  have a14 : o = 14 → askBy o x y = decide (x = y) := fun h => by rw [askBy, if_neg (by omega), if_neg (by omega), if_neg (by omega), if_neg (by omega), if_pos h]
  have a15 : o ≠ 10 → o ≠ 11 → o ≠ 12 → o ≠ 13 → o ≠ 14 → askBy o x y = decide (x ≠ y) := fun h1 h2 h3 h4 h5 => by rw [askBy, if_neg h1, if_neg h2, if_neg h3, if_neg h4, if_neg h5]
  refine E_iload_n d_TM_isAsked_0 rfl ?_
  refine E_bipush (v := nI 10) d_TM_isAsked_1 (by decide) ?_
  first | (with_reducible refine E_isN2 ?_; refine E_icmp_ne 20 d_TM_isAsked_3 rfl (nb_ne fun h3 => ?_) (nb_eq (by omega) (by omega) fun h3 => ?_)) | refine E_icmp_ne 20 d_TM_isAsked_3 rfl (fun h3 => ?_) (fun h3 => ?_)
  · refine E_iload_n d_TM_isAsked_20 rfl ?_
    refine E_bipush (v := nI 11) d_TM_isAsked_21 (by decide) ?_
    first | (with_reducible refine E_isN2 ?_; refine E_icmp_ne 40 d_TM_isAsked_23 rfl (nb_ne fun h23 => ?_) (nb_eq (by omega) (by omega) fun h23 => ?_)) | refine E_icmp_ne 40 d_TM_isAsked_23 rfl (fun h23 => ?_) (fun h23 => ?_)
    · refine E_iload_n d_TM_isAsked_40 rfl ?_
      refine E_bipush (v := nI 12) d_TM_isAsked_41 (by decide) ?_
      first | (with_reducible refine E_isN2 ?_; refine E_icmp_ne 60 d_TM_isAsked_43 rfl (nb_ne fun h43 => ?_) (nb_eq (by omega) (by omega) fun h43 => ?_)) | refine E_icmp_ne 60 d_TM_isAsked_43 rfl (fun h43 => ?_) (fun h43 => ?_)
      · refine E_iload_n d_TM_isAsked_60 rfl ?_
        refine E_bipush (v := nI 13) d_TM_isAsked_61 (by decide) ?_
        first | (with_reducible refine E_isN2 ?_; refine E_icmp_ne 80 d_TM_isAsked_63 rfl (nb_ne fun h63 => ?_) (nb_eq (by omega) (by omega) fun h63 => ?_)) | refine E_icmp_ne 80 d_TM_isAsked_63 rfl (fun h63 => ?_) (fun h63 => ?_)
        · refine E_iload_n d_TM_isAsked_80 rfl ?_
          refine E_bipush (v := nI 14) d_TM_isAsked_81 (by decide) ?_
          first | (with_reducible refine E_isN2 ?_; refine E_icmp_ne 100 d_TM_isAsked_83 rfl (nb_ne fun h83 => ?_) (nb_eq (by omega) (by omega) fun h83 => ?_)) | refine E_icmp_ne 100 d_TM_isAsked_83 rfl (fun h83 => ?_) (fun h83 => ?_)
          · refine E_lload_n d_TM_isAsked_100 rfl ?_
            refine E_lload_n d_TM_isAsked_101 rfl ?_
            refine E_lcmp d_TM_isAsked_102 ?_
            first | (with_reducible refine E_isP ?_; refine E_if_eq 110 d_TM_isAsked_103 rfl (pb_0 fun h103 => ?_) (pb_1 fun h103 => ?_)) | (with_reducible refine E_isN1 ?_; refine E_if_eq 110 d_TM_isAsked_103 rfl (nz_eq (by omega) fun h103 => ?_) (nz_ne fun h103 => ?_)) | refine E_if_eq 110 d_TM_isAsked_103 rfl (fun h103 => ?_) (fun h103 => ?_)
            · refine E_iconst (v := nI 0) d_TM_isAsked_110 rfl ?_
              refine E_retZ d_TM_isAsked_111 rfl (by first | exact pI_01 _ | decide) ?_
              first | exact ⟨k1 (a10 h3) (Int.not_le.mp (fun q => h9 ((lc_ge hx hy).mpr q))), rfl⟩ | exact ⟨k0 (a10 h3) (Int.not_lt.mpr ((lc_ge hx hy).mp h9)), rfl⟩ | exact ⟨k1 (a11 h23) (Int.not_lt.mp (fun q => h29 ((lc_gt hx hy).mpr q))), rfl⟩ | exact ⟨k0 (a11 h23) (Int.not_le.mpr ((lc_gt hx hy).mp h29)), rfl⟩ | exact ⟨k1 (a12 h43) (Int.not_le.mp (fun q => h49 ((lc_le hx hy).mpr q))), rfl⟩ | exact ⟨k0 (a12 h43) (Int.not_lt.mpr ((lc_le hx hy).mp h49)), rfl⟩ | exact ⟨k1 (a13 h63) (Int.not_lt.mp (fun q => h69 ((lc_lt hx hy).mpr q))), rfl⟩ | exact ⟨k0 (a13 h63) (Int.not_le.mpr ((lc_lt hx hy).mp h69)), rfl⟩ | exact ⟨k1 (a14 h83) ((lc_eq hx hy).mp h89), rfl⟩ | exact ⟨k0 (a14 h83) (fun q => h89 ((lc_eq hx hy).mpr q)), rfl⟩ | exact ⟨k1 (a15 h3 h23 h43 h63 h83) (fun q => h103 ((lc_eq hx hy).mpr q)), rfl⟩ | exact ⟨k0 (a15 h3 h23 h43 h63 h83) (fun q => q ((lc_eq hx hy).mp h103)), rfl⟩
            · refine E_iconst (v := nI 1) d_TM_isAsked_106 rfl ?_
              refine E_goto 111 d_TM_isAsked_107 rfl ?_
              refine E_retZ d_TM_isAsked_111 rfl (by first | exact pI_01 _ | decide) ?_
              first | exact ⟨k1 (a10 h3) (Int.not_le.mp (fun q => h9 ((lc_ge hx hy).mpr q))), rfl⟩ | exact ⟨k0 (a10 h3) (Int.not_lt.mpr ((lc_ge hx hy).mp h9)), rfl⟩ | exact ⟨k1 (a11 h23) (Int.not_lt.mp (fun q => h29 ((lc_gt hx hy).mpr q))), rfl⟩ | exact ⟨k0 (a11 h23) (Int.not_le.mpr ((lc_gt hx hy).mp h29)), rfl⟩ | exact ⟨k1 (a12 h43) (Int.not_le.mp (fun q => h49 ((lc_le hx hy).mpr q))), rfl⟩ | exact ⟨k0 (a12 h43) (Int.not_lt.mpr ((lc_le hx hy).mp h49)), rfl⟩ | exact ⟨k1 (a13 h63) (Int.not_lt.mp (fun q => h69 ((lc_lt hx hy).mpr q))), rfl⟩ | exact ⟨k0 (a13 h63) (Int.not_le.mpr ((lc_lt hx hy).mp h69)), rfl⟩ | exact ⟨k1 (a14 h83) ((lc_eq hx hy).mp h89), rfl⟩ | exact ⟨k0 (a14 h83) (fun q => h89 ((lc_eq hx hy).mpr q)), rfl⟩ | exact ⟨k1 (a15 h3 h23 h43 h63 h83) (fun q => h103 ((lc_eq hx hy).mpr q)), rfl⟩ | exact ⟨k0 (a15 h3 h23 h43 h63 h83) (fun q => q ((lc_eq hx hy).mp h103)), rfl⟩
          · refine E_lload_n d_TM_isAsked_86 rfl ?_
            refine E_lload_n d_TM_isAsked_87 rfl ?_
            refine E_lcmp d_TM_isAsked_88 ?_
            first | (with_reducible refine E_isP ?_; refine E_if_ne 96 d_TM_isAsked_89 rfl (pb_1 fun h89 => ?_) (pb_0 fun h89 => ?_)) | (with_reducible refine E_isN1 ?_; refine E_if_ne 96 d_TM_isAsked_89 rfl (nz_ne fun h89 => ?_) (nz_eq (by omega) fun h89 => ?_)) | refine E_if_ne 96 d_TM_isAsked_89 rfl (fun h89 => ?_) (fun h89 => ?_)
            · refine E_iconst (v := nI 0) d_TM_isAsked_96 rfl ?_
              refine E_goto 111 d_TM_isAsked_97 rfl ?_
              refine E_retZ d_TM_isAsked_111 rfl (by first | exact pI_01 _ | decide) ?_
              first | exact ⟨k1 (a10 h3) (Int.not_le.mp (fun q => h9 ((lc_ge hx hy).mpr q))), rfl⟩ | exact ⟨k0 (a10 h3) (Int.not_lt.mpr ((lc_ge hx hy).mp h9)), rfl⟩ | exact ⟨k1 (a11 h23) (Int.not_lt.mp (fun q => h29 ((lc_gt hx hy).mpr q))), rfl⟩ | exact ⟨k0 (a11 h23) (Int.not_le.mpr ((lc_gt hx hy).mp h29)), rfl⟩ | exact ⟨k1 (a12 h43) (Int.not_le.mp (fun q => h49 ((lc_le hx hy).mpr q))), rfl⟩ | exact ⟨k0 (a12 h43) (Int.not_lt.mpr ((lc_le hx hy).mp h49)), rfl⟩ | exact ⟨k1 (a13 h63) (Int.not_lt.mp (fun q => h69 ((lc_lt hx hy).mpr q))), rfl⟩ | exact ⟨k0 (a13 h63) (Int.not_le.mpr ((lc_lt hx hy).mp h69)), rfl⟩ | exact ⟨k1 (a14 h83) ((lc_eq hx hy).mp h89), rfl⟩ | exact ⟨k0 (a14 h83) (fun q => h89 ((lc_eq hx hy).mpr q)), rfl⟩ | exact ⟨k1 (a15 h3 h23 h43 h63 h83) (fun q => h103 ((lc_eq hx hy).mpr q)), rfl⟩ | exact ⟨k0 (a15 h3 h23 h43 h63 h83) (fun q => q ((lc_eq hx hy).mp h103)), rfl⟩
            · refine E_iconst (v := nI 1) d_TM_isAsked_92 rfl ?_
              refine E_goto 111 d_TM_isAsked_93 rfl ?_
              refine E_retZ d_TM_isAsked_111 rfl (by first | exact pI_01 _ | decide) ?_
              first | exact ⟨k1 (a10 h3) (Int.not_le.mp (fun q => h9 ((lc_ge hx hy).mpr q))), rfl⟩ | exact ⟨k0 (a10 h3) (Int.not_lt.mpr ((lc_ge hx hy).mp h9)), rfl⟩ | exact ⟨k1 (a11 h23) (Int.not_lt.mp (fun q => h29 ((lc_gt hx hy).mpr q))), rfl⟩ | exact ⟨k0 (a11 h23) (Int.not_le.mpr ((lc_gt hx hy).mp h29)), rfl⟩ | exact ⟨k1 (a12 h43) (Int.not_le.mp (fun q => h49 ((lc_le hx hy).mpr q))), rfl⟩ | exact ⟨k0 (a12 h43) (Int.not_lt.mpr ((lc_le hx hy).mp h49)), rfl⟩ | exact ⟨k1 (a13 h63) (Int.not_lt.mp (fun q => h69 ((lc_lt hx hy).mpr q))), rfl⟩ | exact ⟨k0 (a13 h63) (Int.not_le.mpr ((lc_lt hx hy).mp h69)), rfl⟩ | exact ⟨k1 (a14 h83) ((lc_eq hx hy).mp h89), rfl⟩ | exact ⟨k0 (a14 h83) (fun q => h89 ((lc_eq hx hy).mpr q)), rfl⟩ | exact ⟨k1 (a15 h3 h23 h43 h63 h83) (fun q => h103 ((lc_eq hx hy).mpr q)), rfl⟩ | exact ⟨k0 (a15 h3 h23 h43 h63 h83) (fun q => q ((lc_eq hx hy).mp h103)), rfl⟩
        · refine E_lload_n d_TM_isAsked_66 rfl ?_
          refine E_lload_n d_TM_isAsked_67 rfl ?_
          refine E_lcmp d_TM_isAsked_68 ?_
          first | (with_reducible refine E_isN1 ?_; refine E_if_lt 76 d_TM_isAsked_69 rfl (nz_lt (by omega) fun h69 => ?_) (nz_nlt (by omega) fun h69 => ?_)) | refine E_if_lt 76 d_TM_isAsked_69 rfl (fun h69 => ?_) (fun h69 => ?_)
          · refine E_iconst (v := nI 0) d_TM_isAsked_76 rfl ?_
            refine E_goto 111 d_TM_isAsked_77 rfl ?_
            refine E_retZ d_TM_isAsked_111 rfl (by first | exact pI_01 _ | decide) ?_
            first | exact ⟨k1 (a10 h3) (Int.not_le.mp (fun q => h9 ((lc_ge hx hy).mpr q))), rfl⟩ | exact ⟨k0 (a10 h3) (Int.not_lt.mpr ((lc_ge hx hy).mp h9)), rfl⟩ | exact ⟨k1 (a11 h23) (Int.not_lt.mp (fun q => h29 ((lc_gt hx hy).mpr q))), rfl⟩ | exact ⟨k0 (a11 h23) (Int.not_le.mpr ((lc_gt hx hy).mp h29)), rfl⟩ | exact ⟨k1 (a12 h43) (Int.not_le.mp (fun q => h49 ((lc_le hx hy).mpr q))), rfl⟩ | exact ⟨k0 (a12 h43) (Int.not_lt.mpr ((lc_le hx hy).mp h49)), rfl⟩ | exact ⟨k1 (a13 h63) (Int.not_lt.mp (fun q => h69 ((lc_lt hx hy).mpr q))), rfl⟩ | exact ⟨k0 (a13 h63) (Int.not_le.mpr ((lc_lt hx hy).mp h69)), rfl⟩ | exact ⟨k1 (a14 h83) ((lc_eq hx hy).mp h89), rfl⟩ | exact ⟨k0 (a14 h83) (fun q => h89 ((lc_eq hx hy).mpr q)), rfl⟩ | exact ⟨k1 (a15 h3 h23 h43 h63 h83) (fun q => h103 ((lc_eq hx hy).mpr q)), rfl⟩ | exact ⟨k0 (a15 h3 h23 h43 h63 h83) (fun q => q ((lc_eq hx hy).mp h103)), rfl⟩
          · refine E_iconst (v := nI 1) d_TM_isAsked_72 rfl ?_
            refine E_goto 111 d_TM_isAsked_73 rfl ?_
            refine E_retZ d_TM_isAsked_111 rfl (by first | exact pI_01 _ | decide) ?_
            first | exact ⟨k1 (a10 h3) (Int.not_le.mp (fun q => h9 ((lc_ge hx hy).mpr q))), rfl⟩ | exact ⟨k0 (a10 h3) (Int.not_lt.mpr ((lc_ge hx hy).mp h9)), rfl⟩ | exact ⟨k1 (a11 h23) (Int.not_lt.mp (fun q => h29 ((lc_gt hx hy).mpr q))), rfl⟩ | exact ⟨k0 (a11 h23) (Int.not_le.mpr ((lc_gt hx hy).mp h29)), rfl⟩ | exact ⟨k1 (a12 h43) (Int.not_le.mp (fun q => h49 ((lc_le hx hy).mpr q))), rfl⟩ | exact ⟨k0 (a12 h43) (Int.not_lt.mpr ((lc_le hx hy).mp h49)), rfl⟩ | exact ⟨k1 (a13 h63) (Int.not_lt.mp (fun q => h69 ((lc_lt hx hy).mpr q))), rfl⟩ | exact ⟨k0 (a13 h63) (Int.not_le.mpr ((lc_lt hx hy).mp h69)), rfl⟩ | exact ⟨k1 (a14 h83) ((lc_eq hx hy).mp h89), rfl⟩ | exact ⟨k0 (a14 h83) (fun q => h89 ((lc_eq hx hy).mpr q)), rfl⟩ | exact ⟨k1 (a15 h3 h23 h43 h63 h83) (fun q => h103 ((lc_eq hx hy).mpr q)), rfl⟩ | exact ⟨k0 (a15 h3 h23 h43 h63 h83) (fun q => q ((lc_eq hx hy).mp h103)), rfl⟩
      · refine E_lload_n d_TM_isAsked_46 rfl ?_
        refine E_lload_n d_TM_isAsked_47 rfl ?_
        refine E_lcmp d_TM_isAsked_48 ?_
        first | (with_reducible refine E_isN1 ?_; refine E_if_le 56 d_TM_isAsked_49 rfl (nz_le (by omega) fun h49 => ?_) (nz_nle (by omega) fun h49 => ?_)) | refine E_if_le 56 d_TM_isAsked_49 rfl (fun h49 => ?_) (fun h49 => ?_)
        · refine E_iconst (v := nI 0) d_TM_isAsked_56 rfl ?_
          refine E_goto 111 d_TM_isAsked_57 rfl ?_
          refine E_retZ d_TM_isAsked_111 rfl (by first | exact pI_01 _ | decide) ?_
          first | exact ⟨k1 (a10 h3) (Int.not_le.mp (fun q => h9 ((lc_ge hx hy).mpr q))), rfl⟩ | exact ⟨k0 (a10 h3) (Int.not_lt.mpr ((lc_ge hx hy).mp h9)), rfl⟩ | exact ⟨k1 (a11 h23) (Int.not_lt.mp (fun q => h29 ((lc_gt hx hy).mpr q))), rfl⟩ | exact ⟨k0 (a11 h23) (Int.not_le.mpr ((lc_gt hx hy).mp h29)), rfl⟩ | exact ⟨k1 (a12 h43) (Int.not_le.mp (fun q => h49 ((lc_le hx hy).mpr q))), rfl⟩ | exact ⟨k0 (a12 h43) (Int.not_lt.mpr ((lc_le hx hy).mp h49)), rfl⟩ | exact ⟨k1 (a13 h63) (Int.not_lt.mp (fun q => h69 ((lc_lt hx hy).mpr q))), rfl⟩ | exact ⟨k0 (a13 h63) (Int.not_le.mpr ((lc_lt hx hy).mp h69)), rfl⟩ | exact ⟨k1 (a14 h83) ((lc_eq hx hy).mp h89), rfl⟩ | exact ⟨k0 (a14 h83) (fun q => h89 ((lc_eq hx hy).mpr q)), rfl⟩ | exact ⟨k1 (a15 h3 h23 h43 h63 h83) (fun q => h103 ((lc_eq hx hy).mpr q)), rfl⟩ | exact ⟨k0 (a15 h3 h23 h43 h63 h83) (fun q => q ((lc_eq hx hy).mp h103)), rfl⟩
        · refine E_iconst (v := nI 1) d_TM_isAsked_52 rfl ?_
          refine E_goto 111 d_TM_isAsked_53 rfl ?_
          refine E_retZ d_TM_isAsked_111 rfl (by first | exact pI_01 _ | decide) ?_
          first | exact ⟨k1 (a10 h3) (Int.not_le.mp (fun q => h9 ((lc_ge hx hy).mpr q))), rfl⟩ | exact ⟨k0 (a10 h3) (Int.not_lt.mpr ((lc_ge hx hy).mp h9)), rfl⟩ | exact ⟨k1 (a11 h23) (Int.not_lt.mp (fun q => h29 ((lc_gt hx hy).mpr q))), rfl⟩ | exact ⟨k0 (a11 h23) (Int.not_le.mpr ((lc_gt hx hy).mp h29)), rfl⟩ | exact ⟨k1 (a12 h43) (Int.not_le.mp (fun q => h49 ((lc_le hx hy).mpr q))), rfl⟩ | exact ⟨k0 (a12 h43) (Int.not_lt.mpr ((lc_le hx hy).mp h49)), rfl⟩ | exact ⟨k1 (a13 h63) (Int.not_lt.mp (fun q => h69 ((lc_lt hx hy).mpr q))), rfl⟩ | exact ⟨k0 (a13 h63) (Int.not_le.mpr ((lc_lt hx hy).mp h69)), rfl⟩ | exact ⟨k1 (a14 h83) ((lc_eq hx hy).mp h89), rfl⟩ | exact ⟨k0 (a14 h83) (fun q => h89 ((lc_eq hx hy).mpr q)), rfl⟩ | exact ⟨k1 (a15 h3 h23 h43 h63 h83) (fun q => h103 ((lc_eq hx hy).mpr q)), rfl⟩ | exact ⟨k0 (a15 h3 h23 h43 h63 h83) (fun q => q ((lc_eq hx hy).mp h103)), rfl⟩
    · refine E_lload_n d_TM_isAsked_26 rfl ?_
      refine E_lload_n d_TM_isAsked_27 rfl ?_
      refine E_lcmp d_TM_isAsked_28 ?_
      first | (with_reducible refine E_isN1 ?_; refine E_if_gt 36 d_TM_isAsked_29 rfl (nz_gt (by omega) fun h29 => ?_) (nz_ngt (by omega) fun h29 => ?_)) | refine E_if_gt 36 d_TM_isAsked_29 rfl (fun h29 => ?_) (fun h29 => ?_)
      · refine E_iconst (v := nI 0) d_TM_isAsked_36 rfl ?_
        refine E_goto 111 d_TM_isAsked_37 rfl ?_
        refine E_retZ d_TM_isAsked_111 rfl (by first | exact pI_01 _ | decide) ?_
        first | exact ⟨k1 (a10 h3) (Int.not_le.mp (fun q => h9 ((lc_ge hx hy).mpr q))), rfl⟩ | exact ⟨k0 (a10 h3) (Int.not_lt.mpr ((lc_ge hx hy).mp h9)), rfl⟩ | exact ⟨k1 (a11 h23) (Int.not_lt.mp (fun q => h29 ((lc_gt hx hy).mpr q))), rfl⟩ | exact ⟨k0 (a11 h23) (Int.not_le.mpr ((lc_gt hx hy).mp h29)), rfl⟩ | exact ⟨k1 (a12 h43) (Int.not_le.mp (fun q => h49 ((lc_le hx hy).mpr q))), rfl⟩ | exact ⟨k0 (a12 h43) (Int.not_lt.mpr ((lc_le hx hy).mp h49)), rfl⟩ | exact ⟨k1 (a13 h63) (Int.not_lt.mp (fun q => h69 ((lc_lt hx hy).mpr q))), rfl⟩ | exact ⟨k0 (a13 h63) (Int.not_le.mpr ((lc_lt hx hy).mp h69)), rfl⟩ | exact ⟨k1 (a14 h83) ((lc_eq hx hy).mp h89), rfl⟩ | exact ⟨k0 (a14 h83) (fun q => h89 ((lc_eq hx hy).mpr q)), rfl⟩ | exact ⟨k1 (a15 h3 h23 h43 h63 h83) (fun q => h103 ((lc_eq hx hy).mpr q)), rfl⟩ | exact ⟨k0 (a15 h3 h23 h43 h63 h83) (fun q => q ((lc_eq hx hy).mp h103)), rfl⟩
      · refine E_iconst (v := nI 1) d_TM_isAsked_32 rfl ?_
        refine E_goto 111 d_TM_isAsked_33 rfl ?_
        refine E_retZ d_TM_isAsked_111 rfl (by first | exact pI_01 _ | decide) ?_
        first | exact ⟨k1 (a10 h3) (Int.not_le.mp (fun q => h9 ((lc_ge hx hy).mpr q))), rfl⟩ | exact ⟨k0 (a10 h3) (Int.not_lt.mpr ((lc_ge hx hy).mp h9)), rfl⟩ | exact ⟨k1 (a11 h23) (Int.not_lt.mp (fun q => h29 ((lc_gt hx hy).mpr q))), rfl⟩ | exact ⟨k0 (a11 h23) (Int.not_le.mpr ((lc_gt hx hy).mp h29)), rfl⟩ | exact ⟨k1 (a12 h43) (Int.not_le.mp (fun q => h49 ((lc_le hx hy).mpr q))), rfl⟩ | exact ⟨k0 (a12 h43) (Int.not_lt.mpr ((lc_le hx hy).mp h49)), rfl⟩ | exact ⟨k1 (a13 h63) (Int.not_lt.mp (fun q => h69 ((lc_lt hx hy).mpr q))), rfl⟩ | exact ⟨k0 (a13 h63) (Int.not_le.mpr ((lc_lt hx hy).mp h69)), rfl⟩ | exact ⟨k1 (a14 h83) ((lc_eq hx hy).mp h89), rfl⟩ | exact ⟨k0 (a14 h83) (fun q => h89 ((lc_eq hx hy).mpr q)), rfl⟩ | exact ⟨k1 (a15 h3 h23 h43 h63 h83) (fun q => h103 ((lc_eq hx hy).mpr q)), rfl⟩ | exact ⟨k0 (a15 h3 h23 h43 h63 h83) (fun q => q ((lc_eq hx hy).mp h103)), rfl⟩
  · refine E_lload_n d_TM_isAsked_6 rfl ?_
    refine E_lload_n d_TM_isAsked_7 rfl ?_
    refine E_lcmp d_TM_isAsked_8 ?_
    first | (with_reducible refine E_isN1 ?_; refine E_if_ge 16 d_TM_isAsked_9 rfl (nz_ge (by omega) fun h9 => ?_) (nz_nge (by omega) fun h9 => ?_)) | refine E_if_ge 16 d_TM_isAsked_9 rfl (fun h9 => ?_) (fun h9 => ?_)
    · refine E_iconst (v := nI 0) d_TM_isAsked_16 rfl ?_
      refine E_goto 111 d_TM_isAsked_17 rfl ?_
      refine E_retZ d_TM_isAsked_111 rfl (by first | exact pI_01 _ | decide) ?_
      first | exact ⟨k1 (a10 h3) (Int.not_le.mp (fun q => h9 ((lc_ge hx hy).mpr q))), rfl⟩ | exact ⟨k0 (a10 h3) (Int.not_lt.mpr ((lc_ge hx hy).mp h9)), rfl⟩ | exact ⟨k1 (a11 h23) (Int.not_lt.mp (fun q => h29 ((lc_gt hx hy).mpr q))), rfl⟩ | exact ⟨k0 (a11 h23) (Int.not_le.mpr ((lc_gt hx hy).mp h29)), rfl⟩ | exact ⟨k1 (a12 h43) (Int.not_le.mp (fun q => h49 ((lc_le hx hy).mpr q))), rfl⟩ | exact ⟨k0 (a12 h43) (Int.not_lt.mpr ((lc_le hx hy).mp h49)), rfl⟩ | exact ⟨k1 (a13 h63) (Int.not_lt.mp (fun q => h69 ((lc_lt hx hy).mpr q))), rfl⟩ | exact ⟨k0 (a13 h63) (Int.not_le.mpr ((lc_lt hx hy).mp h69)), rfl⟩ | exact ⟨k1 (a14 h83) ((lc_eq hx hy).mp h89), rfl⟩ | exact ⟨k0 (a14 h83) (fun q => h89 ((lc_eq hx hy).mpr q)), rfl⟩ | exact ⟨k1 (a15 h3 h23 h43 h63 h83) (fun q => h103 ((lc_eq hx hy).mpr q)), rfl⟩ | exact ⟨k0 (a15 h3 h23 h43 h63 h83) (fun q => q ((lc_eq hx hy).mp h103)), rfl⟩
    · refine E_iconst (v := nI 1) d_TM_isAsked_12 rfl ?_
      refine E_goto 111 d_TM_isAsked_13 rfl ?_
      refine E_retZ d_TM_isAsked_111 rfl (by first | exact pI_01 _ | decide) ?_
      first | exact ⟨k1 (a10 h3) (Int.not_le.mp (fun q => h9 ((lc_ge hx hy).mpr q))), rfl⟩ | exact ⟨k0 (a10 h3) (Int.not_lt.mpr ((lc_ge hx hy).mp h9)), rfl⟩ | exact ⟨k1 (a11 h23) (Int.not_lt.mp (fun q => h29 ((lc_gt hx hy).mpr q))), rfl⟩ | exact ⟨k0 (a11 h23) (Int.not_le.mpr ((lc_gt hx hy).mp h29)), rfl⟩ | exact ⟨k1 (a12 h43) (Int.not_le.mp (fun q => h49 ((lc_le hx hy).mpr q))), rfl⟩ | exact ⟨k0 (a12 h43) (Int.not_lt.mpr ((lc_le hx hy).mp h49)), rfl⟩ | exact ⟨k1 (a13 h63) (Int.not_lt.mp (fun q => h69 ((lc_lt hx hy).mpr q))), rfl⟩ | exact ⟨k0 (a13 h63) (Int.not_le.mpr ((lc_lt hx hy).mp h69)), rfl⟩ | exact ⟨k1 (a14 h83) ((lc_eq hx hy).mp h89), rfl⟩ | exact ⟨k0 (a14 h83) (fun q => h89 ((lc_eq hx hy).mpr q)), rfl⟩ | exact ⟨k1 (a15 h3 h23 h43 h63 h83) (fun q => h103 ((lc_eq hx hy).mpr q)), rfl⟩ | exact ⟨k0 (a15 h3 h23 h43 h63 h83) (fun q => q ((lc_eq hx hy).mp h103)), rfl⟩
theorem sp_TM_joined {G : Geo} {M : Mem} {o : Nat} {a b : Bool} (ho : o < 100) : E 0 0 0 Y_TM_joined 0 [some (.int (nI o)), some (.int (pI (a = true))), some (.int (pI (b = true)))] [] G M (QI G fun r M' => r = pI ((if o = 21 then (a && b) else (a || b)) = true) ∧ M' = M) := by
  cases a <;> cases b
  · refine E_iload_n d_TM_joined_0 rfl ?_
    refine E_bipush (v := nI 21) d_TM_joined_1 (by decide) ?_
    first | (with_reducible refine E_isN2 ?_; refine E_icmp_ne 22 d_TM_joined_3 rfl (nb_ne fun h3 => ?_) (nb_eq (by omega) (by omega) fun h3 => ?_)) | refine E_icmp_ne 22 d_TM_joined_3 rfl (fun h3 => ?_) (fun h3 => ?_)
    · refine E_iload_n d_TM_joined_22 rfl ?_
      first | (with_reducible refine E_isP ?_; refine E_if_ne 30 d_TM_joined_23 rfl (pb_1 fun h23 => ?_) (pb_0 fun h23 => ?_)) | (with_reducible refine E_isN1 ?_; refine E_if_ne 30 d_TM_joined_23 rfl (nz_ne fun h23 => ?_) (nz_eq (by omega) fun h23 => ?_)) | refine E_if_ne 30 d_TM_joined_23 rfl (fun h23 => ?_) (fun h23 => ?_)
      · refine E_iconst (v := nI 1) d_TM_joined_30 rfl ?_
        refine E_goto 35 d_TM_joined_31 rfl ?_
        refine E_retZ d_TM_joined_35 rfl (by first | exact pI_01 _ | decide) ?_
        first | exact ⟨by rw [if_pos h3]; rfl, rfl⟩ | exact ⟨by rw [if_neg h3]; rfl, rfl⟩ | exact absurd h7 (by decide) | exact absurd h11 (by decide) | exact absurd h23 (by decide) | exact absurd h27 (by decide)
      · refine E_iload_n d_TM_joined_26 rfl ?_
        first | (with_reducible refine E_isP ?_; refine E_if_eq 34 d_TM_joined_27 rfl (pb_0 fun h27 => ?_) (pb_1 fun h27 => ?_)) | (with_reducible refine E_isN1 ?_; refine E_if_eq 34 d_TM_joined_27 rfl (nz_eq (by omega) fun h27 => ?_) (nz_ne fun h27 => ?_)) | refine E_if_eq 34 d_TM_joined_27 rfl (fun h27 => ?_) (fun h27 => ?_)
        · refine E_iconst (v := nI 0) d_TM_joined_34 rfl ?_
          refine E_retZ d_TM_joined_35 rfl (by first | exact pI_01 _ | decide) ?_
          first | exact ⟨by rw [if_pos h3]; rfl, rfl⟩ | exact ⟨by rw [if_neg h3]; rfl, rfl⟩ | exact absurd h7 (by decide) | exact absurd h11 (by decide) | exact absurd h23 (by decide) | exact absurd h27 (by decide)
        · refine E_iconst (v := nI 1) d_TM_joined_30 rfl ?_
          refine E_goto 35 d_TM_joined_31 rfl ?_
          refine E_retZ d_TM_joined_35 rfl (by first | exact pI_01 _ | decide) ?_
          first | exact ⟨by rw [if_pos h3]; rfl, rfl⟩ | exact ⟨by rw [if_neg h3]; rfl, rfl⟩ | exact absurd h7 (by decide) | exact absurd h11 (by decide) | exact absurd h23 (by decide) | exact absurd h27 (by decide)
    · refine E_iload_n d_TM_joined_6 rfl ?_
      first | (with_reducible refine E_isP ?_; refine E_if_eq 18 d_TM_joined_7 rfl (pb_0 fun h7 => ?_) (pb_1 fun h7 => ?_)) | (with_reducible refine E_isN1 ?_; refine E_if_eq 18 d_TM_joined_7 rfl (nz_eq (by omega) fun h7 => ?_) (nz_ne fun h7 => ?_)) | refine E_if_eq 18 d_TM_joined_7 rfl (fun h7 => ?_) (fun h7 => ?_)
      · refine E_iconst (v := nI 0) d_TM_joined_18 rfl ?_
        refine E_goto 35 d_TM_joined_19 rfl ?_
        refine E_retZ d_TM_joined_35 rfl (by first | exact pI_01 _ | decide) ?_
        first | exact ⟨by rw [if_pos h3]; rfl, rfl⟩ | exact ⟨by rw [if_neg h3]; rfl, rfl⟩ | exact absurd h7 (by decide) | exact absurd h11 (by decide) | exact absurd h23 (by decide) | exact absurd h27 (by decide)
      · refine E_iload_n d_TM_joined_10 rfl ?_
        first | (with_reducible refine E_isP ?_; refine E_if_eq 18 d_TM_joined_11 rfl (pb_0 fun h11 => ?_) (pb_1 fun h11 => ?_)) | (with_reducible refine E_isN1 ?_; refine E_if_eq 18 d_TM_joined_11 rfl (nz_eq (by omega) fun h11 => ?_) (nz_ne fun h11 => ?_)) | refine E_if_eq 18 d_TM_joined_11 rfl (fun h11 => ?_) (fun h11 => ?_)
        · refine E_iconst (v := nI 0) d_TM_joined_18 rfl ?_
          refine E_goto 35 d_TM_joined_19 rfl ?_
          refine E_retZ d_TM_joined_35 rfl (by first | exact pI_01 _ | decide) ?_
          first | exact ⟨by rw [if_pos h3]; rfl, rfl⟩ | exact ⟨by rw [if_neg h3]; rfl, rfl⟩ | exact absurd h7 (by decide) | exact absurd h11 (by decide) | exact absurd h23 (by decide) | exact absurd h27 (by decide)
        · refine E_iconst (v := nI 1) d_TM_joined_14 rfl ?_
          refine E_goto 35 d_TM_joined_15 rfl ?_
          refine E_retZ d_TM_joined_35 rfl (by first | exact pI_01 _ | decide) ?_
          first | exact ⟨by rw [if_pos h3]; rfl, rfl⟩ | exact ⟨by rw [if_neg h3]; rfl, rfl⟩ | exact absurd h7 (by decide) | exact absurd h11 (by decide) | exact absurd h23 (by decide) | exact absurd h27 (by decide)
  · refine E_iload_n d_TM_joined_0 rfl ?_
    refine E_bipush (v := nI 21) d_TM_joined_1 (by decide) ?_
    first | (with_reducible refine E_isN2 ?_; refine E_icmp_ne 22 d_TM_joined_3 rfl (nb_ne fun h3 => ?_) (nb_eq (by omega) (by omega) fun h3 => ?_)) | refine E_icmp_ne 22 d_TM_joined_3 rfl (fun h3 => ?_) (fun h3 => ?_)
    · refine E_iload_n d_TM_joined_22 rfl ?_
      first | (with_reducible refine E_isP ?_; refine E_if_ne 30 d_TM_joined_23 rfl (pb_1 fun h23 => ?_) (pb_0 fun h23 => ?_)) | (with_reducible refine E_isN1 ?_; refine E_if_ne 30 d_TM_joined_23 rfl (nz_ne fun h23 => ?_) (nz_eq (by omega) fun h23 => ?_)) | refine E_if_ne 30 d_TM_joined_23 rfl (fun h23 => ?_) (fun h23 => ?_)
      · refine E_iconst (v := nI 1) d_TM_joined_30 rfl ?_
        refine E_goto 35 d_TM_joined_31 rfl ?_
        refine E_retZ d_TM_joined_35 rfl (by first | exact pI_01 _ | decide) ?_
        first | exact absurd h7 (by decide) | exact absurd h11 (by decide) | exact absurd h23 (by decide) | exact absurd h27 (by decide) | exact ⟨by rw [if_pos h3]; rfl, rfl⟩ | exact ⟨by rw [if_neg h3]; rfl, rfl⟩
      · refine E_iload_n d_TM_joined_26 rfl ?_
        first | (with_reducible refine E_isP ?_; refine E_if_eq 34 d_TM_joined_27 rfl (pb_0 fun h27 => ?_) (pb_1 fun h27 => ?_)) | (with_reducible refine E_isN1 ?_; refine E_if_eq 34 d_TM_joined_27 rfl (nz_eq (by omega) fun h27 => ?_) (nz_ne fun h27 => ?_)) | refine E_if_eq 34 d_TM_joined_27 rfl (fun h27 => ?_) (fun h27 => ?_)
        · refine E_iconst (v := nI 0) d_TM_joined_34 rfl ?_
          refine E_retZ d_TM_joined_35 rfl (by first | exact pI_01 _ | decide) ?_
          first | exact absurd h7 (by decide) | exact absurd h11 (by decide) | exact absurd h23 (by decide) | exact absurd h27 (by decide) | exact ⟨by rw [if_pos h3]; rfl, rfl⟩ | exact ⟨by rw [if_neg h3]; rfl, rfl⟩
        · refine E_iconst (v := nI 1) d_TM_joined_30 rfl ?_
          refine E_goto 35 d_TM_joined_31 rfl ?_
          refine E_retZ d_TM_joined_35 rfl (by first | exact pI_01 _ | decide) ?_
          first | exact absurd h7 (by decide) | exact absurd h11 (by decide) | exact absurd h23 (by decide) | exact absurd h27 (by decide) | exact ⟨by rw [if_pos h3]; rfl, rfl⟩ | exact ⟨by rw [if_neg h3]; rfl, rfl⟩
    · refine E_iload_n d_TM_joined_6 rfl ?_
      first | (with_reducible refine E_isP ?_; refine E_if_eq 18 d_TM_joined_7 rfl (pb_0 fun h7 => ?_) (pb_1 fun h7 => ?_)) | (with_reducible refine E_isN1 ?_; refine E_if_eq 18 d_TM_joined_7 rfl (nz_eq (by omega) fun h7 => ?_) (nz_ne fun h7 => ?_)) | refine E_if_eq 18 d_TM_joined_7 rfl (fun h7 => ?_) (fun h7 => ?_)
      · refine E_iconst (v := nI 0) d_TM_joined_18 rfl ?_
        refine E_goto 35 d_TM_joined_19 rfl ?_
        refine E_retZ d_TM_joined_35 rfl (by first | exact pI_01 _ | decide) ?_
        first | exact absurd h7 (by decide) | exact absurd h11 (by decide) | exact absurd h23 (by decide) | exact absurd h27 (by decide) | exact ⟨by rw [if_pos h3]; rfl, rfl⟩ | exact ⟨by rw [if_neg h3]; rfl, rfl⟩
      · refine E_iload_n d_TM_joined_10 rfl ?_
        first | (with_reducible refine E_isP ?_; refine E_if_eq 18 d_TM_joined_11 rfl (pb_0 fun h11 => ?_) (pb_1 fun h11 => ?_)) | (with_reducible refine E_isN1 ?_; refine E_if_eq 18 d_TM_joined_11 rfl (nz_eq (by omega) fun h11 => ?_) (nz_ne fun h11 => ?_)) | refine E_if_eq 18 d_TM_joined_11 rfl (fun h11 => ?_) (fun h11 => ?_)
        · refine E_iconst (v := nI 0) d_TM_joined_18 rfl ?_
          refine E_goto 35 d_TM_joined_19 rfl ?_
          refine E_retZ d_TM_joined_35 rfl (by first | exact pI_01 _ | decide) ?_
          first | exact absurd h7 (by decide) | exact absurd h11 (by decide) | exact absurd h23 (by decide) | exact absurd h27 (by decide) | exact ⟨by rw [if_pos h3]; rfl, rfl⟩ | exact ⟨by rw [if_neg h3]; rfl, rfl⟩
        · refine E_iconst (v := nI 1) d_TM_joined_14 rfl ?_
          refine E_goto 35 d_TM_joined_15 rfl ?_
          refine E_retZ d_TM_joined_35 rfl (by first | exact pI_01 _ | decide) ?_
          first | exact absurd h7 (by decide) | exact absurd h11 (by decide) | exact absurd h23 (by decide) | exact absurd h27 (by decide) | exact ⟨by rw [if_pos h3]; rfl, rfl⟩ | exact ⟨by rw [if_neg h3]; rfl, rfl⟩
  · refine E_iload_n d_TM_joined_0 rfl ?_
    refine E_bipush (v := nI 21) d_TM_joined_1 (by decide) ?_
    first | (with_reducible refine E_isN2 ?_; refine E_icmp_ne 22 d_TM_joined_3 rfl (nb_ne fun h3 => ?_) (nb_eq (by omega) (by omega) fun h3 => ?_)) | refine E_icmp_ne 22 d_TM_joined_3 rfl (fun h3 => ?_) (fun h3 => ?_)
    · refine E_iload_n d_TM_joined_22 rfl ?_
      first | (with_reducible refine E_isP ?_; refine E_if_ne 30 d_TM_joined_23 rfl (pb_1 fun h23 => ?_) (pb_0 fun h23 => ?_)) | (with_reducible refine E_isN1 ?_; refine E_if_ne 30 d_TM_joined_23 rfl (nz_ne fun h23 => ?_) (nz_eq (by omega) fun h23 => ?_)) | refine E_if_ne 30 d_TM_joined_23 rfl (fun h23 => ?_) (fun h23 => ?_)
      · refine E_iconst (v := nI 1) d_TM_joined_30 rfl ?_
        refine E_goto 35 d_TM_joined_31 rfl ?_
        refine E_retZ d_TM_joined_35 rfl (by first | exact pI_01 _ | decide) ?_
        first | exact absurd h7 (by decide) | exact absurd h11 (by decide) | exact absurd h23 (by decide) | exact absurd h27 (by decide) | exact ⟨by rw [if_pos h3]; rfl, rfl⟩ | exact ⟨by rw [if_neg h3]; rfl, rfl⟩
      · refine E_iload_n d_TM_joined_26 rfl ?_
        first | (with_reducible refine E_isP ?_; refine E_if_eq 34 d_TM_joined_27 rfl (pb_0 fun h27 => ?_) (pb_1 fun h27 => ?_)) | (with_reducible refine E_isN1 ?_; refine E_if_eq 34 d_TM_joined_27 rfl (nz_eq (by omega) fun h27 => ?_) (nz_ne fun h27 => ?_)) | refine E_if_eq 34 d_TM_joined_27 rfl (fun h27 => ?_) (fun h27 => ?_)
        · refine E_iconst (v := nI 0) d_TM_joined_34 rfl ?_
          refine E_retZ d_TM_joined_35 rfl (by first | exact pI_01 _ | decide) ?_
          first | exact absurd h7 (by decide) | exact absurd h11 (by decide) | exact absurd h23 (by decide) | exact absurd h27 (by decide) | exact ⟨by rw [if_pos h3]; rfl, rfl⟩ | exact ⟨by rw [if_neg h3]; rfl, rfl⟩
        · refine E_iconst (v := nI 1) d_TM_joined_30 rfl ?_
          refine E_goto 35 d_TM_joined_31 rfl ?_
          refine E_retZ d_TM_joined_35 rfl (by first | exact pI_01 _ | decide) ?_
          first | exact absurd h7 (by decide) | exact absurd h11 (by decide) | exact absurd h23 (by decide) | exact absurd h27 (by decide) | exact ⟨by rw [if_pos h3]; rfl, rfl⟩ | exact ⟨by rw [if_neg h3]; rfl, rfl⟩
    · refine E_iload_n d_TM_joined_6 rfl ?_
      first | (with_reducible refine E_isP ?_; refine E_if_eq 18 d_TM_joined_7 rfl (pb_0 fun h7 => ?_) (pb_1 fun h7 => ?_)) | (with_reducible refine E_isN1 ?_; refine E_if_eq 18 d_TM_joined_7 rfl (nz_eq (by omega) fun h7 => ?_) (nz_ne fun h7 => ?_)) | refine E_if_eq 18 d_TM_joined_7 rfl (fun h7 => ?_) (fun h7 => ?_)
      · refine E_iconst (v := nI 0) d_TM_joined_18 rfl ?_
        refine E_goto 35 d_TM_joined_19 rfl ?_
        refine E_retZ d_TM_joined_35 rfl (by first | exact pI_01 _ | decide) ?_
        first | exact absurd h7 (by decide) | exact absurd h11 (by decide) | exact absurd h23 (by decide) | exact absurd h27 (by decide) | exact ⟨by rw [if_pos h3]; rfl, rfl⟩ | exact ⟨by rw [if_neg h3]; rfl, rfl⟩
      · refine E_iload_n d_TM_joined_10 rfl ?_
        first | (with_reducible refine E_isP ?_; refine E_if_eq 18 d_TM_joined_11 rfl (pb_0 fun h11 => ?_) (pb_1 fun h11 => ?_)) | (with_reducible refine E_isN1 ?_; refine E_if_eq 18 d_TM_joined_11 rfl (nz_eq (by omega) fun h11 => ?_) (nz_ne fun h11 => ?_)) | refine E_if_eq 18 d_TM_joined_11 rfl (fun h11 => ?_) (fun h11 => ?_)
        · refine E_iconst (v := nI 0) d_TM_joined_18 rfl ?_
          refine E_goto 35 d_TM_joined_19 rfl ?_
          refine E_retZ d_TM_joined_35 rfl (by first | exact pI_01 _ | decide) ?_
          first | exact absurd h7 (by decide) | exact absurd h11 (by decide) | exact absurd h23 (by decide) | exact absurd h27 (by decide) | exact ⟨by rw [if_pos h3]; rfl, rfl⟩ | exact ⟨by rw [if_neg h3]; rfl, rfl⟩
        · refine E_iconst (v := nI 1) d_TM_joined_14 rfl ?_
          refine E_goto 35 d_TM_joined_15 rfl ?_
          refine E_retZ d_TM_joined_35 rfl (by first | exact pI_01 _ | decide) ?_
          first | exact absurd h7 (by decide) | exact absurd h11 (by decide) | exact absurd h23 (by decide) | exact absurd h27 (by decide) | exact ⟨by rw [if_pos h3]; rfl, rfl⟩ | exact ⟨by rw [if_neg h3]; rfl, rfl⟩
  · refine E_iload_n d_TM_joined_0 rfl ?_
    refine E_bipush (v := nI 21) d_TM_joined_1 (by decide) ?_
    first | (with_reducible refine E_isN2 ?_; refine E_icmp_ne 22 d_TM_joined_3 rfl (nb_ne fun h3 => ?_) (nb_eq (by omega) (by omega) fun h3 => ?_)) | refine E_icmp_ne 22 d_TM_joined_3 rfl (fun h3 => ?_) (fun h3 => ?_)
    · refine E_iload_n d_TM_joined_22 rfl ?_
      first | (with_reducible refine E_isP ?_; refine E_if_ne 30 d_TM_joined_23 rfl (pb_1 fun h23 => ?_) (pb_0 fun h23 => ?_)) | (with_reducible refine E_isN1 ?_; refine E_if_ne 30 d_TM_joined_23 rfl (nz_ne fun h23 => ?_) (nz_eq (by omega) fun h23 => ?_)) | refine E_if_ne 30 d_TM_joined_23 rfl (fun h23 => ?_) (fun h23 => ?_)
      · refine E_iconst (v := nI 1) d_TM_joined_30 rfl ?_
        refine E_goto 35 d_TM_joined_31 rfl ?_
        refine E_retZ d_TM_joined_35 rfl (by first | exact pI_01 _ | decide) ?_
        first | exact absurd h7 (by decide) | exact absurd h11 (by decide) | exact absurd h23 (by decide) | exact absurd h27 (by decide) | exact ⟨by rw [if_pos h3]; rfl, rfl⟩ | exact ⟨by rw [if_neg h3]; rfl, rfl⟩
      · refine E_iload_n d_TM_joined_26 rfl ?_
        first | (with_reducible refine E_isP ?_; refine E_if_eq 34 d_TM_joined_27 rfl (pb_0 fun h27 => ?_) (pb_1 fun h27 => ?_)) | (with_reducible refine E_isN1 ?_; refine E_if_eq 34 d_TM_joined_27 rfl (nz_eq (by omega) fun h27 => ?_) (nz_ne fun h27 => ?_)) | refine E_if_eq 34 d_TM_joined_27 rfl (fun h27 => ?_) (fun h27 => ?_)
        · refine E_iconst (v := nI 0) d_TM_joined_34 rfl ?_
          refine E_retZ d_TM_joined_35 rfl (by first | exact pI_01 _ | decide) ?_
          first | exact absurd h7 (by decide) | exact absurd h11 (by decide) | exact absurd h23 (by decide) | exact absurd h27 (by decide) | exact ⟨by rw [if_pos h3]; rfl, rfl⟩ | exact ⟨by rw [if_neg h3]; rfl, rfl⟩
        · refine E_iconst (v := nI 1) d_TM_joined_30 rfl ?_
          refine E_goto 35 d_TM_joined_31 rfl ?_
          refine E_retZ d_TM_joined_35 rfl (by first | exact pI_01 _ | decide) ?_
          first | exact absurd h7 (by decide) | exact absurd h11 (by decide) | exact absurd h23 (by decide) | exact absurd h27 (by decide) | exact ⟨by rw [if_pos h3]; rfl, rfl⟩ | exact ⟨by rw [if_neg h3]; rfl, rfl⟩
    · refine E_iload_n d_TM_joined_6 rfl ?_
      first | (with_reducible refine E_isP ?_; refine E_if_eq 18 d_TM_joined_7 rfl (pb_0 fun h7 => ?_) (pb_1 fun h7 => ?_)) | (with_reducible refine E_isN1 ?_; refine E_if_eq 18 d_TM_joined_7 rfl (nz_eq (by omega) fun h7 => ?_) (nz_ne fun h7 => ?_)) | refine E_if_eq 18 d_TM_joined_7 rfl (fun h7 => ?_) (fun h7 => ?_)
      · refine E_iconst (v := nI 0) d_TM_joined_18 rfl ?_
        refine E_goto 35 d_TM_joined_19 rfl ?_
        refine E_retZ d_TM_joined_35 rfl (by first | exact pI_01 _ | decide) ?_
        first | exact absurd h7 (by decide) | exact absurd h11 (by decide) | exact absurd h23 (by decide) | exact absurd h27 (by decide) | exact ⟨by rw [if_pos h3]; rfl, rfl⟩ | exact ⟨by rw [if_neg h3]; rfl, rfl⟩
      · refine E_iload_n d_TM_joined_10 rfl ?_
        first | (with_reducible refine E_isP ?_; refine E_if_eq 18 d_TM_joined_11 rfl (pb_0 fun h11 => ?_) (pb_1 fun h11 => ?_)) | (with_reducible refine E_isN1 ?_; refine E_if_eq 18 d_TM_joined_11 rfl (nz_eq (by omega) fun h11 => ?_) (nz_ne fun h11 => ?_)) | refine E_if_eq 18 d_TM_joined_11 rfl (fun h11 => ?_) (fun h11 => ?_)
        · refine E_iconst (v := nI 0) d_TM_joined_18 rfl ?_
          refine E_goto 35 d_TM_joined_19 rfl ?_
          refine E_retZ d_TM_joined_35 rfl (by first | exact pI_01 _ | decide) ?_
          first | exact absurd h7 (by decide) | exact absurd h11 (by decide) | exact absurd h23 (by decide) | exact absurd h27 (by decide) | exact ⟨by rw [if_pos h3]; rfl, rfl⟩ | exact ⟨by rw [if_neg h3]; rfl, rfl⟩
        · refine E_iconst (v := nI 1) d_TM_joined_14 rfl ?_
          refine E_goto 35 d_TM_joined_15 rfl ?_
          refine E_retZ d_TM_joined_35 rfl (by first | exact pI_01 _ | decide) ?_
          first | exact absurd h7 (by decide) | exact absurd h11 (by decide) | exact absurd h23 (by decide) | exact absurd h27 (by decide) | exact ⟨by rw [if_pos h3]; rfl, rfl⟩ | exact ⟨by rw [if_neg h3]; rfl, rfl⟩
