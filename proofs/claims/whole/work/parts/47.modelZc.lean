def bt (v : Int32) (k : Nat) : Nat := (v >>> (nI k &&& 31)).toBitVec.toNat % 2 ^ 8
theorem bt_eq (v : Int32) (k : Nat) : v >>> (nI k &&& 31) &&& nI 255 = nI (bt v k) := pk_and _ 8 (by decide)
theorem bt_lt (v : Int32) (k : Nat) : bt v k < 256 := Nat.mod_lt _ (by decide)
def fourB (v : Int32) : List Nat := [bt v 24, bt v 16, bt v 8, bt v 0]
def TapeM (l : List Nat) (M : Mem) : Prop := l.length ≤ 300 ∧ mI M 0 4 = nI l.length ∧ (∀ i, i < l.length → mI M 4 i = nI (l.getD i 0)) ∧ ∀ b ∈ l, b < 256
def S04 (a : Nat) : Prop := a = 0 ∨ a = 4
def X04 (M M' : Mem) : Prop := Sx S04 M M' ∧ (∀ j, j ≠ 4 → mI M' 0 j = mI M 0 j) ∧ mL M' 0 = mL M 0
theorem X04.rf {M : Mem} : X04 M M := ⟨Sx.rf, fun _ _ => rfl, rfl⟩
theorem X04.tr {M M1 M2 : Mem} (h : X04 M M1) (g : X04 M1 M2) : X04 M M2 := ⟨h.1.tr g.1, fun j hj => (g.2.1 j hj).trans (h.2.1 j hj), g.2.2.trans h.2.2⟩
theorem TapeM_put {l : List Nat} {M : Mem} {b : Nat} (h : TapeM l M) (hl : l.length < 300) (hb : b < 256) : TapeM (l ++ [b]) (wI (wI M 4 l.length (nI b)) 0 4 (nI (l.length + 1))) ∧ X04 M (wI (wI M 4 l.length (nI b)) 0 4 (nI (l.length + 1))) := by
  obtain ⟨h1, h2, h3, h4⟩ := h
  refine ⟨⟨by rw [List.length_append]; show l.length + 1 ≤ 300; omega, by rw [mI_wI, if_pos ⟨rfl, rfl⟩, List.length_append]; rfl, fun i hi => ?_, fun x hx => ?_⟩, (Sx.rf.wI (Or.inr rfl)).wI (Or.inl rfl), fun j hj => by rw [mI_wI, if_neg (fun q => hj q.2), mI_wx (by decide)], rfl⟩
  · have hi2 : i < l.length + 1 := by simpa using hi
    rw [mI_wx (by decide), getD_snoc, mI_wI]
    by_cases q : i < l.length
    · rw [if_pos q, if_neg (by omega)]
      exact h3 i q
    · rw [if_neg q, if_pos (by omega), if_pos (by omega)]
  · rcases List.mem_append.mp hx with q | q
    · exact h4 x q
    · rw [List.mem_singleton.mp q]; exact hb
theorem lp_TM_four {M0 : Mem} {l : List Nat} {v : Int32} {s : Nat} (hs : s < 32) (hl : l.length < 300) {Q : Option Value → Geo → Mem → Prop} (K : ∀ M, MR M → TapeM (l ++ [bt v s]) M → X04 M0 M → E 0 0 0 Y_TM_four 3 [some (.ref 0), some (.int v), some (.int (nI s + Int32.ofInt (-8)))] [] GM M Q) (M : Mem) (hR : MR M) (hT : TapeM l M) (hX : X04 M0 M) : E 0 0 0 Y_TM_four 3 [some (.ref 0), some (.int v), some (.int (nI s))] [] GM M Q := by
  have e4 := hT.2.1
  obtain ⟨t1, t2⟩ := TapeM_put hT hl (bt_lt v s)
  refine E_iload_n d_TM_four_3 rfl ?_
  first | (with_reducible refine E_isN1 ?_; refine E_if_lt 39 d_TM_four_4 rfl (nz_lt (by omega) fun h4 => ?_) (nz_nlt (by omega) fun h4 => ?_)) | refine E_if_lt 39 d_TM_four_4 rfl (fun h4 => ?_) (fun h4 => ?_)
  · exfalso; exact absurd h4 (Nat.not_lt_zero s)
  first | refine E_aload_n d_TM_four_7 rfl ?_ | refine E_aload_nN d_TM_four_7 rfl ?_
  refine E_getR (q := 4) d_TM_four_8 gf_TM_19 (by exact ⟨by decide, rfl⟩) (by exact hR _ rfl) ?_
  first | refine E_aload_n d_TM_four_11 rfl ?_ | refine E_aload_nN d_TM_four_11 rfl ?_
  refine E_getI d_TM_four_12 gf_TM_77 (by exact ⟨by decide, rfl⟩) (by exact e4) ?_
  refine E_iload_n d_TM_four_15 rfl ?_
  refine E_iload_n d_TM_four_16 rfl ?_
  first | (with_reducible refine E_isN2 ?_; refine E_ishrN d_TM_four_17 (by omega) (by omega) ?_) | refine E_ishr d_TM_four_17 ?_
  refine E_sipush (v := nI 255) d_TM_four_18 (by decide) ?_
  first | (with_reducible refine E_isN2 ?_; refine E_iandN d_TM_four_21 ?_) | refine E_iand d_TM_four_21 ?_
  rw [bt_eq]
  refine E_iast d_TM_four_22 (by exact ⟨by decide, rfl⟩) (by exact ⟨by with_reducible rfl, by omega, by decide⟩) ?_
  first | refine E_aload_n d_TM_four_23 rfl ?_ | refine E_aload_nN d_TM_four_23 rfl ?_
  refine E_dup d_TM_four_24 rfl ?_
  refine E_getI d_TM_four_25 gf_TM_77 (by exact ⟨by decide, rfl⟩) (by exact (mI_wx (by decide)).trans e4) ?_
  refine E_iconst (v := nI 1) d_TM_four_28 rfl ?_
  first | (with_reducible refine E_isN2 ?_; refine E_iaddN d_TM_four_29 ?_) | refine E_iadd d_TM_four_29 ?_
  refine E_putI d_TM_four_30 gf_TM_77 (by exact ⟨by decide, rfl⟩) rfl rfl ?_
  first | (with_reducible refine E_isL2 ?_; refine E_iincD2 (m := 8) d_TM_four_33 (by decide) (by omega) rfl ?_) | refine E_iinc_2 d_TM_four_33 rfl rfl ?_
  refine E_goto 3 d_TM_four_36 rfl ?_
  first | exact K _ hR t1 (hX.tr t2) | (rw [← pk_sub (by omega), Int32.sub_eq_add_neg]; exact K _ hR t1 (hX.tr t2))
theorem sp_TM_four {M : Mem} {l : List Nat} (hR : MR M) (hT : TapeM l M) (hl : l.length + 4 ≤ 300) (v : Int32) : E 0 0 0 Y_TM_four 0 [some (.ref 0), some (.int v), none] [] GM M (QV GM fun M' => MR M' ∧ TapeM (l ++ fourB v) M' ∧ X04 M M') := by
  have K4 : ∀ M', MR M' → TapeM (l ++ [bt v 24] ++ [bt v 16] ++ [bt v 8] ++ [bt v 0]) M' → X04 M M' → E 0 0 0 Y_TM_four 3 [some (.ref 0), some (.int v), some (.int (nI 0 + Int32.ofInt (-8)))] [] GM M' (QV GM fun M' => MR M' ∧ TapeM (l ++ fourB v) M' ∧ X04 M M') := by
    intro M' hR hT hX
    have e : l ++ [bt v 24] ++ [bt v 16] ++ [bt v 8] ++ [bt v 0] = l ++ fourB v := by simp [fourB]
    rw [e] at hT
    rw [show nI 0 + Int32.ofInt (-8) = -8 from by decide]
    refine E_iload_n d_TM_four_3 rfl ?_
    first | (with_reducible refine E_isN1 ?_; refine E_if_lt 39 d_TM_four_4 rfl (nz_lt (by omega) fun h4 => ?_) (nz_nlt (by omega) fun h4 => ?_)) | refine E_if_lt 39 d_TM_four_4 rfl (fun h4 => ?_) (fun h4 => ?_)
    rotate_left
    · exfalso; exact h4 (by decide)
    refine E_retV d_TM_four_39 rfl ?_
    exact ⟨hR, hT, hX⟩
  have K3 : ∀ M', MR M' → TapeM (l ++ [bt v 24] ++ [bt v 16] ++ [bt v 8]) M' → X04 M M' → E 0 0 0 Y_TM_four 3 [some (.ref 0), some (.int v), some (.int (nI 8 + Int32.ofInt (-8)))] [] GM M' (QV GM fun M' => MR M' ∧ TapeM (l ++ fourB v) M' ∧ X04 M M') := fun M' hR hT hX => by
    rw [show nI 8 + Int32.ofInt (-8) = nI 0 from by decide]
    exact lp_TM_four (by decide) (by simp; omega) K4 M' hR hT hX
  have K2 : ∀ M', MR M' → TapeM (l ++ [bt v 24] ++ [bt v 16]) M' → X04 M M' → E 0 0 0 Y_TM_four 3 [some (.ref 0), some (.int v), some (.int (nI 16 + Int32.ofInt (-8)))] [] GM M' (QV GM fun M' => MR M' ∧ TapeM (l ++ fourB v) M' ∧ X04 M M') := fun M' hR hT hX => by
    rw [show nI 16 + Int32.ofInt (-8) = nI 8 from by decide]
    exact lp_TM_four (by decide) (by simp; omega) K3 M' hR hT hX
  have K1 : ∀ M', MR M' → TapeM (l ++ [bt v 24]) M' → X04 M M' → E 0 0 0 Y_TM_four 3 [some (.ref 0), some (.int v), some (.int (nI 24 + Int32.ofInt (-8)))] [] GM M' (QV GM fun M' => MR M' ∧ TapeM (l ++ fourB v) M' ∧ X04 M M') := fun M' hR hT hX => by
    rw [show nI 24 + Int32.ofInt (-8) = nI 16 from by decide]
    exact lp_TM_four (by decide) (by simp; omega) K2 M' hR hT hX
  refine E_bipush (v := nI 24) d_TM_four_0 (by decide) ?_
  refine E_istore_2 d_TM_four_2 rfl ?_
  exact lp_TM_four (by decide) (by omega) K1 M hR hT X04.rf
def feedL (l : List Nat) (a b c d e : Int32) : List Nat := l ++ fourB a ++ fourB b ++ fourB c ++ fourB d ++ fourB e
def st_feed (l : List Nat) (a b c d e : Int32) : List Nat := if 300 < l.length + 20 then l else feedL l a b c d e
def ans_feed (l : List Nat) : Int32 := if 300 < l.length + 20 then -1 else nI (l.length + 20)
theorem sp_TM_feed {M : Mem} {l : List Nat} (hR : MR M) (hT : TapeM l M) (a b c d e : Int32) : E 1 0 0 Y_TM_feed 0 [some (.ref 0), some (.int a), some (.int b), some (.int c), some (.int d), some (.int e)] [] GM M (QI GM fun r M' => r = ans_feed l ∧ MR M' ∧ TapeM (st_feed l a b c d e) M' ∧ X04 M M') := by
  have e4 := hT.2.1
  have l3 := hT.1
  by_cases h : 300 < l.length + 20
  · rw [ans_feed, st_feed, if_pos h, if_pos h]
    first | refine E_aload_n d_TM_feed_0 rfl ?_ | refine E_aload_nN d_TM_feed_0 rfl ?_
    refine E_getI d_TM_feed_1 gf_TM_77 (by exact ⟨by decide, rfl⟩) (by exact e4) ?_
    refine E_bipush (v := nI 20) d_TM_feed_4 (by decide) ?_
    first | (with_reducible refine E_isN2 ?_; refine E_iaddN d_TM_feed_6 ?_) | refine E_iadd d_TM_feed_6 ?_
    refine E_sipush (v := nI 300) d_TM_feed_7 (by decide) ?_
    first | (with_reducible refine E_isN2 ?_; refine E_icmp_le 15 d_TM_feed_10 rfl (nb_le (by omega) (by omega) fun h10 => ?_) (nb_nle (by omega) (by omega) fun h10 => ?_)) | refine E_icmp_le 15 d_TM_feed_10 rfl (fun h10 => ?_) (fun h10 => ?_)
    · exfalso; omega
    refine E_iconst (v := (-1)) d_TM_feed_13 rfl ?_
    refine E_retI d_TM_feed_14 rfl ?_
    exact ⟨rfl, hR, hT, X04.rf⟩
  · rw [ans_feed, st_feed, if_neg h, if_neg h]
    first | refine E_aload_n d_TM_feed_0 rfl ?_ | refine E_aload_nN d_TM_feed_0 rfl ?_
    refine E_getI d_TM_feed_1 gf_TM_77 (by exact ⟨by decide, rfl⟩) (by exact e4) ?_
    refine E_bipush (v := nI 20) d_TM_feed_4 (by decide) ?_
    first | (with_reducible refine E_isN2 ?_; refine E_iaddN d_TM_feed_6 ?_) | refine E_iadd d_TM_feed_6 ?_
    refine E_sipush (v := nI 300) d_TM_feed_7 (by decide) ?_
    first | (with_reducible refine E_isN2 ?_; refine E_icmp_le 15 d_TM_feed_10 rfl (nb_le (by omega) (by omega) fun h10 => ?_) (nb_nle (by omega) (by omega) fun h10 => ?_)) | refine E_icmp_le 15 d_TM_feed_10 rfl (fun h10 => ?_) (fun h10 => ?_)
    rotate_left
    · exfalso; omega
    first | refine E_aload_n d_TM_feed_15 rfl ?_ | refine E_aload_nN d_TM_feed_15 rfl ?_
    refine E_iload_n d_TM_feed_16 rfl ?_
    refine E_V1 (sp_TM_four hR hT (by omega) a) d_TM_feed_17 ml_TM_80 cb_TM_four cv_TM_four (by exact ⟨by decide, rfl⟩) ⟨by decide, rfl⟩ ⟨by decide, by decide⟩ rfl (Nat.le_of_ble_eq_true rfl) (Nat.le_of_ble_eq_true rfl) (kV fun M1 hc => ?_)
    obtain ⟨hR, hT1, hX1⟩ := hc
    first | refine E_aload_n d_TM_feed_20 rfl ?_ | refine E_aload_nN d_TM_feed_20 rfl ?_
    refine E_iload_n d_TM_feed_21 rfl ?_
    refine E_V1 (sp_TM_four hR hT1 (by simp [fourB]; omega) b) d_TM_feed_22 ml_TM_80 cb_TM_four cv_TM_four (by exact ⟨by decide, rfl⟩) ⟨by decide, rfl⟩ ⟨by decide, by decide⟩ rfl (Nat.le_of_ble_eq_true rfl) (Nat.le_of_ble_eq_true rfl) (kV fun M1 hc => ?_)
    obtain ⟨hR, hT2, hX2⟩ := hc
    have hX2 := hX1.tr hX2
    first | refine E_aload_n d_TM_feed_25 rfl ?_ | refine E_aload_nN d_TM_feed_25 rfl ?_
    refine E_iload_n d_TM_feed_26 rfl ?_
    refine E_V1 (sp_TM_four hR hT2 (by simp [fourB]; omega) c) d_TM_feed_27 ml_TM_80 cb_TM_four cv_TM_four (by exact ⟨by decide, rfl⟩) ⟨by decide, rfl⟩ ⟨by decide, by decide⟩ rfl (Nat.le_of_ble_eq_true rfl) (Nat.le_of_ble_eq_true rfl) (kV fun M1 hc => ?_)
    obtain ⟨hR, hT3, hX3⟩ := hc
    have hX3 := hX2.tr hX3
    first | refine E_aload_n d_TM_feed_30 rfl ?_ | refine E_aload_nN d_TM_feed_30 rfl ?_
    refine E_iload d_TM_feed_31 rfl ?_
    refine E_V1 (sp_TM_four hR hT3 (by simp [fourB]; omega) d) d_TM_feed_33 ml_TM_80 cb_TM_four cv_TM_four (by exact ⟨by decide, rfl⟩) ⟨by decide, rfl⟩ ⟨by decide, by decide⟩ rfl (Nat.le_of_ble_eq_true rfl) (Nat.le_of_ble_eq_true rfl) (kV fun M1 hc => ?_)
    obtain ⟨hR, hT4, hX4⟩ := hc
    have hX4 := hX3.tr hX4
    first | refine E_aload_n d_TM_feed_36 rfl ?_ | refine E_aload_nN d_TM_feed_36 rfl ?_
    refine E_iload d_TM_feed_37 rfl ?_
    refine E_V1 (sp_TM_four hR hT4 (by simp [fourB]; omega) e) d_TM_feed_39 ml_TM_80 cb_TM_four cv_TM_four (by exact ⟨by decide, rfl⟩) ⟨by decide, rfl⟩ ⟨by decide, by decide⟩ rfl (Nat.le_of_ble_eq_true rfl) (Nat.le_of_ble_eq_true rfl) (kV fun M1 hc => ?_)
    obtain ⟨hR, hT5, hX5⟩ := hc
    have hX5 := hX4.tr hX5
    first | refine E_aload_n d_TM_feed_42 rfl ?_ | refine E_aload_nN d_TM_feed_42 rfl ?_
    refine E_getI d_TM_feed_43 gf_TM_77 (by exact ⟨by decide, rfl⟩) (by exact hT5.2.1) ?_
    refine E_retI d_TM_feed_46 rfl ?_
    exact ⟨congrArg nI (by simp [fourB]), hR, hT5, hX5⟩
def ans_end (l : List Nat) (x : Int32) : Int32 := if inN x (l.length + 1) then x else -1
def st_end (l : List Nat) (x : Int32) : List Nat := if inN x (l.length + 1) then l.take (tN x) else l
theorem TapeM_take {l : List Nat} {M : Mem} {n : Nat} (h : TapeM l M) (hn : n ≤ l.length) : TapeM (l.take n) (wI M 0 4 (nI n)) ∧ X04 M (wI M 0 4 (nI n)) := by
  obtain ⟨h1, h2, h3, h4⟩ := h
  have e : (l.take n).length = n := by rw [List.length_take]; omega
  refine ⟨⟨by omega, by rw [mI_wI, if_pos ⟨rfl, rfl⟩, e], fun i hi => ?_, fun b hb => h4 b (List.mem_of_mem_take hb)⟩, Sx.rf.wI (Or.inl rfl), fun j hj => by rw [mI_wI, if_neg (fun q => hj q.2)], rfl⟩
  rw [e] at hi
  rw [mI_wx (by decide), h3 i (by omega), List.getD_eq_getElem?_getD, List.getD_eq_getElem?_getD, List.getElem?_take, if_pos hi]
theorem sp_TM_end {M : Mem} {l : List Nat} (hR : MR M) (hT : TapeM l M) (x : Int32) : E 1 0 0 Y_TM_end 0 [some (.ref 0), some (.int x)] [] GM M (QI GM fun r M' => r = ans_end l x ∧ MR M' ∧ TapeM (st_end l x) M' ∧ X04 M M') := by
  have e4 := hT.2.1
  have l3 := hT.1
  revert x
  refine args1 (l.length + 1) (fun n hn hx ht => ?_) (fun x hx => ?_)
  · obtain ⟨t1, t2⟩ := TapeM_take hT (show n ≤ l.length by omega)
    rw [ans_end, st_end, if_pos hx, if_pos hx, ht]
    refine E_iload_n d_TM_end_0 rfl ?_
    refine E_iconst (v := nI 0) d_TM_end_1 rfl ?_
    first | refine E_aload_n d_TM_end_2 rfl ?_ | refine E_aload_nN d_TM_end_2 rfl ?_
    refine E_getI d_TM_end_3 gf_TM_77 (by exact ⟨by decide, rfl⟩) (by exact e4) ?_
    refine E_S3 (sp_TM_in _ l.length (by omega)) d_TM_end_6 ml_TM_69 cb_TM_isIn cs_TM_isIn ⟨by decide, by decide⟩ rfl (Nat.le_of_ble_eq_true rfl) (Nat.le_of_ble_eq_true rfl) (kI fun r1 M1 hc => ?_)
    obtain ⟨rfl, rfl⟩ := hc
    first | (with_reducible refine E_isP ?_; refine E_if_ne 14 d_TM_end_9 rfl (pb_1 fun h9 => ?_) (pb_0 fun h9 => ?_)) | (with_reducible refine E_isN1 ?_; refine E_if_ne 14 d_TM_end_9 rfl (nz_ne fun h9 => ?_) (nz_eq (by omega) fun h9 => ?_)) | refine E_if_ne 14 d_TM_end_9 rfl (fun h9 => ?_) (fun h9 => ?_)
    rotate_left
    · exfalso; exact h9 hx
    first | refine E_aload_n d_TM_end_14 rfl ?_ | refine E_aload_nN d_TM_end_14 rfl ?_
    refine E_iload_n d_TM_end_15 rfl ?_
    refine E_putI d_TM_end_16 gf_TM_77 (by exact ⟨by decide, rfl⟩) rfl rfl ?_
    refine E_iload_n d_TM_end_19 rfl ?_
    refine E_retI d_TM_end_20 rfl ?_
    exact ⟨rfl, hR, t1, t2⟩
  · rw [ans_end, st_end, if_neg hx, if_neg hx]
    refine E_iload_n d_TM_end_0 rfl ?_
    refine E_iconst (v := nI 0) d_TM_end_1 rfl ?_
    first | refine E_aload_n d_TM_end_2 rfl ?_ | refine E_aload_nN d_TM_end_2 rfl ?_
    refine E_getI d_TM_end_3 gf_TM_77 (by exact ⟨by decide, rfl⟩) (by exact e4) ?_
    refine E_S3 (sp_TM_in _ l.length (by omega)) d_TM_end_6 ml_TM_69 cb_TM_isIn cs_TM_isIn ⟨by decide, by decide⟩ rfl (Nat.le_of_ble_eq_true rfl) (Nat.le_of_ble_eq_true rfl) (kI fun r1 M1 hc => ?_)
    obtain ⟨rfl, rfl⟩ := hc
    first | (with_reducible refine E_isP ?_; refine E_if_ne 14 d_TM_end_9 rfl (pb_1 fun h9 => ?_) (pb_0 fun h9 => ?_)) | (with_reducible refine E_isN1 ?_; refine E_if_ne 14 d_TM_end_9 rfl (nz_ne fun h9 => ?_) (nz_eq (by omega) fun h9 => ?_)) | refine E_if_ne 14 d_TM_end_9 rfl (fun h9 => ?_) (fun h9 => ?_)
    · exfalso; exact hx h9
    refine E_iconst (v := (-1)) d_TM_end_12 rfl ?_
    refine E_retI d_TM_end_13 rfl ?_
    exact ⟨rfl, hR, hT, X04.rf⟩
def ans_fault (f p x : Int32) : Int32 := if x = 0 then f else if x = nI 1 then p else -1
theorem sp_TM_fault {M : Mem} {f p : Int32} (hf : mI M 0 5 = f) (hp : mI M 0 6 = p) (x : Int32) : E 0 0 0 Y_TM_fault 0 [some (.ref 0), some (.int x)] [] GM M (QI GM fun r M' => r = ans_fault f p x ∧ M' = M) := by
  have k1 : x = 0 → f = ans_fault f p x := fun h => (if_pos h).symm
  have k2 : ¬ x = 0 → x = nI 1 → p = ans_fault f p x := fun h h' => ((if_neg h).trans (if_pos h')).symm
  have k3 : ¬ x = 0 → ¬ x = nI 1 → -1 = ans_fault f p x := fun h h' => ((if_neg h).trans (if_neg h')).symm
  refine E_iload_n d_TM_fault_0 rfl ?_
  first | (with_reducible refine E_isP ?_; refine E_if_ne 11 d_TM_fault_1 rfl (pb_1 fun h1 => ?_) (pb_0 fun h1 => ?_)) | (with_reducible refine E_isN1 ?_; refine E_if_ne 11 d_TM_fault_1 rfl (nz_ne fun h1 => ?_) (nz_eq (by omega) fun h1 => ?_)) | refine E_if_ne 11 d_TM_fault_1 rfl (fun h1 => ?_) (fun h1 => ?_)
  · refine E_iload_n d_TM_fault_11 rfl ?_
    refine E_iconst (v := nI 1) d_TM_fault_12 rfl ?_
    first | (with_reducible refine E_isN2 ?_; refine E_icmp_ne 23 d_TM_fault_13 rfl (nb_ne fun h13 => ?_) (nb_eq (by omega) (by omega) fun h13 => ?_)) | refine E_icmp_ne 23 d_TM_fault_13 rfl (fun h13 => ?_) (fun h13 => ?_)
    · refine E_iconst (v := (-1)) d_TM_fault_23 rfl ?_
      refine E_retI d_TM_fault_24 rfl ?_
      first | exact And.intro (k1 h1) rfl | exact And.intro (k2 h1 h13) rfl | exact And.intro (k3 h1 h13) rfl
    · first | refine E_aload_n d_TM_fault_16 rfl ?_ | refine E_aload_nN d_TM_fault_16 rfl ?_
      refine E_getI d_TM_fault_17 gf_TM_26 (by exact ⟨by decide, rfl⟩) (by exact hp) ?_
      refine E_goto 24 d_TM_fault_20 rfl ?_
      refine E_retI d_TM_fault_24 rfl ?_
      first | exact And.intro (k1 h1) rfl | exact And.intro (k2 h1 h13) rfl | exact And.intro (k3 h1 h13) rfl
  · first | refine E_aload_n d_TM_fault_4 rfl ?_ | refine E_aload_nN d_TM_fault_4 rfl ?_
    refine E_getI d_TM_fault_5 gf_TM_22 (by exact ⟨by decide, rfl⟩) (by exact hf) ?_
    refine E_goto 24 d_TM_fault_8 rfl ?_
    refine E_retI d_TM_fault_24 rfl ?_
    first | exact And.intro (k1 h1) rfl | exact And.intro (k2 h1 h13) rfl | exact And.intro (k3 h1 h13) rfl
theorem mI_ne {M : Mem} {a k b : Nat} {v : Int32} (h : b ≠ a) : mI (wI M a k v) b = mI M b := funext fun j => mI_wx h
theorem sp_TM_copy {M : Mem} {s t : Nat} (hs : Sh GM s (1, 1435)) (ht : Sh GM t (1, 1435)) (hst : s ≠ t) : E 0 0 0 Y_TM_copy 0 [some (.ref s), some (.ref t), none] [] GM M (QV GM fun M' => Sx (fun a => a = t) M M' ∧ ∀ j, j < 1435 → mI M' t j = mI M s j) := by
  have L : ∀ k n, n + k = 1435 → ∀ M1, Sx (fun a => a = t) M M1 → (∀ j, j < n → mI M1 t j = mI M s j) → E 0 0 0 Y_TM_copy 2 [some (.ref s), some (.ref t), some (.int (nI n))] [] GM M1 (QV GM fun M' => Sx (fun a => a = t) M M' ∧ ∀ j, j < 1435 → mI M' t j = mI M s j) := by
    intro k
    induction k with
    | zero =>
      intro n hn M1 hX hF
      have hn2 : n = 1435 := by omega
      subst hn2
      refine E_iload_n d_TM_copy_2 rfl ?_
      refine E_sipush (v := nI 1435) d_TM_copy_3 (by decide) ?_
      first | (with_reducible refine E_isN2 ?_; refine E_icmp_ge 21 d_TM_copy_6 rfl (nb_le (by omega) (by omega) fun h6 => ?_) (nb_nle (by omega) (by omega) fun h6 => ?_)) | refine E_icmp_ge 21 d_TM_copy_6 rfl (fun h6 => ?_) (fun h6 => ?_)
      rotate_left
      · exfalso; omega
      refine E_retV d_TM_copy_21 rfl ?_
      exact ⟨hX, hF⟩
    | succ k ih =>
      intro n hn M1 hX hF
      have e : mI M1 s n = mI M s n := by rw [(hX.2 s hst).1]
      refine E_iload_n d_TM_copy_2 rfl ?_
      refine E_sipush (v := nI 1435) d_TM_copy_3 (by decide) ?_
      first | (with_reducible refine E_isN2 ?_; refine E_icmp_ge 21 d_TM_copy_6 rfl (nb_le (by omega) (by omega) fun h6 => ?_) (nb_nle (by omega) (by omega) fun h6 => ?_)) | refine E_icmp_ge 21 d_TM_copy_6 rfl (fun h6 => ?_) (fun h6 => ?_)
      · exfalso; omega
      first | refine E_aload_n d_TM_copy_9 rfl ?_ | refine E_aload_nN d_TM_copy_9 rfl ?_
      refine E_iload_n d_TM_copy_10 rfl ?_
      first | refine E_aload_n d_TM_copy_11 rfl ?_ | refine E_aload_nN d_TM_copy_11 rfl ?_
      refine E_iload_n d_TM_copy_12 rfl ?_
      refine E_iald d_TM_copy_13 (by assumption) (by exact ⟨by with_reducible rfl, by omega, by decide⟩) (by exact e) ?_
      refine E_iast d_TM_copy_14 (by assumption) (by exact ⟨by with_reducible rfl, by omega, by decide⟩) ?_
      first | (with_reducible refine E_isL2 ?_; refine E_iincN2 (m := 1) d_TM_copy_15 rfl rfl ?_) | refine E_iinc_2 d_TM_copy_15 rfl rfl ?_
      refine E_goto 2 d_TM_copy_18 rfl ?_
      refine ih (n + 1) (by omega) _ (hX.wI rfl) (fun j hj => ?_)
      rw [mI_wI]
      by_cases q : j = n
      · rw [if_pos ⟨rfl, q⟩, q]
      · rw [if_neg (fun r => q r.2)]; exact hF j (by omega)
  refine E_iconst (v := nI 0) d_TM_copy_0 rfl ?_
  refine E_istore_2 d_TM_copy_1 rfl ?_
  exact L 1435 0 (by decide) M Sx.rf (fun j hj => absurd hj (Nat.not_lt_zero j))
theorem sp_TM_image {c : Cr} {M : Mem} (hM : HM c M) : E 1 0 0 Y_TM_image 0 [some (.ref 0)] [] GM M (QI GM fun r M' => r = nI c.now.round ∧ RepA c (mI M' 2) ∧ Sx (fun a => a = 2) M M') := by
  have hR := hM.R
  have hA := hM.A
  first | refine E_aload_n d_TM_image_0 rfl ?_ | refine E_aload_nN d_TM_image_0 rfl ?_
  refine E_getR (q := 1) d_TM_image_1 gf_TM_7 (by exact ⟨by decide, rfl⟩) (by exact hR _ rfl) ?_
  first | refine E_aload_n d_TM_image_4 rfl ?_ | refine E_aload_nN d_TM_image_4 rfl ?_
  refine E_getR (q := 2) d_TM_image_5 gf_TM_13 (by exact ⟨by decide, rfl⟩) (by exact hR _ rfl) ?_
  refine E_S2 (sp_TM_copy (s := 1) (t := 2) ⟨by decide, rfl⟩ ⟨by decide, rfl⟩ (by decide)) d_TM_image_8 ml_TM_65 cb_TM_copy cs_TM_copy ⟨by decide, by decide⟩ rfl (Nat.le_of_ble_eq_true rfl) (Nat.le_of_ble_eq_true rfl) (kV fun M1 hc => ?_)
  obtain ⟨hX1, hF⟩ := hc
  have hR1 := hR.sx hX1
  have e5 : mI M1 1 5 = nI c.now.round := by rw [(hX1.2 1 (by decide)).1]; exact hA.round
  first | refine E_aload_n d_TM_image_11 rfl ?_ | refine E_aload_nN d_TM_image_11 rfl ?_
  refine E_getR (q := 1) d_TM_image_12 gf_TM_7 (by exact ⟨by decide, rfl⟩) (by exact hR1 _ rfl) ?_
  refine E_iconst (v := nI 5) d_TM_image_15 rfl ?_
  refine E_iald d_TM_image_16 (by exact ⟨by decide, rfl⟩) (by exact ⟨by with_reducible rfl, by omega, by decide⟩) (by exact e5) ?_
  refine E_retI d_TM_image_17 rfl ?_
  exact ⟨rfl, RepA_cg hA hM.w hF, hX1⟩
theorem sp_TM_back {c d : Cr} {M : Mem} (hM : HM c M) (hd : RepA d (mI M 2)) (hw : Wf d) (hT : RepT d.texts (mI M 3)) : E 1 0 0 Y_TM_back 0 [some (.ref 0)] [] GM M (QI GM fun r M' => r = nI d.now.round ∧ HM d M' ∧ Sx S01 M M') := by
  have hR := hM.R
  first | refine E_aload_n d_TM_back_0 rfl ?_ | refine E_aload_nN d_TM_back_0 rfl ?_
  refine E_getR (q := 2) d_TM_back_1 gf_TM_13 (by exact ⟨by decide, rfl⟩) (by exact hR _ rfl) ?_
  first | refine E_aload_n d_TM_back_4 rfl ?_ | refine E_aload_nN d_TM_back_4 rfl ?_
  refine E_getR (q := 1) d_TM_back_5 gf_TM_7 (by exact ⟨by decide, rfl⟩) (by exact hR _ rfl) ?_
  refine E_S2 (sp_TM_copy (s := 2) (t := 1) ⟨by decide, rfl⟩ ⟨by decide, rfl⟩ (by decide)) d_TM_back_8 ml_TM_65 cb_TM_copy cs_TM_copy ⟨by decide, by decide⟩ rfl (Nat.le_of_ble_eq_true rfl) (Nat.le_of_ble_eq_true rfl) (kV fun M1 hc => ?_)
  obtain ⟨hX1, hF⟩ := hc
  have hR1 := hR.sx hX1
  have e5 : mI M1 1 5 = nI d.now.round := by rw [hF 5 (by decide)]; exact hd.round
  first | refine E_aload_n d_TM_back_11 rfl ?_ | refine E_aload_nN d_TM_back_11 rfl ?_
  refine E_getR (q := 1) d_TM_back_12 gf_TM_7 (by exact ⟨by decide, rfl⟩) (by exact hR1 _ rfl) ?_
  refine E_iconst (v := nI 5) d_TM_back_15 rfl ?_
  refine E_iald d_TM_back_16 (by exact ⟨by decide, rfl⟩) (by exact ⟨by with_reducible rfl, by omega, by decide⟩) (by exact e5) ?_
  refine E_retI d_TM_back_17 rfl ?_
  exact ⟨rfl, ⟨hR1, RepA_cg hd hw hF, by rw [(hX1.2 3 (by decide)).1]; exact hT, hw⟩, hX1⟩
