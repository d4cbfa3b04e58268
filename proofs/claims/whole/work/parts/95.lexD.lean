section EVS
variable {d b bs : Nat} {Y : MI} {pc : Nat} {ls : List (Option Value)} {st : List Value} {G : Geo} {M : Mem} {Q : Option Value → Geo → Mem → Prop}
theorem E_VS0 {idx i d' : Nat} {Y' : MI} {ls' : List (Option Value)} {Q' : Option Value → Geo → Mem → Prop} (hi : i < 2) (spec : E d' 0 0 Y' 0 ls' [] G M Q') (hd : decode Y.2.1 pc = .ok (.invokevirtual idx, 3)) (hl : Cond.methodLink Y.1.cls idx Y'.1 ∈ TB) (cb : CB Y' 0) (ct : CVt Y') (hci : Y'.1.cls = "java/lang/String") (hr : rmok d d' Y'.2.2.1)
    (hls : el Y'.2.2.1 (.ref (1000000 + i) :: []) = ls') (hlen : ((Value.ref (1000000 + i) :: []).flatMap el1).length ≤ Y'.2.2.1) (hroom : (st.map fun v => v.category).sum ≤ 8) (kk : ∀ v G' M', Q' v G' M' → E d b bs Y (pc + 3) ls (v.toList ++ st) G' M' Q) : E d b bs Y pc ls (.ref (1000000 + i) :: st) G M Q :=
  E_callVS (As := []) hi hd hl cb ct hci rfl hr hls hlen rfl hroom (by omega) (by omega) spec kk
theorem E_VS1 {idx i d' : Nat} {Y' : MI} {x0 : Value} {ls' : List (Option Value)} {Q' : Option Value → Geo → Mem → Prop} (hi : i < 2) (spec : E d' 0 0 Y' 0 ls' [] G M Q') (hd : decode Y.2.1 pc = .ok (.invokevirtual idx, 3)) (hl : Cond.methodLink Y.1.cls idx Y'.1 ∈ TB) (cb : CB Y' 1) (ct : CVt Y') (hci : Y'.1.cls = "java/lang/String") (hr : rmok d d' Y'.2.2.1)
    (hls : el Y'.2.2.1 (.ref (1000000 + i) :: [x0]) = ls') (hlen : ((Value.ref (1000000 + i) :: [x0]).flatMap el1).length ≤ Y'.2.2.1) (hroom : (st.map fun v => v.category).sum ≤ 8) (kk : ∀ v G' M', Q' v G' M' → E d b bs Y (pc + 3) ls (v.toList ++ st) G' M' Q) : E d b bs Y pc ls (x0 :: .ref (1000000 + i) :: st) G M Q :=
  E_callVS (As := [x0]) hi hd hl cb ct hci rfl hr hls hlen rfl hroom (by omega) (by omega) spec kk
theorem E_VS2 {idx i d' : Nat} {Y' : MI} {x0 x1 : Value} {ls' : List (Option Value)} {Q' : Option Value → Geo → Mem → Prop} (hi : i < 2) (spec : E d' 0 0 Y' 0 ls' [] G M Q') (hd : decode Y.2.1 pc = .ok (.invokevirtual idx, 3)) (hl : Cond.methodLink Y.1.cls idx Y'.1 ∈ TB) (cb : CB Y' 2) (ct : CVt Y') (hci : Y'.1.cls = "java/lang/String") (hr : rmok d d' Y'.2.2.1)
    (hls : el Y'.2.2.1 (.ref (1000000 + i) :: [x0, x1]) = ls') (hlen : ((Value.ref (1000000 + i) :: [x0, x1]).flatMap el1).length ≤ Y'.2.2.1) (hroom : (st.map fun v => v.category).sum ≤ 8) (kk : ∀ v G' M', Q' v G' M' → E d b bs Y (pc + 3) ls (v.toList ++ st) G' M' Q) : E d b bs Y pc ls (x1 :: x0 :: .ref (1000000 + i) :: st) G M Q :=
  E_callVS (As := [x0, x1]) hi hd hl cb ct hci rfl hr hls hlen rfl hroom (by omega) (by omega) spec kk
end EVS
def chL : List Nat := [115, 97, 121, 115, 32, 32, 115, 119, 97, 121, 115, 32, 112, 101, 114, 115, 111, 110, 115, 111, 114, 116, 32, 32, 104, 101, 97, 114, 32, 32, 102, 114, 111, 109, 32, 32, 116, 101, 108, 108, 32, 32, 117, 112, 32, 32, 32, 32, 100, 111, 119, 110, 32, 32, 100, 97, 121, 32, 32, 32, 108, 101, 97, 110, 32, 32, 115, 97, 105, 100, 32, 32, 105, 102, 32, 32, 32, 32, 116, 104, 101, 110, 32, 32, 101, 108, 115, 101, 32, 32, 101, 110, 100, 32, 32, 32, 111, 114, 32, 32, 32, 32, 97, 110, 100, 32, 32, 32, 110, 111, 116, 32, 32, 32, 114, 111, 117, 110, 100, 32, 119, 104, 111, 32, 32, 32, 111, 119, 110, 32, 32, 32, 112, 101, 111, 112, 108, 101, 104, 101, 97, 114, 100, 32, 102, 105, 103, 117, 114, 101, 121, 101, 115, 32, 32, 32]
def chW (i : Nat) : Nat := chL.getD i 0
def mkL : List Nat := [60, 62, 61, 35, 43, 45, 42, 47, 40, 41, 59]
def mkC (i : Nat) : Nat := mkL.getD i 0
theorem chW_lt : ∀ i, i < 156 → chW i < 128 := by decide +kernel
theorem chW_tb : ∀ i, i < 156 → (strB.getD 0 []).getD i 0 = nI (chW i) := by decide +kernel
theorem mkC_tb : ∀ i, i < 11 → (strB.getD 1 []).getD i 0 = nI (mkC i) := by decide +kernel
theorem chr_tb : ∀ i, i < 128 → ((nI (i &&& 255)).toUInt32 % 65536).toInt32 = nI i := by decide +kernel
theorem byt_tb : ∀ b, b < 256 → (nI b).toInt8.toInt32 = (if b < 128 then nI b else nI b - nI 256) := by decide +kernel
theorem chr_nb : ∀ b, b < 256 → ((nI b).toUInt32 % 65536).toInt32 = nI b := by decide +kernel
section STR
variable {G : Geo} {M : Mem}
theorem sp_JP_checkIndex {i n : Nat} {v : Value} (h : i < n) (hn : n < 2147483648) : E 0 0 0 Y_JP_checkIndex 0 [some (.int (nI i)), some (.int (nI n)), some (v)] [] G M (QI G fun r M' => r = nI i ∧ M' = M) := by
  refine E_iload_n d_JP_checkIndex_0 rfl ?_
  first | (with_reducible refine E_isN1 ?_; refine E_if_lt 9 d_JP_checkIndex_1 rfl (nz_lt (by omega) fun h1 => ?_) (nz_nlt (by omega) fun h1 => ?_)) | refine E_if_lt 9 d_JP_checkIndex_1 rfl (fun h1 => ?_) (fun h1 => ?_)
  · exfalso; omega
  refine E_iload_n d_JP_checkIndex_4 rfl ?_
  refine E_iload_n d_JP_checkIndex_5 rfl ?_
  first | (with_reducible refine E_isN2 ?_; refine E_icmp_lt 16 d_JP_checkIndex_6 rfl (nb_lt (by omega) (by omega) fun h6 => ?_) (nb_nlt (by omega) (by omega) fun h6 => ?_)) | refine E_icmp_lt 16 d_JP_checkIndex_6 rfl (fun h6 => ?_) (fun h6 => ?_)
  rotate_left
  · exfalso; omega
  refine E_iload_n d_JP_checkIndex_16 rfl ?_
  refine E_retI d_JP_checkIndex_17 rfl ?_
  exact ⟨rfl, rfl⟩
theorem sp_JS_checkIndex {i n : Nat} (h : i < n) (hn : n < 2147483648) : E 1 0 0 Y_JS_checkIndex 0 [some (.int (nI i)), some (.int (nI n))] [] G M (QV G fun M' => M' = M) := by
  have K : ∀ v : Value, (v = .null ∨ v = .ref 3000000) → E 1 0 0 Y_JS_checkIndex 5 [some (.int (nI i)), some (.int (nI n))] [v, .int (nI n), .int (nI i)] G M (QV G fun M' => M' = M) := by
    rintro v (rfl | rfl)
    · refine E_S3 (sp_JP_checkIndex h hn) d_JS_checkIndex_5 ml_JS_1059 cb_JP_checkIndex cs_JP_checkIndex ⟨by decide, by decide⟩ rfl (Nat.le_of_ble_eq_true rfl) (Nat.le_of_ble_eq_true rfl) (kI fun r1 M1 hc => ?_)
      obtain ⟨rfl, rfl⟩ := hc
      refine E_pop d_JS_checkIndex_8 rfl ?_
      refine E_retV d_JS_checkIndex_9 rfl ?_
      rfl
    · refine E_S3 (sp_JP_checkIndex h hn) d_JS_checkIndex_5 ml_JS_1059 cb_JP_checkIndex cs_JP_checkIndex ⟨by decide, by decide⟩ rfl (Nat.le_of_ble_eq_true rfl) (Nat.le_of_ble_eq_true rfl) (kI fun r1 M1 hc => ?_)
      obtain ⟨rfl, rfl⟩ := hc
      refine E_pop d_JS_checkIndex_8 rfl ?_
      refine E_retV d_JS_checkIndex_9 rfl ?_
      rfl
  refine E_iload_n d_JS_checkIndex_0 rfl ?_
  refine E_iload_n d_JS_checkIndex_1 rfl ?_
  refine E_getsF d_JS_checkIndex_2 fl_JS_1053 (fun v0 hv0 => ?_)
  exact K v0 hv0
theorem sp_JL_charAt {i : Nat} (h : i < 156) : E 2 0 0 Y_JL_charAt 0 [some (.ref (2000000 + 0)), some (.int (nI i))] [] G M (QI G fun r M' => r = nI (chW i) ∧ M' = M) := by
  have hc := chW_lt i h
  have et := chr_tb (chW i) hc
  have hv := chW_tb i h
  have hl : Int32.ofNat (strN.getD 0 0) = nI 156 := rfl
  have K : E 2 0 0 Y_JL_charAt 6 [some (.ref (2000000 + 0)), some (.int (nI i))] [] G M (QI G fun r M' => r = nI (chW i) ∧ M' = M) := by
    refine E_aload_n d_JL_charAt_6 rfl ?_
    refine E_iload_n d_JL_charAt_7 rfl ?_
    refine E_strB (by decide) d_JL_charAt_8 (j := i) ⟨by with_reducible rfl, by show i < 156; omega, by decide⟩ hv ?_
    refine E_sipush (v := nI 255) d_JL_charAt_9 (by decide) ?_
    first | (with_reducible refine E_isN2 ?_; refine E_iandN d_JL_charAt_12 ?_) | refine E_iand d_JL_charAt_12 ?_
    refine E_i2c d_JL_charAt_13 ?_
    rw [et]
    refine E_tret d_JL_charAt_14 rfl (by have e9 : narrow .char (.int (nI (chW i))) = .int ((nI (chW i)).toUInt32 % 65536).toInt32 := rfl; rw [e9, ← et]; have e8 := chr_tb (chW i) hc; rw [et]; have e7 := chr_nb (chW i) (by omega); rw [e7]) ⟨rfl, _, rfl, ?_⟩
    exact ⟨rfl, rfl⟩
  refine E_iload_n d_JL_charAt_0 rfl ?_
  first | refine E_aload_n d_JL_charAt_1 rfl ?_ | refine E_aload_nN d_JL_charAt_1 rfl ?_
  refine E_strL (by decide) d_JL_charAt_2 rfl ?_
  refine E_S2 (sp_JS_checkIndex (n := 156) h (by decide)) d_JL_charAt_3 ml_JL_9 cb_JS_checkIndex cs_JS_checkIndex ⟨by decide, by decide⟩ rfl (Nat.le_of_ble_eq_true rfl) (Nat.le_of_ble_eq_true rfl) (kV fun M1 hc => ?_)
  subst hc
  exact K
theorem sp_JS_isLatin1W : E 0 0 0 Y_JS_isLatin1 0 [some (.ref (1000000 + 0))] [] G M (QI G fun r M' => r = 1 ∧ M' = M) := by
  refine E_getsC d_JS_isLatin1_0 fl_JS_38 ?_
  first | (with_reducible refine E_isP ?_; refine E_if_eq 17 d_JS_isLatin1_3 rfl (pb_0 fun h3 => ?_) (pb_1 fun h3 => ?_)) | (with_reducible refine E_isN1 ?_; refine E_if_eq 17 d_JS_isLatin1_3 rfl (nz_eq (by omega) fun h3 => ?_) (nz_ne fun h3 => ?_)) | refine E_if_eq 17 d_JS_isLatin1_3 rfl (fun h3 => ?_) (fun h3 => ?_)
  · exfalso; exact absurd h3 (by decide)
  first | refine E_aload_n d_JS_isLatin1_6 rfl ?_ | refine E_aload_nN d_JS_isLatin1_6 rfl ?_
  refine E_strC (by decide) d_JS_isLatin1_7 fl_JS_15 ?_
  first | (with_reducible refine E_isP ?_; refine E_if_ne 17 d_JS_isLatin1_10 rfl (pb_1 fun h10 => ?_) (pb_0 fun h10 => ?_)) | (with_reducible refine E_isN1 ?_; refine E_if_ne 17 d_JS_isLatin1_10 rfl (nz_ne fun h10 => ?_) (nz_eq (by omega) fun h10 => ?_)) | refine E_if_ne 17 d_JS_isLatin1_10 rfl (fun h10 => ?_) (fun h10 => ?_)
  · exfalso; exact absurd rfl h10
  refine E_iconst (v := nI 1) d_JS_isLatin1_13 rfl ?_
  refine E_goto 18 d_JS_isLatin1_14 rfl ?_
  refine E_retZ d_JS_isLatin1_18 rfl (by decide) ?_
  exact ⟨rfl, rfl⟩
theorem sp_JS_isLatin1M : E 0 0 0 Y_JS_isLatin1 0 [some (.ref (1000000 + 1))] [] G M (QI G fun r M' => r = 1 ∧ M' = M) := by
  refine E_getsC d_JS_isLatin1_0 fl_JS_38 ?_
  first | (with_reducible refine E_isP ?_; refine E_if_eq 17 d_JS_isLatin1_3 rfl (pb_0 fun h3 => ?_) (pb_1 fun h3 => ?_)) | (with_reducible refine E_isN1 ?_; refine E_if_eq 17 d_JS_isLatin1_3 rfl (nz_eq (by omega) fun h3 => ?_) (nz_ne fun h3 => ?_)) | refine E_if_eq 17 d_JS_isLatin1_3 rfl (fun h3 => ?_) (fun h3 => ?_)
  · exfalso; exact absurd h3 (by decide)
  first | refine E_aload_n d_JS_isLatin1_6 rfl ?_ | refine E_aload_nN d_JS_isLatin1_6 rfl ?_
  refine E_strC (by decide) d_JS_isLatin1_7 fl_JS_15 ?_
  first | (with_reducible refine E_isP ?_; refine E_if_ne 17 d_JS_isLatin1_10 rfl (pb_1 fun h10 => ?_) (pb_0 fun h10 => ?_)) | (with_reducible refine E_isN1 ?_; refine E_if_ne 17 d_JS_isLatin1_10 rfl (nz_ne fun h10 => ?_) (nz_eq (by omega) fun h10 => ?_)) | refine E_if_ne 17 d_JS_isLatin1_10 rfl (fun h10 => ?_) (fun h10 => ?_)
  · exfalso; exact absurd rfl h10
  refine E_iconst (v := nI 1) d_JS_isLatin1_13 rfl ?_
  refine E_goto 18 d_JS_isLatin1_14 rfl ?_
  refine E_retZ d_JS_isLatin1_18 rfl (by decide) ?_
  exact ⟨rfl, rfl⟩
theorem sp_JS_coderW : E 0 0 0 Y_JS_coder 0 [some (.ref (1000000 + 0))] [] G M (QI G fun r M' => r = 0 ∧ M' = M) := by
  refine E_getsC d_JS_coder_0 fl_JS_38 ?_
  first | (with_reducible refine E_isP ?_; refine E_if_eq 13 d_JS_coder_3 rfl (pb_0 fun h3 => ?_) (pb_1 fun h3 => ?_)) | (with_reducible refine E_isN1 ?_; refine E_if_eq 13 d_JS_coder_3 rfl (nz_eq (by omega) fun h3 => ?_) (nz_ne fun h3 => ?_)) | refine E_if_eq 13 d_JS_coder_3 rfl (fun h3 => ?_) (fun h3 => ?_)
  · exfalso; exact absurd h3 (by decide)
  first | refine E_aload_n d_JS_coder_6 rfl ?_ | refine E_aload_nN d_JS_coder_6 rfl ?_
  refine E_strC (by decide) d_JS_coder_7 fl_JS_15 ?_
  refine E_goto 14 d_JS_coder_10 rfl ?_
  refine E_tret d_JS_coder_14 rfl (by rfl) ⟨rfl, _, rfl, ?_⟩
  exact ⟨rfl, rfl⟩
theorem sp_JS_coderM : E 0 0 0 Y_JS_coder 0 [some (.ref (1000000 + 1))] [] G M (QI G fun r M' => r = 0 ∧ M' = M) := by
  refine E_getsC d_JS_coder_0 fl_JS_38 ?_
  first | (with_reducible refine E_isP ?_; refine E_if_eq 13 d_JS_coder_3 rfl (pb_0 fun h3 => ?_) (pb_1 fun h3 => ?_)) | (with_reducible refine E_isN1 ?_; refine E_if_eq 13 d_JS_coder_3 rfl (nz_eq (by omega) fun h3 => ?_) (nz_ne fun h3 => ?_)) | refine E_if_eq 13 d_JS_coder_3 rfl (fun h3 => ?_) (fun h3 => ?_)
  · exfalso; exact absurd h3 (by decide)
  first | refine E_aload_n d_JS_coder_6 rfl ?_ | refine E_aload_nN d_JS_coder_6 rfl ?_
  refine E_strC (by decide) d_JS_coder_7 fl_JS_15 ?_
  refine E_goto 14 d_JS_coder_10 rfl ?_
  refine E_tret d_JS_coder_14 rfl (by rfl) ⟨rfl, _, rfl, ?_⟩
  exact ⟨rfl, rfl⟩
theorem sp_JS_lengthW : E 1 0 0 Y_JS_length 0 [some (.ref (1000000 + 0))] [] G M (QI G fun r M' => r = nI 156 ∧ M' = M) := by
  first | refine E_aload_n d_JS_length_0 rfl ?_ | refine E_aload_nN d_JS_length_0 rfl ?_
  refine E_strV (by decide) d_JS_length_1 fl_JS_9 ?_
  refine E_strL (by decide) d_JS_length_4 rfl ?_
  first | refine E_aload_n d_JS_length_5 rfl ?_ | refine E_aload_nN d_JS_length_5 rfl ?_
  refine E_VS0 (by decide) (sp_JS_coderW) d_JS_length_6 ml_JS_335 cb_JS_coder cv_JS_coder rfl ⟨by decide, by decide⟩ rfl (Nat.le_of_ble_eq_true rfl) (Nat.le_of_ble_eq_true rfl) (kI fun r1 M1 hc => ?_)
  obtain ⟨rfl, rfl⟩ := hc
  first | (with_reducible refine E_isN2 ?_; refine E_ishrN d_JS_length_9 (by omega) (by omega) ?_) | refine E_ishr d_JS_length_9 ?_
  refine E_retI d_JS_length_10 rfl ?_
  exact ⟨by decide +kernel, rfl⟩
theorem sp_JS_lengthM : E 1 0 0 Y_JS_length 0 [some (.ref (1000000 + 1))] [] G M (QI G fun r M' => r = nI 11 ∧ M' = M) := by
  first | refine E_aload_n d_JS_length_0 rfl ?_ | refine E_aload_nN d_JS_length_0 rfl ?_
  refine E_strV (by decide) d_JS_length_1 fl_JS_9 ?_
  refine E_strL (by decide) d_JS_length_4 rfl ?_
  first | refine E_aload_n d_JS_length_5 rfl ?_ | refine E_aload_nN d_JS_length_5 rfl ?_
  refine E_VS0 (by decide) (sp_JS_coderM) d_JS_length_6 ml_JS_335 cb_JS_coder cv_JS_coder rfl ⟨by decide, by decide⟩ rfl (Nat.le_of_ble_eq_true rfl) (Nat.le_of_ble_eq_true rfl) (kI fun r1 M1 hc => ?_)
  obtain ⟨rfl, rfl⟩ := hc
  first | (with_reducible refine E_isN2 ?_; refine E_ishrN d_JS_length_9 (by omega) (by omega) ?_) | refine E_ishr d_JS_length_9 ?_
  refine E_retI d_JS_length_10 rfl ?_
  exact ⟨by decide +kernel, rfl⟩
theorem sp_JS_charAt {i : Nat} (h : i < 156) : E 4 0 0 Y_JS_charAt 0 [some (.ref (1000000 + 0)), some (.int (nI i))] [] G M (QI G fun r M' => r = nI (chW i) ∧ M' = M) := by
  have hc := chW_lt i h
  first | refine E_aload_n d_JS_charAt_0 rfl ?_ | refine E_aload_nN d_JS_charAt_0 rfl ?_
  refine E_VS0 (by decide) (sp_JS_isLatin1W) d_JS_charAt_1 ml_JS_492 cb_JS_isLatin1 cv_JS_isLatin1 rfl ⟨by decide, by decide⟩ rfl (Nat.le_of_ble_eq_true rfl) (Nat.le_of_ble_eq_true rfl) (kI fun r1 M1 hc => ?_)
  obtain ⟨rfl, rfl⟩ := hc
  first | (with_reducible refine E_isP ?_; refine E_if_eq 16 d_JS_charAt_4 rfl (pb_0 fun h4 => ?_) (pb_1 fun h4 => ?_)) | (with_reducible refine E_isN1 ?_; refine E_if_eq 16 d_JS_charAt_4 rfl (nz_eq (by omega) fun h4 => ?_) (nz_ne fun h4 => ?_)) | refine E_if_eq 16 d_JS_charAt_4 rfl (fun h4 => ?_) (fun h4 => ?_)
  · exfalso; exact absurd h4 (by decide)
  first | refine E_aload_n d_JS_charAt_7 rfl ?_ | refine E_aload_nN d_JS_charAt_7 rfl ?_
  refine E_strV (by decide) d_JS_charAt_8 fl_JS_9 ?_
  refine E_iload_n d_JS_charAt_11 rfl ?_
  refine E_S2 (sp_JL_charAt h) d_JS_charAt_12 ml_JS_495 cb_JL_charAt cs_JL_charAt ⟨by decide, by decide⟩ rfl (Nat.le_of_ble_eq_true rfl) (Nat.le_of_ble_eq_true rfl) (kI fun r1 M1 hc => ?_)
  obtain ⟨rfl, rfl⟩ := hc
  refine E_tret d_JS_charAt_15 rfl (by have e7 := chr_nb (chW i) (by omega); have e9 : narrow .char (.int (nI (chW i))) = .int ((nI (chW i)).toUInt32 % 65536).toInt32 := rfl; rw [e9, e7]) ⟨rfl, _, rfl, ?_⟩
  exact ⟨rfl, rfl⟩
def mIx (b : Nat) : Int32 := if mkS b = 41 then -1 else nI (mkS b - 28)
theorem mk_hit : ∀ j, j < 11 → mkS (mkC j) = 28 + j := by decide +kernel
theorem mk_byt : ∀ j, j < 11 → ∀ b, b < 256 → ((nI (mkC j) = (nI b).toInt8.toInt32) ↔ mkC j = b) := by
  have hm : ∀ j, j < 11 → mkC j < 128 := by decide +kernel
  intro j hj b hb
  have h1 := hm j hj
  rw [byt_tb b hb]
  by_cases q : b < 128
  · rw [if_pos q]
    exact ⟨fun e => nI_inj (by omega) (by omega) e, fun e => by rw [e]⟩
  · rw [if_neg q]
    constructor
    · intro e
      have e2 := congrArg Int32.toInt e
      rw [nI_toInt (by omega), nI_sub_toInt (by omega) (by omega)] at e2
      omega
    · intro e; omega
theorem mk_miss {b : Nat} (h : ∀ j, j < 11 → mkC j ≠ b) : mkS b = 41 := by
  have a0 : 60 ≠ b := h 0 (by decide)
  have a1 : 62 ≠ b := h 1 (by decide)
  have a2 : 61 ≠ b := h 2 (by decide)
  have a3 : 35 ≠ b := h 3 (by decide)
  have a4 : 43 ≠ b := h 4 (by decide)
  have a5 : 45 ≠ b := h 5 (by decide)
  have a6 : 42 ≠ b := h 6 (by decide)
  have a7 : 47 ≠ b := h 7 (by decide)
  have a8 : 40 ≠ b := h 8 (by decide)
  have a9 : 41 ≠ b := h 9 (by decide)
  have a10 : 59 ≠ b := h 10 (by decide)
  unfold mkS
  repeat' split
  all_goals omega
theorem sp_JL_indexOfChar {b : Nat} (hb : b < 256) : E 0 0 0 Y_JL_indexOfChar 0 [some (.ref (2000000 + 1)), some (.int (nI b)), some (.int (nI 0)), some (.int (nI 11)), none, none] [] G M (QI G fun r M' => r = mIx b ∧ M' = M) := by
  have L : ∀ k j, j + k = 11 → (∀ t, t < j → mkC t ≠ b) → E 0 0 0 Y_JL_indexOfChar 7 [some (.ref (2000000 + 1)), some (.int (nI b)), some (.int (nI 0)), some (.int (nI 11)), some (.int (nI b).toInt8.toInt32), some (.int (nI j))] [] G M (QI G fun r M' => r = mIx b ∧ M' = M) := by
    intro k
    induction k with
    | zero =>
      intro j hj h
      have e : j = 11 := by omega
      subst e
      have em : -1 = mIx b := by unfold mIx; rw [if_pos (mk_miss h)]
      refine E_iload d_JL_indexOfChar_7 rfl ?_
      refine E_iload_n d_JL_indexOfChar_9 rfl ?_
      first | (with_reducible refine E_isN2 ?_; refine E_icmp_ge 31 d_JL_indexOfChar_10 rfl (nb_le (by omega) (by omega) fun h10 => ?_) (nb_nle (by omega) (by omega) fun h10 => ?_)) | refine E_icmp_ge 31 d_JL_indexOfChar_10 rfl (fun h10 => ?_) (fun h10 => ?_)
      rotate_left
      · exfalso; omega
      refine E_iconst (v := (-1)) d_JL_indexOfChar_31 rfl ?_
      refine E_retI d_JL_indexOfChar_32 rfl ?_
      exact ⟨em, rfl⟩
    | succ k ih =>
      intro j hj h
      have hv := mkC_tb j (by omega)
      have hbb := mk_byt j (by omega) b hb
      have K : E 0 0 0 Y_JL_indexOfChar 13 [some (.ref (2000000 + 1)), some (.int (nI b)), some (.int (nI 0)), some (.int (nI 11)), some (.int (nI b).toInt8.toInt32), some (.int (nI j))] [] G M (QI G fun r M' => r = mIx b ∧ M' = M) := by
        refine E_aload_n d_JL_indexOfChar_13 rfl ?_
        refine E_iload d_JL_indexOfChar_14 rfl ?_
        refine E_strB (by decide) d_JL_indexOfChar_16 (j := j) ⟨by with_reducible rfl, by show j < 11; omega, by decide⟩ hv ?_
        have k1 : mkC j = b → nI j = mIx b := fun e => by
          have := mk_hit j (by omega)
          rw [e] at this
          unfold mIx
          rw [if_neg (by omega), this]
          congr 1
          omega
        refine E_iload d_JL_indexOfChar_17 rfl ?_
        first | (with_reducible refine E_isN2 ?_; refine E_icmp_ne 25 d_JL_indexOfChar_19 rfl (nb_ne fun h19 => ?_) (nb_eq (by omega) (by omega) fun h19 => ?_)) | refine E_icmp_ne 25 d_JL_indexOfChar_19 rfl (fun h19 => ?_) (fun h19 => ?_)
        · first | (with_reducible refine E_isL5 ?_; refine E_iincN5 (m := 1) d_JL_indexOfChar_25 rfl rfl ?_) | refine E_iinc_5 d_JL_indexOfChar_25 rfl rfl ?_
          refine E_goto 7 d_JL_indexOfChar_28 rfl ?_
          exact ih (j + 1) (by omega) (fun t ht e => by rcases Nat.lt_or_ge t j with q | q; exact h t q e; exact h19 (hbb.mpr (by rw [show j = t by omega]; exact e)))
        · refine E_iload d_JL_indexOfChar_22 rfl ?_
          refine E_retI d_JL_indexOfChar_24 rfl ?_
          exact ⟨k1 (hbb.mp (h19)), rfl⟩
      refine E_iload d_JL_indexOfChar_7 rfl ?_
      refine E_iload_n d_JL_indexOfChar_9 rfl ?_
      first | (with_reducible refine E_isN2 ?_; refine E_icmp_ge 31 d_JL_indexOfChar_10 rfl (nb_le (by omega) (by omega) fun h10 => ?_) (nb_nle (by omega) (by omega) fun h10 => ?_)) | refine E_icmp_ge 31 d_JL_indexOfChar_10 rfl (fun h10 => ?_) (fun h10 => ?_)
      · exfalso; omega
      exact K
  refine E_iload_n d_JL_indexOfChar_0 rfl ?_
  refine E_i2b d_JL_indexOfChar_1 ?_
  refine E_istore_4 d_JL_indexOfChar_2 rfl ?_
  refine E_iload_n d_JL_indexOfChar_4 rfl ?_
  refine E_istore_5 d_JL_indexOfChar_5 rfl ?_
  exact L 11 0 (by decide) (fun t ht => absurd ht (Nat.not_lt_zero t))
theorem sp_JL_canEncode {b : Nat} (hb : b < 256) : E 0 0 0 Y_JL_canEncode 0 [some (.int (nI b))] [] G M (QI G fun r M' => r = 1 ∧ M' = M) := by
  refine E_iload_n d_JL_canEncode_0 rfl ?_
  first | (with_reducible refine E_isN1 ?_; refine E_if_lt 15 d_JL_canEncode_1 rfl (nz_lt (by omega) fun h1 => ?_) (nz_nlt (by omega) fun h1 => ?_)) | refine E_if_lt 15 d_JL_canEncode_1 rfl (fun h1 => ?_) (fun h1 => ?_)
  · exfalso; omega
  refine E_iload_n d_JL_canEncode_4 rfl ?_
  refine E_sipush (v := nI 255) d_JL_canEncode_5 (by decide) ?_
  first | (with_reducible refine E_isN2 ?_; refine E_icmp_gt 15 d_JL_canEncode_8 rfl (nb_lt (by omega) (by omega) fun h8 => ?_) (nb_nlt (by omega) (by omega) fun h8 => ?_)) | refine E_icmp_gt 15 d_JL_canEncode_8 rfl (fun h8 => ?_) (fun h8 => ?_)
  · exfalso; omega
  refine E_iconst (v := nI 1) d_JL_canEncode_11 rfl ?_
  refine E_goto 16 d_JL_canEncode_12 rfl ?_
  refine E_retZ d_JL_canEncode_16 rfl (by decide) ?_
  exact ⟨rfl, rfl⟩
theorem sp_JL_indexOf {b : Nat} (hb : b < 256) : E 1 0 0 Y_JL_indexOf 0 [some (.ref (2000000 + 1)), some (.int (nI b)), some (.int (nI 0)), some (.int (nI 11))] [] G M (QI G fun r M' => r = mIx b ∧ M' = M) := by
  refine E_iload_n d_JL_indexOf_0 rfl ?_
  refine E_S1 (sp_JL_canEncode hb) d_JL_indexOf_1 ml_JL_88 cb_JL_canEncode cs_JL_canEncode ⟨by decide, by decide⟩ rfl (Nat.le_of_ble_eq_true rfl) (Nat.le_of_ble_eq_true rfl) (kI fun r1 M1 hc => ?_)
  obtain ⟨rfl, rfl⟩ := hc
  first | (with_reducible refine E_isP ?_; refine E_if_ne 9 d_JL_indexOf_4 rfl (pb_1 fun h4 => ?_) (pb_0 fun h4 => ?_)) | (with_reducible refine E_isN1 ?_; refine E_if_ne 9 d_JL_indexOf_4 rfl (nz_ne fun h4 => ?_) (nz_eq (by omega) fun h4 => ?_)) | refine E_if_ne 9 d_JL_indexOf_4 rfl (fun h4 => ?_) (fun h4 => ?_)
  rotate_left
  · exfalso; exact absurd h4 (by decide)
  refine E_iload_n d_JL_indexOf_9 rfl ?_
  refine E_iconst (v := nI 0) d_JL_indexOf_10 rfl ?_
  refine E_maxI d_JL_indexOf_11 ml_JL_92 (by decide) (Nat.le_of_ble_eq_true rfl) ?_
  rw [show (if nI 0 < nI 0 then nI 0 else nI 0) = nI 0 from by decide]
  refine E_istore_2 d_JL_indexOf_14 rfl ?_
  refine E_iload_n d_JL_indexOf_15 rfl ?_
  first | refine E_aload_n d_JL_indexOf_16 rfl ?_ | refine E_aload_nN d_JL_indexOf_16 rfl ?_
  refine E_strL (by decide) d_JL_indexOf_17 rfl ?_
  refine E_minI d_JL_indexOf_18 ml_JL_38 (by decide) (Nat.le_of_ble_eq_true rfl) ?_
  rw [show (if Int32.ofNat (strN.getD 1 0) < nI 11 then Int32.ofNat (strN.getD 1 0) else nI 11) = nI 11 from by decide]
  refine E_istore_3 d_JL_indexOf_21 rfl ?_
  refine E_iload_n d_JL_indexOf_22 rfl ?_
  refine E_iload_n d_JL_indexOf_23 rfl ?_
  first | (with_reducible refine E_isN2 ?_; refine E_icmp_lt 29 d_JL_indexOf_24 rfl (nb_lt (by omega) (by omega) fun h24 => ?_) (nb_nlt (by omega) (by omega) fun h24 => ?_)) | refine E_icmp_lt 29 d_JL_indexOf_24 rfl (fun h24 => ?_) (fun h24 => ?_)
  rotate_left
  · exfalso; omega
  first | refine E_aload_n d_JL_indexOf_29 rfl ?_ | refine E_aload_nN d_JL_indexOf_29 rfl ?_
  refine E_iload_n d_JL_indexOf_30 rfl ?_
  refine E_iload_n d_JL_indexOf_31 rfl ?_
  refine E_iload_n d_JL_indexOf_32 rfl ?_
  refine E_S4 (sp_JL_indexOfChar hb) d_JL_indexOf_33 ml_JL_95 cb_JL_indexOfChar cs_JL_indexOfChar ⟨by decide, by decide⟩ rfl (Nat.le_of_ble_eq_true rfl) (Nat.le_of_ble_eq_true rfl) (kI fun r1 M1 hc => ?_)
  obtain ⟨rfl, rfl⟩ := hc
  refine E_retI d_JL_indexOf_36 rfl ?_
  exact ⟨rfl, rfl⟩
theorem sp_JS_indexOf_II {b : Nat} (hb : b < 256) : E 5 0 0 Y_JS_indexOf_II 0 [some (.ref (1000000 + 1)), some (.int (nI b)), some (.int (nI 0))] [] G M (QI G fun r M' => r = mIx b ∧ M' = M) := by
  first | refine E_aload_n d_JS_indexOf_II_0 rfl ?_ | refine E_aload_nN d_JS_indexOf_II_0 rfl ?_
  refine E_VS0 (by decide) (sp_JS_isLatin1M) d_JS_indexOf_II_1 ml_JS_492 cb_JS_isLatin1 cv_JS_isLatin1 rfl ⟨by decide, by decide⟩ rfl (Nat.le_of_ble_eq_true rfl) (Nat.le_of_ble_eq_true rfl) (kI fun r1 M1 hc => ?_)
  obtain ⟨rfl, rfl⟩ := hc
  first | (with_reducible refine E_isP ?_; refine E_if_eq 23 d_JS_indexOf_II_4 rfl (pb_0 fun h4 => ?_) (pb_1 fun h4 => ?_)) | (with_reducible refine E_isN1 ?_; refine E_if_eq 23 d_JS_indexOf_II_4 rfl (nz_eq (by omega) fun h4 => ?_) (nz_ne fun h4 => ?_)) | refine E_if_eq 23 d_JS_indexOf_II_4 rfl (fun h4 => ?_) (fun h4 => ?_)
  · exfalso; exact absurd h4 (by decide)
  first | refine E_aload_n d_JS_indexOf_II_7 rfl ?_ | refine E_aload_nN d_JS_indexOf_II_7 rfl ?_
  refine E_strV (by decide) d_JS_indexOf_II_8 fl_JS_9 ?_
  refine E_iload_n d_JS_indexOf_II_11 rfl ?_
  refine E_iload_n d_JS_indexOf_II_12 rfl ?_
  first | refine E_aload_n d_JS_indexOf_II_13 rfl ?_ | refine E_aload_nN d_JS_indexOf_II_13 rfl ?_
  refine E_VS0 (by decide) (sp_JS_lengthM) d_JS_indexOf_II_14 ml_JS_505 cb_JS_length cv_JS_length rfl ⟨by decide, by decide⟩ rfl (Nat.le_of_ble_eq_true rfl) (Nat.le_of_ble_eq_true rfl) (kI fun r1 M1 hc => ?_)
  obtain ⟨rfl, rfl⟩ := hc
  refine E_S4 (sp_JL_indexOf hb) d_JS_indexOf_II_17 ml_JS_637 cb_JL_indexOf cs_JL_indexOf ⟨by decide, by decide⟩ rfl (Nat.le_of_ble_eq_true rfl) (Nat.le_of_ble_eq_true rfl) (kI fun r1 M1 hc => ?_)
  obtain ⟨rfl, rfl⟩ := hc
  refine E_goto 36 d_JS_indexOf_II_20 rfl ?_
  refine E_retI d_JS_indexOf_II_36 rfl ?_
  exact ⟨rfl, rfl⟩
theorem sp_JS_indexOf {b : Nat} (hb : b < 256) : E 6 0 0 Y_JS_indexOf_I 0 [some (.ref (1000000 + 1)), some (.int (nI b))] [] G M (QI G fun r M' => r = mIx b ∧ M' = M) := by
  first | refine E_aload_n d_JS_indexOf_I_0 rfl ?_ | refine E_aload_nN d_JS_indexOf_I_0 rfl ?_
  refine E_iload_n d_JS_indexOf_I_1 rfl ?_
  refine E_iconst (v := nI 0) d_JS_indexOf_I_2 rfl ?_
  refine E_VS2 (by decide) (sp_JS_indexOf_II hb) d_JS_indexOf_I_3 ml_JS_633 cb_JS_indexOf_II cv_JS_indexOf_II rfl ⟨by decide, by decide⟩ rfl (Nat.le_of_ble_eq_true rfl) (Nat.le_of_ble_eq_true rfl) (kI fun r1 M1 hc => ?_)
  obtain ⟨rfl, rfl⟩ := hc
  refine E_retI d_JS_indexOf_I_6 rfl ?_
  exact ⟨rfl, rfl⟩
end STR
