def colN (k : Nat) (e : Nat × Nat × Nat) : Nat := if k = 0 then e.1 else if k = 1 then e.2.1 else e.2.2
def bkAt (c : Cr) (i : Nat) : Nat × Nat × Nat := c.now.book.getD i (0, 0, 0)
def ans_book (c : Cr) (x y : Int32) : Int32 := if x = -1 then nI c.now.book.length else if inN x c.now.book.length ∧ inN y 3 then nI (colN (tN y) (bkAt c (tN x))) else -2
def ans_ledger (c : Cr) (x : Int32) : Int32 := if inN x 9 then nI (cnt (fun i => decide ((bkAt c i).2.2 = tN x)) c.now.book.length) else -2
def ans_changes (c : Cr) : Int32 := nI (cnt (fun i => !decide ((bkAt c i).2.1 = (bkAt c i).2.2)) c.now.book.length)
theorem Wf.bk {c : Cr} (h : Wf c) {i : Nat} (hi : i < c.now.book.length) : (bkAt c i).1 ≤ 9999 ∧ (bkAt c i).2.1 ≤ 8 ∧ (bkAt c i).2.2 ≤ 8 := h.mo.2.2.2.2.2.2.2 _ (getD_mem hi)
theorem sp_TM_lineOf {c : Cr} {M : Mem} {i k : Nat} (hM : HM c M) (hi : i < c.now.book.length) (hk : k < 3) : E 0 0 0 Y_TM_lineOf 0 [some (.ref 0), some (.int (nI i)), some (.int (nI k)), none] [] GM M (QI GM fun r M' => r = nI (colN k (bkAt c i)) ∧ M' = M) := by
  have hR := hM.R
  have hA := hM.A
  have hb := hM.w.book
  have he := hM.w.bk hi
  have e0 : enB (c.now.book.getD i (0, 0, 0)) = ((bkAt c i).1 * 9 + (bkAt c i).2.1) * 9 + (bkAt c i).2.2 := rfl
  have e : colN k (bkAt c i) = if k = 0 then (bkAt c i).1 else if k = 1 then (bkAt c i).2.1 else (bkAt c i).2.2 := rfl
  have hbk := hA.book hi
  rw [e0] at hbk
  revert hbk e he
  generalize (bkAt c i).1 = a1
  generalize (bkAt c i).2.1 = a2
  generalize (bkAt c i).2.2 = a3
  intro he e hbk
  rw [e]
  first | refine E_aload_n d_TM_lineOf_0 rfl ?_ | refine E_aload_nN d_TM_lineOf_0 rfl ?_
  refine E_getR (q := 1) d_TM_lineOf_1 gf_TM_7 (by exact ⟨by decide, rfl⟩) (by exact hR _ rfl) ?_
  refine E_sipush (v := nI 1405) d_TM_lineOf_4 (by decide) ?_
  refine E_iload_n d_TM_lineOf_7 rfl ?_
  first | (with_reducible refine E_isN2 ?_; refine E_iaddN d_TM_lineOf_8 ?_) | refine E_iadd d_TM_lineOf_8 ?_
  refine E_iald d_TM_lineOf_9 (by exact ⟨by decide, rfl⟩) (by exact ⟨by with_reducible rfl, by omega, by decide⟩) (by exact hbk) ?_
  refine E_istore_3 d_TM_lineOf_10 rfl ?_
  refine E_iload_n d_TM_lineOf_11 rfl ?_
  first | (with_reducible refine E_isP ?_; refine E_if_ne 22 d_TM_lineOf_12 rfl (pb_1 fun h12 => ?_) (pb_0 fun h12 => ?_)) | (with_reducible refine E_isN1 ?_; refine E_if_ne 22 d_TM_lineOf_12 rfl (nz_ne fun h12 => ?_) (nz_eq (by omega) fun h12 => ?_)) | refine E_if_ne 22 d_TM_lineOf_12 rfl (fun h12 => ?_) (fun h12 => ?_)
  · refine E_iload_n d_TM_lineOf_22 rfl ?_
    refine E_iconst (v := nI 1) d_TM_lineOf_23 rfl ?_
    first | (with_reducible refine E_isN2 ?_; refine E_icmp_ne 37 d_TM_lineOf_24 rfl (nb_ne fun h24 => ?_) (nb_eq (by omega) (by omega) fun h24 => ?_)) | refine E_icmp_ne 37 d_TM_lineOf_24 rfl (fun h24 => ?_) (fun h24 => ?_)
    · refine E_iload_n d_TM_lineOf_37 rfl ?_
      refine E_bipush (v := nI 9) d_TM_lineOf_38 (by decide) ?_
      first | (with_reducible refine E_isN2 ?_; refine E_iremN d_TM_lineOf_40 (by omega) (by omega) (by omega) ?_) | refine E_irem d_TM_lineOf_40 (by decide) ?_
      refine E_retI d_TM_lineOf_41 rfl ?_
      first | exact ⟨by rw [if_pos (by assumption)]; congr 1; omega, rfl⟩ | exact ⟨by rw [if_neg (by assumption), if_pos (by assumption)]; congr 1; omega, rfl⟩ | exact ⟨by rw [if_neg (by assumption), if_neg (by assumption)]; congr 1; omega, rfl⟩
    · refine E_iload_n d_TM_lineOf_27 rfl ?_
      refine E_bipush (v := nI 9) d_TM_lineOf_28 (by decide) ?_
      first | (with_reducible refine E_isN2 ?_; refine E_idivN d_TM_lineOf_30 (by omega) (by omega) (by omega) ?_) | refine E_idiv d_TM_lineOf_30 (by decide) ?_
      refine E_bipush (v := nI 9) d_TM_lineOf_31 (by decide) ?_
      first | (with_reducible refine E_isN2 ?_; refine E_iremN d_TM_lineOf_33 (by omega) (by omega) (by omega) ?_) | refine E_irem d_TM_lineOf_33 (by decide) ?_
      refine E_goto 41 d_TM_lineOf_34 rfl ?_
      refine E_retI d_TM_lineOf_41 rfl ?_
      first | exact ⟨by rw [if_pos (by assumption)]; congr 1; omega, rfl⟩ | exact ⟨by rw [if_neg (by assumption), if_pos (by assumption)]; congr 1; omega, rfl⟩ | exact ⟨by rw [if_neg (by assumption), if_neg (by assumption)]; congr 1; omega, rfl⟩
  · refine E_iload_n d_TM_lineOf_15 rfl ?_
    refine E_bipush (v := nI 81) d_TM_lineOf_16 (by decide) ?_
    first | (with_reducible refine E_isN2 ?_; refine E_idivN d_TM_lineOf_18 (by omega) (by omega) (by omega) ?_) | refine E_idiv d_TM_lineOf_18 (by decide) ?_
    refine E_goto 41 d_TM_lineOf_19 rfl ?_
    refine E_retI d_TM_lineOf_41 rfl ?_
    first | exact ⟨by rw [if_pos (by assumption)]; congr 1; omega, rfl⟩ | exact ⟨by rw [if_neg (by assumption), if_pos (by assumption)]; congr 1; omega, rfl⟩ | exact ⟨by rw [if_neg (by assumption), if_neg (by assumption)]; congr 1; omega, rfl⟩
theorem sp_TM_book {c : Cr} {M : Mem} (hM : HM c M) (x y : Int32) : E 1 0 0 Y_TM_book 0 [some (.ref 0), some (.int x), some (.int y)] [] GM M (QI GM fun r M' => r = ans_book c x y ∧ M' = M) := by
  have hR := hM.R
  have hA := hM.A
  have hb := hM.w.book
  by_cases h1 : x = -1
  · refine E_iload_n d_TM_book_0 rfl ?_
    refine E_iconst (v := (-1)) d_TM_book_1 rfl ?_
    first | (with_reducible refine E_isN2 ?_; refine E_icmp_ne 13 d_TM_book_2 rfl (nb_ne fun h2 => ?_) (nb_eq (by omega) (by omega) fun h2 => ?_)) | refine E_icmp_ne 13 d_TM_book_2 rfl (fun h2 => ?_) (fun h2 => ?_)
    · exfalso; exact h2 h1
    first | refine E_aload_n d_TM_book_5 rfl ?_ | refine E_aload_nN d_TM_book_5 rfl ?_
    refine E_getR (q := 1) d_TM_book_6 gf_TM_7 (by exact ⟨by decide, rfl⟩) (by exact hR _ rfl) ?_
    refine E_bipush (v := nI 8) d_TM_book_9 (by decide) ?_
    refine E_iald d_TM_book_11 (by exact ⟨by decide, rfl⟩) (by exact ⟨by with_reducible rfl, by omega, by decide⟩) (by first | exact hA.people | exact hA.written | exact hA.figure | exact hA.book (by omega) | exact hN _ (by omega) | rfl) ?_
    refine E_retI d_TM_book_12 rfl ?_
    exact ⟨by rw [ans_book, if_pos h1], rfl⟩
  · have e : ans_book c x y = if inN x c.now.book.length ∧ inN y 3 then nI (colN (tN y) (bkAt c (tN x))) else -2 := if_neg h1
    rw [e]
    clear e
    revert h1
    revert x y
    refine args2 c.now.book.length 3 (fun i k hi hx ht hk hy ht2 h1 => ?_) (fun x y hx h1 => ?_) (fun x y hx hy h1 => ?_)
    · have hxx := isIn_p (x := nI i) (n := c.now.book.length) (by omega)
      refine E_iload_n d_TM_book_0 rfl ?_
      refine E_iconst (v := (-1)) d_TM_book_1 rfl ?_
      first | (with_reducible refine E_isN2 ?_; refine E_icmp_ne 13 d_TM_book_2 rfl (nb_ne fun h2 => ?_) (nb_eq (by omega) (by omega) fun h2 => ?_)) | refine E_icmp_ne 13 d_TM_book_2 rfl (fun h2 => ?_) (fun h2 => ?_)
      rotate_left
      · exfalso; exact h1 h2
      refine E_iload_n d_TM_book_13 rfl ?_
      refine E_iconst (v := nI 0) d_TM_book_14 rfl ?_
      first | refine E_aload_n d_TM_book_15 rfl ?_ | refine E_aload_nN d_TM_book_15 rfl ?_
      refine E_getR (q := 1) d_TM_book_16 gf_TM_7 (by exact ⟨by decide, rfl⟩) (by exact hR _ rfl) ?_
      refine E_bipush (v := nI 8) d_TM_book_19 (by decide) ?_
      refine E_iald d_TM_book_21 (by exact ⟨by decide, rfl⟩) (by exact ⟨by with_reducible rfl, by omega, by decide⟩) (by first | exact hA.people | exact hA.written | exact hA.figure | exact hA.book (by omega) | exact hN _ (by omega) | rfl) ?_
      refine E_iconst (v := nI 1) d_TM_book_22 rfl ?_
      first | (with_reducible refine E_isN2 ?_; refine E_isubN d_TM_book_23 (by omega) ?_) | refine E_isub d_TM_book_23 ?_
      refine E_S3 (sp_TM_isIn _ _ _) d_TM_book_24 ml_TM_69 cb_TM_isIn cs_TM_isIn ⟨by decide, by decide⟩ rfl (Nat.le_of_ble_eq_true rfl) (Nat.le_of_ble_eq_true rfl) (kI fun r1 M1 hc => ?_)
      obtain ⟨rfl, rfl⟩ := hc
      first | (with_reducible refine E_isP ?_; refine E_if_eq 48 d_TM_book_27 rfl (pb_0 fun h27 => ?_) (pb_1 fun h27 => ?_)) | (with_reducible refine E_isN1 ?_; refine E_if_eq 48 d_TM_book_27 rfl (nz_eq (by omega) fun h27 => ?_) (nz_ne fun h27 => ?_)) | refine E_if_eq 48 d_TM_book_27 rfl (fun h27 => ?_) (fun h27 => ?_)
      · exfalso; exact h27 (by first | exact hxx.mpr hx | (rw [pk_sub (by omega)] at hxx; exact hxx.mpr hx))
      refine E_iload_n d_TM_book_30 rfl ?_
      refine E_iconst (v := nI 0) d_TM_book_31 rfl ?_
      refine E_iconst (v := nI 2) d_TM_book_32 rfl ?_
      refine E_S3 (sp_TM_in _ 2 (by decide)) d_TM_book_33 ml_TM_69 cb_TM_isIn cs_TM_isIn ⟨by decide, by decide⟩ rfl (Nat.le_of_ble_eq_true rfl) (Nat.le_of_ble_eq_true rfl) (kI fun r1 M1 hc => ?_)
      obtain ⟨rfl, rfl⟩ := hc
      first | (with_reducible refine E_isP ?_; refine E_if_eq 48 d_TM_book_36 rfl (pb_0 fun h36 => ?_) (pb_1 fun h36 => ?_)) | (with_reducible refine E_isN1 ?_; refine E_if_eq 48 d_TM_book_36 rfl (nz_eq (by omega) fun h36 => ?_) (nz_ne fun h36 => ?_)) | refine E_if_eq 48 d_TM_book_36 rfl (fun h36 => ?_) (fun h36 => ?_)
      · exfalso; exact h36 hy
      first | refine E_aload_n d_TM_book_39 rfl ?_ | refine E_aload_nN d_TM_book_39 rfl ?_
      refine E_iload_n d_TM_book_40 rfl ?_
      refine E_iload_n d_TM_book_41 rfl ?_
      refine E_V2 (sp_TM_lineOf hM hi hk) d_TM_book_42 ml_TM_344 cb_TM_lineOf cv_TM_lineOf (by exact ⟨by decide, rfl⟩) ⟨by decide, rfl⟩ ⟨by decide, by decide⟩ rfl (Nat.le_of_ble_eq_true rfl) (Nat.le_of_ble_eq_true rfl) (kI fun r1 M1 hc => ?_)
      obtain ⟨rfl, rfl⟩ := hc
      refine E_goto 50 d_TM_book_45 rfl ?_
      refine E_retI d_TM_book_50 rfl ?_
      exact ⟨by rw [if_pos ⟨hx, hy⟩, ht, ht2], rfl⟩
    · have hxx := isIn_p (x := x) (n := c.now.book.length) (by omega)
      refine E_iload_n d_TM_book_0 rfl ?_
      refine E_iconst (v := (-1)) d_TM_book_1 rfl ?_
      first | (with_reducible refine E_isN2 ?_; refine E_icmp_ne 13 d_TM_book_2 rfl (nb_ne fun h2 => ?_) (nb_eq (by omega) (by omega) fun h2 => ?_)) | refine E_icmp_ne 13 d_TM_book_2 rfl (fun h2 => ?_) (fun h2 => ?_)
      rotate_left
      · exfalso; exact h1 h2
      refine E_iload_n d_TM_book_13 rfl ?_
      refine E_iconst (v := nI 0) d_TM_book_14 rfl ?_
      first | refine E_aload_n d_TM_book_15 rfl ?_ | refine E_aload_nN d_TM_book_15 rfl ?_
      refine E_getR (q := 1) d_TM_book_16 gf_TM_7 (by exact ⟨by decide, rfl⟩) (by exact hR _ rfl) ?_
      refine E_bipush (v := nI 8) d_TM_book_19 (by decide) ?_
      refine E_iald d_TM_book_21 (by exact ⟨by decide, rfl⟩) (by exact ⟨by with_reducible rfl, by omega, by decide⟩) (by first | exact hA.people | exact hA.written | exact hA.figure | exact hA.book (by omega) | exact hN _ (by omega) | rfl) ?_
      refine E_iconst (v := nI 1) d_TM_book_22 rfl ?_
      first | (with_reducible refine E_isN2 ?_; refine E_isubN d_TM_book_23 (by omega) ?_) | refine E_isub d_TM_book_23 ?_
      refine E_S3 (sp_TM_isIn _ _ _) d_TM_book_24 ml_TM_69 cb_TM_isIn cs_TM_isIn ⟨by decide, by decide⟩ rfl (Nat.le_of_ble_eq_true rfl) (Nat.le_of_ble_eq_true rfl) (kI fun r1 M1 hc => ?_)
      obtain ⟨rfl, rfl⟩ := hc
      first | (with_reducible refine E_isP ?_; refine E_if_eq 48 d_TM_book_27 rfl (pb_0 fun h27 => ?_) (pb_1 fun h27 => ?_)) | (with_reducible refine E_isN1 ?_; refine E_if_eq 48 d_TM_book_27 rfl (nz_eq (by omega) fun h27 => ?_) (nz_ne fun h27 => ?_)) | refine E_if_eq 48 d_TM_book_27 rfl (fun h27 => ?_) (fun h27 => ?_)
      rotate_left
      · exfalso; exact hx (hxx.mp h27)
      refine E_bipush (v := (-2)) d_TM_book_48 (by decide) ?_
      refine E_retI d_TM_book_50 rfl ?_
      exact ⟨by rw [if_neg (fun q => hx q.1)], rfl⟩
    · have hxx := isIn_p (x := x) (n := c.now.book.length) (by omega)
      have hlen : 1 ≤ c.now.book.length := by unfold inN at hx; omega
      refine E_iload_n d_TM_book_0 rfl ?_
      refine E_iconst (v := (-1)) d_TM_book_1 rfl ?_
      first | (with_reducible refine E_isN2 ?_; refine E_icmp_ne 13 d_TM_book_2 rfl (nb_ne fun h2 => ?_) (nb_eq (by omega) (by omega) fun h2 => ?_)) | refine E_icmp_ne 13 d_TM_book_2 rfl (fun h2 => ?_) (fun h2 => ?_)
      rotate_left
      · exfalso; exact h1 h2
      refine E_iload_n d_TM_book_13 rfl ?_
      refine E_iconst (v := nI 0) d_TM_book_14 rfl ?_
      first | refine E_aload_n d_TM_book_15 rfl ?_ | refine E_aload_nN d_TM_book_15 rfl ?_
      refine E_getR (q := 1) d_TM_book_16 gf_TM_7 (by exact ⟨by decide, rfl⟩) (by exact hR _ rfl) ?_
      refine E_bipush (v := nI 8) d_TM_book_19 (by decide) ?_
      refine E_iald d_TM_book_21 (by exact ⟨by decide, rfl⟩) (by exact ⟨by with_reducible rfl, by omega, by decide⟩) (by first | exact hA.people | exact hA.written | exact hA.figure | exact hA.book (by omega) | exact hN _ (by omega) | rfl) ?_
      refine E_iconst (v := nI 1) d_TM_book_22 rfl ?_
      first | (with_reducible refine E_isN2 ?_; refine E_isubN d_TM_book_23 (by omega) ?_) | refine E_isub d_TM_book_23 ?_
      refine E_S3 (sp_TM_isIn _ _ _) d_TM_book_24 ml_TM_69 cb_TM_isIn cs_TM_isIn ⟨by decide, by decide⟩ rfl (Nat.le_of_ble_eq_true rfl) (Nat.le_of_ble_eq_true rfl) (kI fun r1 M1 hc => ?_)
      obtain ⟨rfl, rfl⟩ := hc
      first | (with_reducible refine E_isP ?_; refine E_if_eq 48 d_TM_book_27 rfl (pb_0 fun h27 => ?_) (pb_1 fun h27 => ?_)) | (with_reducible refine E_isN1 ?_; refine E_if_eq 48 d_TM_book_27 rfl (nz_eq (by omega) fun h27 => ?_) (nz_ne fun h27 => ?_)) | refine E_if_eq 48 d_TM_book_27 rfl (fun h27 => ?_) (fun h27 => ?_)
      · exfalso; exact h27 (by first | exact hxx.mpr hx | (rw [pk_sub hlen] at hxx; exact hxx.mpr hx))
      refine E_iload_n d_TM_book_30 rfl ?_
      refine E_iconst (v := nI 0) d_TM_book_31 rfl ?_
      refine E_iconst (v := nI 2) d_TM_book_32 rfl ?_
      refine E_S3 (sp_TM_in _ 2 (by decide)) d_TM_book_33 ml_TM_69 cb_TM_isIn cs_TM_isIn ⟨by decide, by decide⟩ rfl (Nat.le_of_ble_eq_true rfl) (Nat.le_of_ble_eq_true rfl) (kI fun r1 M1 hc => ?_)
      obtain ⟨rfl, rfl⟩ := hc
      first | (with_reducible refine E_isP ?_; refine E_if_eq 48 d_TM_book_36 rfl (pb_0 fun h36 => ?_) (pb_1 fun h36 => ?_)) | (with_reducible refine E_isN1 ?_; refine E_if_eq 48 d_TM_book_36 rfl (nz_eq (by omega) fun h36 => ?_) (nz_ne fun h36 => ?_)) | refine E_if_eq 48 d_TM_book_36 rfl (fun h36 => ?_) (fun h36 => ?_)
      rotate_left
      · exfalso; exact hy h36
      refine E_bipush (v := (-2)) d_TM_book_48 (by decide) ?_
      refine E_retI d_TM_book_50 rfl ?_
      exact ⟨by rw [if_neg (fun q => hy q.2)], rfl⟩
theorem lp_TM_ledger {c : Cr} {M : Mem} {v : Nat} (hM : HM c M) (hv : v < 9) : ∀ k i, i + k = c.now.book.length → E 1 0 0 Y_TM_ledger 17 [some (.ref 0), some (.int (nI v)), some (.int (nI (cnt (fun i => decide ((bkAt c i).2.2 = v)) i))), some (.int (nI i))] [] GM M (QI GM fun r M' => r = nI (cnt (fun i => decide ((bkAt c i).2.2 = v)) c.now.book.length) ∧ M' = M) := by
  have hR := hM.R
  have hA := hM.A
  have hb := hM.w.book
  intro k
  induction k with
  | zero =>
    intro i hi
    have hi2 : i = c.now.book.length := by omega
    subst hi2
    refine E_iload_n d_TM_ledger_17 rfl ?_
    first | refine E_aload_n d_TM_ledger_18 rfl ?_ | refine E_aload_nN d_TM_ledger_18 rfl ?_
    refine E_getR (q := 1) d_TM_ledger_19 gf_TM_7 (by exact ⟨by decide, rfl⟩) (by exact hR _ rfl) ?_
    refine E_bipush (v := nI 8) d_TM_ledger_22 (by decide) ?_
    refine E_iald d_TM_ledger_24 (by exact ⟨by decide, rfl⟩) (by exact ⟨by with_reducible rfl, by omega, by decide⟩) (by first | exact hA.people | exact hA.written | exact hA.figure | exact hA.book (by omega) | exact hN _ (by omega) | rfl) ?_
    first | (with_reducible refine E_isN2 ?_; refine E_icmp_ge 52 d_TM_ledger_25 rfl (nb_le (by omega) (by omega) fun h25 => ?_) (nb_nle (by omega) (by omega) fun h25 => ?_)) | refine E_icmp_ge 52 d_TM_ledger_25 rfl (fun h25 => ?_) (fun h25 => ?_)
    rotate_left
    · exfalso; omega
    refine E_iload_n d_TM_ledger_52 rfl ?_
    refine E_retI d_TM_ledger_53 rfl ?_
    exact ⟨rfl, rfl⟩
  | succ k ih =>
    intro i hi
    have he := hM.w.bk (show i < c.now.book.length by omega)
    have e2 : colN 2 (bkAt c i) = (bkAt c i).2.2 := rfl
    have e : cnt (fun i => decide ((bkAt c i).2.2 = v)) (i + 1) = cnt (fun i => decide ((bkAt c i).2.2 = v)) i + (if decide ((bkAt c i).2.2 = v) = true then 1 else 0) := rfl
    refine E_iload_n d_TM_ledger_17 rfl ?_
    first | refine E_aload_n d_TM_ledger_18 rfl ?_ | refine E_aload_nN d_TM_ledger_18 rfl ?_
    refine E_getR (q := 1) d_TM_ledger_19 gf_TM_7 (by exact ⟨by decide, rfl⟩) (by exact hR _ rfl) ?_
    refine E_bipush (v := nI 8) d_TM_ledger_22 (by decide) ?_
    refine E_iald d_TM_ledger_24 (by exact ⟨by decide, rfl⟩) (by exact ⟨by with_reducible rfl, by omega, by decide⟩) (by first | exact hA.people | exact hA.written | exact hA.figure | exact hA.book (by omega) | exact hN _ (by omega) | rfl) ?_
    first | (with_reducible refine E_isN2 ?_; refine E_icmp_ge 52 d_TM_ledger_25 rfl (nb_le (by omega) (by omega) fun h25 => ?_) (nb_nle (by omega) (by omega) fun h25 => ?_)) | refine E_icmp_ge 52 d_TM_ledger_25 rfl (fun h25 => ?_) (fun h25 => ?_)
    · exfalso; omega
    refine E_iload_n d_TM_ledger_28 rfl ?_
    first | refine E_aload_n d_TM_ledger_29 rfl ?_ | refine E_aload_nN d_TM_ledger_29 rfl ?_
    refine E_iload_n d_TM_ledger_30 rfl ?_
    refine E_iconst (v := nI 2) d_TM_ledger_31 rfl ?_
    refine E_V2 (sp_TM_lineOf hM (by omega) (by decide)) d_TM_ledger_32 ml_TM_344 cb_TM_lineOf cv_TM_lineOf (by exact ⟨by decide, rfl⟩) ⟨by decide, rfl⟩ ⟨by decide, by decide⟩ rfl (Nat.le_of_ble_eq_true rfl) (Nat.le_of_ble_eq_true rfl) (kI fun r1 M1 hc => ?_)
    obtain ⟨rfl, rfl⟩ := hc; rw [e2]
    refine E_iload_n d_TM_ledger_35 rfl ?_
    first | (with_reducible refine E_isN2 ?_; refine E_icmp_ne 43 d_TM_ledger_36 rfl (nb_ne fun h36 => ?_) (nb_eq (by omega) (by omega) fun h36 => ?_)) | refine E_icmp_ne 43 d_TM_ledger_36 rfl (fun h36 => ?_) (fun h36 => ?_)
    · refine E_iconst (v := nI 0) d_TM_ledger_43 rfl ?_
      first | (with_reducible refine E_isN2 ?_; refine E_iaddN d_TM_ledger_44 ?_) | refine E_iadd d_TM_ledger_44 ?_
      refine E_istore_2 d_TM_ledger_45 rfl ?_
      first | (with_reducible refine E_isL3 ?_; refine E_iincN3 (m := 1) d_TM_ledger_46 rfl rfl ?_) | refine E_iinc_3 d_TM_ledger_46 rfl rfl ?_
      refine E_goto 17 d_TM_ledger_49 rfl ?_
      refine E_eqL ?_ (ih (i + 1) (by omega))
      rw [e]
      first | rw [if_pos (decide_eq_true h36)] | rw [if_neg (fun q => h36 (of_decide_eq_true q))]
    · refine E_iconst (v := nI 1) d_TM_ledger_39 rfl ?_
      refine E_goto 44 d_TM_ledger_40 rfl ?_
      first | (with_reducible refine E_isN2 ?_; refine E_iaddN d_TM_ledger_44 ?_) | refine E_iadd d_TM_ledger_44 ?_
      refine E_istore_2 d_TM_ledger_45 rfl ?_
      first | (with_reducible refine E_isL3 ?_; refine E_iincN3 (m := 1) d_TM_ledger_46 rfl rfl ?_) | refine E_iinc_3 d_TM_ledger_46 rfl rfl ?_
      refine E_goto 17 d_TM_ledger_49 rfl ?_
      refine E_eqL ?_ (ih (i + 1) (by omega))
      rw [e]
      first | rw [if_pos (decide_eq_true h36)] | rw [if_neg (fun q => h36 (of_decide_eq_true q))]
theorem sp_TM_ledger {c : Cr} {M : Mem} (hM : HM c M) (x : Int32) : E 1 0 0 Y_TM_ledger 0 [some (.ref 0), some (.int x), none, none] [] GM M (QI GM fun r M' => r = ans_ledger c x ∧ M' = M) := by
  revert x
  refine args1 9 (fun v hv hx ht => ?_) (fun x hx => ?_)
  · have e : ans_ledger c (nI v) = nI (cnt (fun i => decide ((bkAt c i).2.2 = v)) c.now.book.length) := by rw [ans_ledger, if_pos hx, ht]
    rw [e]
    refine E_iload_n d_TM_ledger_0 rfl ?_
    refine E_iconst (v := nI 0) d_TM_ledger_1 rfl ?_
    refine E_bipush (v := nI 8) d_TM_ledger_2 (by decide) ?_
    refine E_S3 (sp_TM_in _ 8 (by decide)) d_TM_ledger_4 ml_TM_69 cb_TM_isIn cs_TM_isIn ⟨by decide, by decide⟩ rfl (Nat.le_of_ble_eq_true rfl) (Nat.le_of_ble_eq_true rfl) (kI fun r1 M1 hc => ?_)
    obtain ⟨rfl, rfl⟩ := hc
    first | (with_reducible refine E_isP ?_; refine E_if_ne 13 d_TM_ledger_7 rfl (pb_1 fun h7 => ?_) (pb_0 fun h7 => ?_)) | (with_reducible refine E_isN1 ?_; refine E_if_ne 13 d_TM_ledger_7 rfl (nz_ne fun h7 => ?_) (nz_eq (by omega) fun h7 => ?_)) | refine E_if_ne 13 d_TM_ledger_7 rfl (fun h7 => ?_) (fun h7 => ?_)
    rotate_left
    · exfalso; exact h7 hx
    refine E_iconst (v := nI 0) d_TM_ledger_13 rfl ?_
    refine E_istore_2 d_TM_ledger_14 rfl ?_
    refine E_iconst (v := nI 0) d_TM_ledger_15 rfl ?_
    refine E_istore_3 d_TM_ledger_16 rfl ?_
    exact lp_TM_ledger hM hv c.now.book.length 0 (Nat.zero_add _)
  · refine E_iload_n d_TM_ledger_0 rfl ?_
    refine E_iconst (v := nI 0) d_TM_ledger_1 rfl ?_
    refine E_bipush (v := nI 8) d_TM_ledger_2 (by decide) ?_
    refine E_S3 (sp_TM_in _ 8 (by decide)) d_TM_ledger_4 ml_TM_69 cb_TM_isIn cs_TM_isIn ⟨by decide, by decide⟩ rfl (Nat.le_of_ble_eq_true rfl) (Nat.le_of_ble_eq_true rfl) (kI fun r1 M1 hc => ?_)
    obtain ⟨rfl, rfl⟩ := hc
    first | (with_reducible refine E_isP ?_; refine E_if_ne 13 d_TM_ledger_7 rfl (pb_1 fun h7 => ?_) (pb_0 fun h7 => ?_)) | (with_reducible refine E_isN1 ?_; refine E_if_ne 13 d_TM_ledger_7 rfl (nz_ne fun h7 => ?_) (nz_eq (by omega) fun h7 => ?_)) | refine E_if_ne 13 d_TM_ledger_7 rfl (fun h7 => ?_) (fun h7 => ?_)
    · exfalso; exact hx h7
    refine E_bipush (v := (-2)) d_TM_ledger_10 (by decide) ?_
    refine E_retI d_TM_ledger_12 rfl ?_
    exact ⟨by rw [ans_ledger, if_neg hx], rfl⟩
theorem lp_TM_changes {c : Cr} {M : Mem} (hM : HM c M) : ∀ k i, i + k = c.now.book.length → E 1 0 0 Y_TM_changes 4 [some (.ref 0), some (.int (nI (cnt (fun i => !decide ((bkAt c i).2.1 = (bkAt c i).2.2)) i))), some (.int (nI i))] [] GM M (QI GM fun r M' => r = ans_changes c ∧ M' = M) := by
  have hR := hM.R
  have hA := hM.A
  have hb := hM.w.book
  intro k
  induction k with
  | zero =>
    intro i hi
    have hi2 : i = c.now.book.length := by omega
    subst hi2
    refine E_iload_n d_TM_changes_4 rfl ?_
    first | refine E_aload_n d_TM_changes_5 rfl ?_ | refine E_aload_nN d_TM_changes_5 rfl ?_
    refine E_getR (q := 1) d_TM_changes_6 gf_TM_7 (by exact ⟨by decide, rfl⟩) (by exact hR _ rfl) ?_
    refine E_bipush (v := nI 8) d_TM_changes_9 (by decide) ?_
    refine E_iald d_TM_changes_11 (by exact ⟨by decide, rfl⟩) (by exact ⟨by with_reducible rfl, by omega, by decide⟩) (by first | exact hA.people | exact hA.written | exact hA.figure | exact hA.book (by omega) | exact hN _ (by omega) | rfl) ?_
    first | (with_reducible refine E_isN2 ?_; refine E_icmp_ge 44 d_TM_changes_12 rfl (nb_le (by omega) (by omega) fun h12 => ?_) (nb_nle (by omega) (by omega) fun h12 => ?_)) | refine E_icmp_ge 44 d_TM_changes_12 rfl (fun h12 => ?_) (fun h12 => ?_)
    rotate_left
    · exfalso; omega
    refine E_iload_n d_TM_changes_44 rfl ?_
    refine E_retI d_TM_changes_45 rfl ?_
    exact ⟨rfl, rfl⟩
  | succ k ih =>
    intro i hi
    have he := hM.w.bk (show i < c.now.book.length by omega)
    have e1 : colN 1 (bkAt c i) = (bkAt c i).2.1 := rfl
    have e2 : colN 2 (bkAt c i) = (bkAt c i).2.2 := rfl
    have e : cnt (fun i => !decide ((bkAt c i).2.1 = (bkAt c i).2.2)) (i + 1) = cnt (fun i => !decide ((bkAt c i).2.1 = (bkAt c i).2.2)) i + (if (!decide ((bkAt c i).2.1 = (bkAt c i).2.2)) = true then 1 else 0) := rfl
    refine E_iload_n d_TM_changes_4 rfl ?_
    first | refine E_aload_n d_TM_changes_5 rfl ?_ | refine E_aload_nN d_TM_changes_5 rfl ?_
    refine E_getR (q := 1) d_TM_changes_6 gf_TM_7 (by exact ⟨by decide, rfl⟩) (by exact hR _ rfl) ?_
    refine E_bipush (v := nI 8) d_TM_changes_9 (by decide) ?_
    refine E_iald d_TM_changes_11 (by exact ⟨by decide, rfl⟩) (by exact ⟨by with_reducible rfl, by omega, by decide⟩) (by first | exact hA.people | exact hA.written | exact hA.figure | exact hA.book (by omega) | exact hN _ (by omega) | rfl) ?_
    first | (with_reducible refine E_isN2 ?_; refine E_icmp_ge 44 d_TM_changes_12 rfl (nb_le (by omega) (by omega) fun h12 => ?_) (nb_nle (by omega) (by omega) fun h12 => ?_)) | refine E_icmp_ge 44 d_TM_changes_12 rfl (fun h12 => ?_) (fun h12 => ?_)
    · exfalso; omega
    refine E_iload_n d_TM_changes_15 rfl ?_
    first | refine E_aload_n d_TM_changes_16 rfl ?_ | refine E_aload_nN d_TM_changes_16 rfl ?_
    refine E_iload_n d_TM_changes_17 rfl ?_
    refine E_iconst (v := nI 1) d_TM_changes_18 rfl ?_
    refine E_V2 (sp_TM_lineOf hM (by omega) (by decide)) d_TM_changes_19 ml_TM_344 cb_TM_lineOf cv_TM_lineOf (by exact ⟨by decide, rfl⟩) ⟨by decide, rfl⟩ ⟨by decide, by decide⟩ rfl (Nat.le_of_ble_eq_true rfl) (Nat.le_of_ble_eq_true rfl) (kI fun r1 M1 hc => ?_)
    obtain ⟨rfl, rfl⟩ := hc; rw [e1]
    first | refine E_aload_n d_TM_changes_22 rfl ?_ | refine E_aload_nN d_TM_changes_22 rfl ?_
    refine E_iload_n d_TM_changes_23 rfl ?_
    refine E_iconst (v := nI 2) d_TM_changes_24 rfl ?_
    refine E_V2 (sp_TM_lineOf hM (by omega) (by decide)) d_TM_changes_25 ml_TM_344 cb_TM_lineOf cv_TM_lineOf (by exact ⟨by decide, rfl⟩) ⟨by decide, rfl⟩ ⟨by decide, by decide⟩ rfl (Nat.le_of_ble_eq_true rfl) (Nat.le_of_ble_eq_true rfl) (kI fun r1 M1 hc => ?_)
    obtain ⟨rfl, rfl⟩ := hc; rw [e2]
    first | (with_reducible refine E_isN2 ?_; refine E_icmp_eq 35 d_TM_changes_28 rfl (nb_eq (by omega) (by omega) fun h28 => ?_) (nb_ne fun h28 => ?_)) | refine E_icmp_eq 35 d_TM_changes_28 rfl (fun h28 => ?_) (fun h28 => ?_)
    · refine E_iconst (v := nI 0) d_TM_changes_35 rfl ?_
      first | (with_reducible refine E_isN2 ?_; refine E_iaddN d_TM_changes_36 ?_) | refine E_iadd d_TM_changes_36 ?_
      refine E_istore_1 d_TM_changes_37 rfl ?_
      first | (with_reducible refine E_isL2 ?_; refine E_iincN2 (m := 1) d_TM_changes_38 rfl rfl ?_) | refine E_iinc_2 d_TM_changes_38 rfl rfl ?_
      refine E_goto 4 d_TM_changes_41 rfl ?_
      refine E_eqL ?_ (ih (i + 1) (by omega))
      rw [e]
      first | rw [if_neg (by rw [decide_eq_true h28]; decide)] | rw [if_pos (by rw [decide_eq_false h28]; decide)]
    · refine E_iconst (v := nI 1) d_TM_changes_31 rfl ?_
      refine E_goto 36 d_TM_changes_32 rfl ?_
      first | (with_reducible refine E_isN2 ?_; refine E_iaddN d_TM_changes_36 ?_) | refine E_iadd d_TM_changes_36 ?_
      refine E_istore_1 d_TM_changes_37 rfl ?_
      first | (with_reducible refine E_isL2 ?_; refine E_iincN2 (m := 1) d_TM_changes_38 rfl rfl ?_) | refine E_iinc_2 d_TM_changes_38 rfl rfl ?_
      refine E_goto 4 d_TM_changes_41 rfl ?_
      refine E_eqL ?_ (ih (i + 1) (by omega))
      rw [e]
      first | rw [if_neg (by rw [decide_eq_true h28]; decide)] | rw [if_pos (by rw [decide_eq_false h28]; decide)]
theorem sp_TM_changes {c : Cr} {M : Mem} (hM : HM c M) : E 1 0 0 Y_TM_changes 0 [some (.ref 0), none, none] [] GM M (QI GM fun r M' => r = ans_changes c ∧ M' = M) := by
  refine E_iconst (v := nI 0) d_TM_changes_0 rfl ?_
  refine E_istore_1 d_TM_changes_1 rfl ?_
  refine E_iconst (v := nI 0) d_TM_changes_2 rfl ?_
  refine E_istore_2 d_TM_changes_3 rfl ?_
  exact lp_TM_changes hM c.now.book.length 0 (Nat.zero_add _)
theorem tell1 {x y : Nat} (hx : x ≤ 8) (hy : y < 1000) : (-1 ≤ nI y - nI x ∧ nI y - nI x ≤ nI 1) ↔ ap x y ≤ 1 := by
  rw [le_toInt, le_toInt, pk_sub_toInt (by omega) (by omega), nI_toInt (by decide)]
  have : (-1 : Int32).toInt = -1 := by decide
  rw [this]
  unfold ap
  split <;> omega
theorem sp_TM_canTell {c : Cr} {M : Mem} {x y : Nat} (hM : HM c M) (hx : x ≤ 8) (hy : y < 1000) : E 2 0 0 Y_TM_canTell 0 [some (.ref 0), some (.int (nI x)), some (.int (nI y))] [] GM M (QI GM fun r M' => r = pI (ap x y ≤ 1 ∧ y ≤ c.now.people) ∧ M' = M) := by
  have h1 := tell1 hx hy
  have hb : inN (nI y) (c.now.people + 1) ↔ y < c.now.people + 1 := inN_nI (by omega)
  have e : x ≤ y → nI (y - x) = nI y - nI x := fun h => (pk_sub h).symm
  by_cases hxy : x ≤ y
  · rw [← e hxy] at h1
    refine E_iload_n d_TM_canTell_0 rfl ?_
    refine E_iload_n d_TM_canTell_1 rfl ?_
    first | (with_reducible refine E_isN2 ?_; refine E_isubN d_TM_canTell_2 (by omega) ?_) | refine E_isub d_TM_canTell_2 ?_
    refine E_iconst (v := (-1)) d_TM_canTell_3 rfl ?_
    refine E_iconst (v := nI 1) d_TM_canTell_4 rfl ?_
    refine E_S3 (sp_TM_isIn _ _ _) d_TM_canTell_5 ml_TM_69 cb_TM_isIn cs_TM_isIn ⟨by decide, by decide⟩ rfl (Nat.le_of_ble_eq_true rfl) (Nat.le_of_ble_eq_true rfl) (kI fun r1 M1 hc => ?_)
    obtain ⟨rfl, rfl⟩ := hc
    first | (with_reducible refine E_isP ?_; refine E_if_eq 23 d_TM_canTell_8 rfl (pb_0 fun h8 => ?_) (pb_1 fun h8 => ?_)) | (with_reducible refine E_isN1 ?_; refine E_if_eq 23 d_TM_canTell_8 rfl (nz_eq (by omega) fun h8 => ?_) (nz_ne fun h8 => ?_)) | refine E_if_eq 23 d_TM_canTell_8 rfl (fun h8 => ?_) (fun h8 => ?_)
    · refine E_iconst (v := nI 0) d_TM_canTell_23 rfl ?_
      refine E_retZ d_TM_canTell_24 rfl (by first | exact pI_01 _ | decide) ?_
      first | exact ⟨(pI_t ⟨h1.mp h8, Nat.le_of_lt_succ (hb.mp h16)⟩).symm, rfl⟩ | exact ⟨(pI_f (fun q => h16 (hb.mpr (Nat.lt_succ_of_le q.2)))).symm, rfl⟩ | exact ⟨(pI_f (fun q => h8 (h1.mpr q.1))).symm, rfl⟩
    · first | refine E_aload_n d_TM_canTell_11 rfl ?_ | refine E_aload_nN d_TM_canTell_11 rfl ?_
      refine E_iload_n d_TM_canTell_12 rfl ?_
      refine E_V1 (sp_TM_canBeTold hM.R hM.A hM.w _) d_TM_canTell_13 ml_TM_311 cb_TM_canBeTold cv_TM_canBeTold (by exact ⟨by decide, rfl⟩) ⟨by decide, rfl⟩ ⟨by decide, by decide⟩ rfl (Nat.le_of_ble_eq_true rfl) (Nat.le_of_ble_eq_true rfl) (kI fun r1 M1 hc => ?_)
      obtain ⟨rfl, rfl⟩ := hc
      first | (with_reducible refine E_isP ?_; refine E_if_eq 23 d_TM_canTell_16 rfl (pb_0 fun h16 => ?_) (pb_1 fun h16 => ?_)) | (with_reducible refine E_isN1 ?_; refine E_if_eq 23 d_TM_canTell_16 rfl (nz_eq (by omega) fun h16 => ?_) (nz_ne fun h16 => ?_)) | refine E_if_eq 23 d_TM_canTell_16 rfl (fun h16 => ?_) (fun h16 => ?_)
      · refine E_iconst (v := nI 0) d_TM_canTell_23 rfl ?_
        refine E_retZ d_TM_canTell_24 rfl (by first | exact pI_01 _ | decide) ?_
        first | exact ⟨(pI_t ⟨h1.mp h8, Nat.le_of_lt_succ (hb.mp h16)⟩).symm, rfl⟩ | exact ⟨(pI_f (fun q => h16 (hb.mpr (Nat.lt_succ_of_le q.2)))).symm, rfl⟩ | exact ⟨(pI_f (fun q => h8 (h1.mpr q.1))).symm, rfl⟩
      · refine E_iconst (v := nI 1) d_TM_canTell_19 rfl ?_
        refine E_goto 24 d_TM_canTell_20 rfl ?_
        refine E_retZ d_TM_canTell_24 rfl (by first | exact pI_01 _ | decide) ?_
        first | exact ⟨(pI_t ⟨h1.mp h8, Nat.le_of_lt_succ (hb.mp h16)⟩).symm, rfl⟩ | exact ⟨(pI_f (fun q => h16 (hb.mpr (Nat.lt_succ_of_le q.2)))).symm, rfl⟩ | exact ⟨(pI_f (fun q => h8 (h1.mpr q.1))).symm, rfl⟩
  · refine E_iload_n d_TM_canTell_0 rfl ?_
    refine E_iload_n d_TM_canTell_1 rfl ?_
    first | (with_reducible refine E_isN2 ?_; refine E_isubN d_TM_canTell_2 (by omega) ?_) | refine E_isub d_TM_canTell_2 ?_
    refine E_iconst (v := (-1)) d_TM_canTell_3 rfl ?_
    refine E_iconst (v := nI 1) d_TM_canTell_4 rfl ?_
    refine E_S3 (sp_TM_isIn _ _ _) d_TM_canTell_5 ml_TM_69 cb_TM_isIn cs_TM_isIn ⟨by decide, by decide⟩ rfl (Nat.le_of_ble_eq_true rfl) (Nat.le_of_ble_eq_true rfl) (kI fun r1 M1 hc => ?_)
    obtain ⟨rfl, rfl⟩ := hc
    first | (with_reducible refine E_isP ?_; refine E_if_eq 23 d_TM_canTell_8 rfl (pb_0 fun h8 => ?_) (pb_1 fun h8 => ?_)) | (with_reducible refine E_isN1 ?_; refine E_if_eq 23 d_TM_canTell_8 rfl (nz_eq (by omega) fun h8 => ?_) (nz_ne fun h8 => ?_)) | refine E_if_eq 23 d_TM_canTell_8 rfl (fun h8 => ?_) (fun h8 => ?_)
    · refine E_iconst (v := nI 0) d_TM_canTell_23 rfl ?_
      refine E_retZ d_TM_canTell_24 rfl (by first | exact pI_01 _ | decide) ?_
      first | exact ⟨(pI_t ⟨h1.mp h8, Nat.le_of_lt_succ (hb.mp h16)⟩).symm, rfl⟩ | exact ⟨(pI_f (fun q => h16 (hb.mpr (Nat.lt_succ_of_le q.2)))).symm, rfl⟩ | exact ⟨(pI_f (fun q => h8 (h1.mpr q.1))).symm, rfl⟩
    · first | refine E_aload_n d_TM_canTell_11 rfl ?_ | refine E_aload_nN d_TM_canTell_11 rfl ?_
      refine E_iload_n d_TM_canTell_12 rfl ?_
      refine E_V1 (sp_TM_canBeTold hM.R hM.A hM.w _) d_TM_canTell_13 ml_TM_311 cb_TM_canBeTold cv_TM_canBeTold (by exact ⟨by decide, rfl⟩) ⟨by decide, rfl⟩ ⟨by decide, by decide⟩ rfl (Nat.le_of_ble_eq_true rfl) (Nat.le_of_ble_eq_true rfl) (kI fun r1 M1 hc => ?_)
      obtain ⟨rfl, rfl⟩ := hc
      first | (with_reducible refine E_isP ?_; refine E_if_eq 23 d_TM_canTell_16 rfl (pb_0 fun h16 => ?_) (pb_1 fun h16 => ?_)) | (with_reducible refine E_isN1 ?_; refine E_if_eq 23 d_TM_canTell_16 rfl (nz_eq (by omega) fun h16 => ?_) (nz_ne fun h16 => ?_)) | refine E_if_eq 23 d_TM_canTell_16 rfl (fun h16 => ?_) (fun h16 => ?_)
      · refine E_iconst (v := nI 0) d_TM_canTell_23 rfl ?_
        refine E_retZ d_TM_canTell_24 rfl (by first | exact pI_01 _ | decide) ?_
        first | exact ⟨(pI_t ⟨h1.mp h8, Nat.le_of_lt_succ (hb.mp h16)⟩).symm, rfl⟩ | exact ⟨(pI_f (fun q => h16 (hb.mpr (Nat.lt_succ_of_le q.2)))).symm, rfl⟩ | exact ⟨(pI_f (fun q => h8 (h1.mpr q.1))).symm, rfl⟩
      · refine E_iconst (v := nI 1) d_TM_canTell_19 rfl ?_
        refine E_goto 24 d_TM_canTell_20 rfl ?_
        refine E_retZ d_TM_canTell_24 rfl (by first | exact pI_01 _ | decide) ?_
        first | exact ⟨(pI_t ⟨h1.mp h8, Nat.le_of_lt_succ (hb.mp h16)⟩).symm, rfl⟩ | exact ⟨(pI_f (fun q => h16 (hb.mpr (Nat.lt_succ_of_le q.2)))).symm, rfl⟩ | exact ⟨(pI_f (fun q => h8 (h1.mpr q.1))).symm, rfl⟩
def gS (mx : Bool) (b v : Nat) : Nat := if b = 0 ∨ (if mx = true then b < v + 1 else v + 1 < b) then v + 1 else b
def gmB (mx : Bool) (v : Nat → Nat) (f : Nat) : Nat → Nat
  | 0 => 0
  | t + 1 => if ap f t ≤ 1 then gS mx (gmB mx v f t) (v t) else gmB mx v f t
def gamA (c : Cr) (n : Nat) : Nat → Nat → Nat
  | 0, f => f
  | j + 1, f => gmB (decide ((n - (j + 1)) % 2 = 0)) (fun t => gamA c n j (cm c t)) f (c.now.people + 1) - 1
def ans_game (c : Cr) (x : Int32) : Int32 := if inN x 9 then nI (gamA c (tN x) (tN x) c.now.figure) else -1
def ans_choice (c : Cr) (x : Int32) : Int32 := if inN x 9 ∧ tN x ≠ 0 then nI (findP (fun t => decide (ap c.now.figure t ≤ 1) && decide (gamA c (tN x) (tN x - 1) (cm c t) = gamA c (tN x) (tN x) c.now.figure)) (c.now.people + 1) 0) else -1
