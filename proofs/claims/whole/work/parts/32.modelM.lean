def lbN (w : Nat) : Nat → Nat → Nat
  | 0, a => a
  | n + 1, a => lbN w n a * 10 % w
def findP (P : Nat → Bool) : Nat → Nat → Nat
  | 0, n => n
  | k + 1, n => if P n = true then n else findP P k (n + 1)
def lenN (w a : Nat) : Nat := findP (fun l => decide (lbN w l (lbN w 99 a) = lbN w 99 a)) 99 1
def startN (w a : Nat) : Nat := findP (fun s => decide (lbN w s a = lbN w (s + lenN w a) a)) 100 0
def ans_decimal (x y z : Int32) : Int32 := if (inN y 100 ∧ inN x (tN y)) ∧ inN z 1000 then nI (lbN (tN y) (tN z) (tN x) * 10 / tN y) else -1
def ans_decimals (x y z : Int32) : Int32 := if inN y 100 ∧ inN x (tN y) then (if z = 0 then nI (startN (tN y) (tN x)) else nI (lenN (tN y) (tN x))) else -1
theorem sp_TM_isPart {G : Geo} {M : Mem} (x y : Int32) : E 1 0 0 Y_TM_isPart 0 [some (.int x), some (.int y)] [] G M (QI G fun r M' => r = pI (inN y 100 ∧ inN x (tN y)) ∧ M' = M) := by
  have h99 : (nI 1 ≤ y ∧ y ≤ nI 99) ↔ (1 ≤ y.toInt ∧ y.toInt ≤ 99) := isIn_lh (by decide) (by decide)
  revert h99
  revert y
  refine args1 100 (fun w hw hy ht h99 => ?_) (fun y hy h99 => ?_)
  · rw [nI_toInt (by omega)] at h99
    by_cases h0 : w = 0
    · subst h0
      refine E_iload_n d_TM_isPart_0 rfl ?_
      refine E_iconst (v := nI 1) d_TM_isPart_1 rfl ?_
      refine E_bipush (v := nI 99) d_TM_isPart_2 (by decide) ?_
      refine E_S3 (sp_TM_isIn _ _ _) d_TM_isPart_4 ml_TM_69 cb_TM_isIn cs_TM_isIn ⟨by decide, by decide⟩ rfl (Nat.le_of_ble_eq_true rfl) (Nat.le_of_ble_eq_true rfl) (kI fun r1 M1 hc => ?_)
      obtain ⟨rfl, rfl⟩ := hc
      first | (with_reducible refine E_isP ?_; refine E_if_eq 25 d_TM_isPart_7 rfl (pb_0 fun h7 => ?_) (pb_1 fun h7 => ?_)) | (with_reducible refine E_isN1 ?_; refine E_if_eq 25 d_TM_isPart_7 rfl (nz_eq (by omega) fun h7 => ?_) (nz_ne fun h7 => ?_)) | refine E_if_eq 25 d_TM_isPart_7 rfl (fun h7 => ?_) (fun h7 => ?_)
      rotate_left
      · exfalso; have := h99.mp h7; omega
      refine E_iconst (v := nI 0) d_TM_isPart_25 rfl ?_
      refine E_retZ d_TM_isPart_26 rfl (by first | exact pI_01 _ | decide) ?_
      exact ⟨(pI_f (fun q => by have := q.2; rw [ht] at this; unfold inN at this; omega)).symm, rfl⟩
    · have hx := isIn_0 (x := x) (n := w - 1) (by omega)
      rw [Nat.sub_add_cancel (by omega)] at hx
      refine E_iload_n d_TM_isPart_0 rfl ?_
      refine E_iconst (v := nI 1) d_TM_isPart_1 rfl ?_
      refine E_bipush (v := nI 99) d_TM_isPart_2 (by decide) ?_
      refine E_S3 (sp_TM_isIn _ _ _) d_TM_isPart_4 ml_TM_69 cb_TM_isIn cs_TM_isIn ⟨by decide, by decide⟩ rfl (Nat.le_of_ble_eq_true rfl) (Nat.le_of_ble_eq_true rfl) (kI fun r1 M1 hc => ?_)
      obtain ⟨rfl, rfl⟩ := hc
      first | (with_reducible refine E_isP ?_; refine E_if_eq 25 d_TM_isPart_7 rfl (pb_0 fun h7 => ?_) (pb_1 fun h7 => ?_)) | (with_reducible refine E_isN1 ?_; refine E_if_eq 25 d_TM_isPart_7 rfl (nz_eq (by omega) fun h7 => ?_) (nz_ne fun h7 => ?_)) | refine E_if_eq 25 d_TM_isPart_7 rfl (fun h7 => ?_) (fun h7 => ?_)
      · exfalso; exact h7 (h99.mpr ⟨by omega, by omega⟩)
      refine E_iload_n d_TM_isPart_10 rfl ?_
      refine E_iconst (v := nI 0) d_TM_isPart_11 rfl ?_
      refine E_iload_n d_TM_isPart_12 rfl ?_
      refine E_iconst (v := nI 1) d_TM_isPart_13 rfl ?_
      first | (with_reducible refine E_isN2 ?_; refine E_isubN d_TM_isPart_14 (by omega) ?_) | refine E_isub d_TM_isPart_14 ?_
      refine E_S3 (sp_TM_isIn _ _ _) d_TM_isPart_15 ml_TM_69 cb_TM_isIn cs_TM_isIn ⟨by decide, by decide⟩ rfl (Nat.le_of_ble_eq_true rfl) (Nat.le_of_ble_eq_true rfl) (kI fun r1 M1 hc => ?_)
      obtain ⟨rfl, rfl⟩ := hc
      first | (with_reducible refine E_isP ?_; refine E_if_eq 25 d_TM_isPart_18 rfl (pb_0 fun h18 => ?_) (pb_1 fun h18 => ?_)) | (with_reducible refine E_isN1 ?_; refine E_if_eq 25 d_TM_isPart_18 rfl (nz_eq (by omega) fun h18 => ?_) (nz_ne fun h18 => ?_)) | refine E_if_eq 25 d_TM_isPart_18 rfl (fun h18 => ?_) (fun h18 => ?_)
      · refine E_iconst (v := nI 0) d_TM_isPart_25 rfl ?_
        refine E_retZ d_TM_isPart_26 rfl (by first | exact pI_01 _ | decide) ?_
        first | exact ⟨(pI_t ⟨hy, by rw [ht]; exact hx.mp h18⟩).symm, rfl⟩ | exact ⟨(pI_f (fun q => h18 (hx.mpr (by rw [← ht]; exact q.2)))).symm, rfl⟩
      · refine E_iconst (v := nI 1) d_TM_isPart_21 rfl ?_
        refine E_goto 26 d_TM_isPart_22 rfl ?_
        refine E_retZ d_TM_isPart_26 rfl (by first | exact pI_01 _ | decide) ?_
        first | exact ⟨(pI_t ⟨hy, by rw [ht]; exact hx.mp h18⟩).symm, rfl⟩ | exact ⟨(pI_f (fun q => h18 (hx.mpr (by rw [← ht]; exact q.2)))).symm, rfl⟩
  · refine E_iload_n d_TM_isPart_0 rfl ?_
    refine E_iconst (v := nI 1) d_TM_isPart_1 rfl ?_
    refine E_bipush (v := nI 99) d_TM_isPart_2 (by decide) ?_
    refine E_S3 (sp_TM_isIn _ _ _) d_TM_isPart_4 ml_TM_69 cb_TM_isIn cs_TM_isIn ⟨by decide, by decide⟩ rfl (Nat.le_of_ble_eq_true rfl) (Nat.le_of_ble_eq_true rfl) (kI fun r1 M1 hc => ?_)
    obtain ⟨rfl, rfl⟩ := hc
    first | (with_reducible refine E_isP ?_; refine E_if_eq 25 d_TM_isPart_7 rfl (pb_0 fun h7 => ?_) (pb_1 fun h7 => ?_)) | (with_reducible refine E_isN1 ?_; refine E_if_eq 25 d_TM_isPart_7 rfl (nz_eq (by omega) fun h7 => ?_) (nz_ne fun h7 => ?_)) | refine E_if_eq 25 d_TM_isPart_7 rfl (fun h7 => ?_) (fun h7 => ?_)
    rotate_left
    · exfalso; have := h99.mp h7; exact hy ⟨by omega, by omega⟩
    refine E_iconst (v := nI 0) d_TM_isPart_25 rfl ?_
    refine E_retZ d_TM_isPart_26 rfl (by first | exact pI_01 _ | decide) ?_
    exact ⟨(pI_f (fun q => hy q.1)).symm, rfl⟩
theorem lbN_lt {w : Nat} (hw : 0 < w) {a : Nat} (ha : a < w) : ∀ n, lbN w n a < w := by
  intro n
  induction n with
  | zero => exact ha
  | succ n ih => exact Nat.mod_lt _ hw
theorem lbN_add (w a m : Nat) : ∀ n, lbN w (n + m) a = lbN w n (lbN w m a) := by
  intro n
  induction n with
  | zero => rw [Nat.zero_add]; rfl
  | succ n ih => rw [Nat.succ_add, lbN, ih, lbN]
theorem lp_TM_left {G : Geo} {M : Mem} {a w n : Nat} (hw : 0 < w) (hw9 : w ≤ 99) (ha : a < w) (hn : n < 2000) : ∀ k i, i + k = n → E 0 0 0 Y_TM_leftBehind 5 [some (.int (nI a)), some (.int (nI w)), some (.int (nI n)), some (.int (nI (lbN w i a))), some (.int (nI i))] [] G M (QI G fun r M' => r = nI (lbN w n a) ∧ M' = M) := by
  intro k
  induction k with
  | zero =>
    intro i hi
    have hi2 : i = n := by omega
    subst hi2
    refine E_iload d_TM_leftBehind_5 rfl ?_
    refine E_iload_n d_TM_leftBehind_7 rfl ?_
    first | (with_reducible refine E_isN2 ?_; refine E_icmp_ge 24 d_TM_leftBehind_8 rfl (nb_le (by omega) (by omega) fun h8 => ?_) (nb_nle (by omega) (by omega) fun h8 => ?_)) | refine E_icmp_ge 24 d_TM_leftBehind_8 rfl (fun h8 => ?_) (fun h8 => ?_)
    rotate_left
    · exfalso; omega
    refine E_iload_n d_TM_leftBehind_24 rfl ?_
    refine E_retI d_TM_leftBehind_25 rfl ?_
    exact ⟨rfl, rfl⟩
  | succ k ih =>
    intro i hi
    have hl := lbN_lt hw ha i
    refine E_iload d_TM_leftBehind_5 rfl ?_
    refine E_iload_n d_TM_leftBehind_7 rfl ?_
    first | (with_reducible refine E_isN2 ?_; refine E_icmp_ge 24 d_TM_leftBehind_8 rfl (nb_le (by omega) (by omega) fun h8 => ?_) (nb_nle (by omega) (by omega) fun h8 => ?_)) | refine E_icmp_ge 24 d_TM_leftBehind_8 rfl (fun h8 => ?_) (fun h8 => ?_)
    · exfalso; omega
    refine E_iload_n d_TM_leftBehind_11 rfl ?_
    refine E_bipush (v := nI 10) d_TM_leftBehind_12 (by decide) ?_
    first | (with_reducible refine E_isN2 ?_; refine E_imulN d_TM_leftBehind_14 ?_) | refine E_imul d_TM_leftBehind_14 ?_
    refine E_iload_n d_TM_leftBehind_15 rfl ?_
    first | (with_reducible refine E_isN2 ?_; refine E_iremN d_TM_leftBehind_16 (by omega) (by omega) (by omega) ?_) | refine E_irem d_TM_leftBehind_16 (by decide) ?_
    refine E_istore_3 d_TM_leftBehind_17 rfl ?_
    first | (with_reducible refine E_isL4 ?_; refine E_iincN4 (m := 1) d_TM_leftBehind_18 rfl rfl ?_) | refine E_iinc_4 d_TM_leftBehind_18 rfl rfl ?_
    refine E_goto 5 d_TM_leftBehind_21 rfl ?_
    exact ih (i + 1) (by omega)
theorem sp_TM_leftBehind {G : Geo} {M : Mem} {a w n : Nat} (hw : 0 < w) (hw9 : w ≤ 99) (ha : a < w) (hn : n < 2000) : E 0 0 0 Y_TM_leftBehind 0 [some (.int (nI a)), some (.int (nI w)), some (.int (nI n)), none, none] [] G M (QI G fun r M' => r = nI (lbN w n a) ∧ M' = M) := by
  refine E_iload_n d_TM_leftBehind_0 rfl ?_
  refine E_istore_3 d_TM_leftBehind_1 rfl ?_
  refine E_iconst (v := nI 0) d_TM_leftBehind_2 rfl ?_
  refine E_istore_4 d_TM_leftBehind_3 rfl ?_
  exact lp_TM_left hw hw9 ha hn n 0 (Nat.zero_add _)
theorem part_ex {x y : Int32} (h : inN y 100 ∧ inN x (tN y)) : ∃ a w, x = nI a ∧ y = nI w ∧ a < w ∧ w ≤ 99 ∧ tN x = a ∧ tN y = w := by
  obtain ⟨e1, l1⟩ := in_nI h.1
  obtain ⟨e2, l2⟩ := in_nI h.2
  exact ⟨tN x, tN y, e2, e1, l2, by omega, rfl, rfl⟩
theorem sp_TM_decimal {M : Mem} (x y z : Int32) : E 2 0 0 Y_TM_decimal 0 [some (.ref 0), some (.int x), some (.int y), some (.int z)] [] GM M (QI GM fun r M' => r = ans_decimal x y z ∧ M' = M) := by
  by_cases hp : inN y 100 ∧ inN x (tN y)
  · obtain ⟨a, w, rfl, rfl, haw, hw, ht1, ht2⟩ := part_ex hp
    revert z
    refine args1 1000 (fun n hn hz ht => ?_) (fun z hz => ?_)
    · have hl := lbN_lt (show 0 < w by omega) haw n
      refine E_iload_n d_TM_decimal_0 rfl ?_
      refine E_iload_n d_TM_decimal_1 rfl ?_
      refine E_S2 (sp_TM_isPart _ _) d_TM_decimal_2 ml_TM_443 cb_TM_isPart cs_TM_isPart ⟨by decide, by decide⟩ rfl (Nat.le_of_ble_eq_true rfl) (Nat.le_of_ble_eq_true rfl) (kI fun r1 M1 hc => ?_)
      obtain ⟨rfl, rfl⟩ := hc
      first | (with_reducible refine E_isP ?_; refine E_if_eq 33 d_TM_decimal_5 rfl (pb_0 fun h5 => ?_) (pb_1 fun h5 => ?_)) | (with_reducible refine E_isN1 ?_; refine E_if_eq 33 d_TM_decimal_5 rfl (nz_eq (by omega) fun h5 => ?_) (nz_ne fun h5 => ?_)) | refine E_if_eq 33 d_TM_decimal_5 rfl (fun h5 => ?_) (fun h5 => ?_)
      · exfalso; exact h5 hp
      refine E_iload_n d_TM_decimal_8 rfl ?_
      refine E_iconst (v := nI 0) d_TM_decimal_9 rfl ?_
      refine E_sipush (v := nI 999) d_TM_decimal_10 (by decide) ?_
      refine E_S3 (sp_TM_in _ 999 (by decide)) d_TM_decimal_13 ml_TM_69 cb_TM_isIn cs_TM_isIn ⟨by decide, by decide⟩ rfl (Nat.le_of_ble_eq_true rfl) (Nat.le_of_ble_eq_true rfl) (kI fun r1 M1 hc => ?_)
      obtain ⟨rfl, rfl⟩ := hc
      first | (with_reducible refine E_isP ?_; refine E_if_eq 33 d_TM_decimal_16 rfl (pb_0 fun h16 => ?_) (pb_1 fun h16 => ?_)) | (with_reducible refine E_isN1 ?_; refine E_if_eq 33 d_TM_decimal_16 rfl (nz_eq (by omega) fun h16 => ?_) (nz_ne fun h16 => ?_)) | refine E_if_eq 33 d_TM_decimal_16 rfl (fun h16 => ?_) (fun h16 => ?_)
      · exfalso; exact h16 hz
      refine E_iload_n d_TM_decimal_19 rfl ?_
      refine E_iload_n d_TM_decimal_20 rfl ?_
      refine E_iload_n d_TM_decimal_21 rfl ?_
      refine E_S3 (sp_TM_leftBehind (by omega) hw haw (by omega)) d_TM_decimal_22 ml_TM_446 cb_TM_leftBehind cs_TM_leftBehind ⟨by decide, by decide⟩ rfl (Nat.le_of_ble_eq_true rfl) (Nat.le_of_ble_eq_true rfl) (kI fun r1 M1 hc => ?_)
      obtain ⟨rfl, rfl⟩ := hc
      refine E_bipush (v := nI 10) d_TM_decimal_25 (by decide) ?_
      first | (with_reducible refine E_isN2 ?_; refine E_imulN d_TM_decimal_27 ?_) | refine E_imul d_TM_decimal_27 ?_
      refine E_iload_n d_TM_decimal_28 rfl ?_
      first | (with_reducible refine E_isN2 ?_; refine E_idivN d_TM_decimal_29 (by omega) (by omega) (by omega) ?_) | refine E_idiv d_TM_decimal_29 (by decide) ?_
      refine E_goto 34 d_TM_decimal_30 rfl ?_
      refine E_retI d_TM_decimal_34 rfl ?_
      exact ⟨by rw [ans_decimal, if_pos ⟨hp, hz⟩, ht1, ht2, ht], rfl⟩
    · refine E_iload_n d_TM_decimal_0 rfl ?_
      refine E_iload_n d_TM_decimal_1 rfl ?_
      refine E_S2 (sp_TM_isPart _ _) d_TM_decimal_2 ml_TM_443 cb_TM_isPart cs_TM_isPart ⟨by decide, by decide⟩ rfl (Nat.le_of_ble_eq_true rfl) (Nat.le_of_ble_eq_true rfl) (kI fun r1 M1 hc => ?_)
      obtain ⟨rfl, rfl⟩ := hc
      first | (with_reducible refine E_isP ?_; refine E_if_eq 33 d_TM_decimal_5 rfl (pb_0 fun h5 => ?_) (pb_1 fun h5 => ?_)) | (with_reducible refine E_isN1 ?_; refine E_if_eq 33 d_TM_decimal_5 rfl (nz_eq (by omega) fun h5 => ?_) (nz_ne fun h5 => ?_)) | refine E_if_eq 33 d_TM_decimal_5 rfl (fun h5 => ?_) (fun h5 => ?_)
      · exfalso; exact h5 hp
      refine E_iload_n d_TM_decimal_8 rfl ?_
      refine E_iconst (v := nI 0) d_TM_decimal_9 rfl ?_
      refine E_sipush (v := nI 999) d_TM_decimal_10 (by decide) ?_
      refine E_S3 (sp_TM_in _ 999 (by decide)) d_TM_decimal_13 ml_TM_69 cb_TM_isIn cs_TM_isIn ⟨by decide, by decide⟩ rfl (Nat.le_of_ble_eq_true rfl) (Nat.le_of_ble_eq_true rfl) (kI fun r1 M1 hc => ?_)
      obtain ⟨rfl, rfl⟩ := hc
      first | (with_reducible refine E_isP ?_; refine E_if_eq 33 d_TM_decimal_16 rfl (pb_0 fun h16 => ?_) (pb_1 fun h16 => ?_)) | (with_reducible refine E_isN1 ?_; refine E_if_eq 33 d_TM_decimal_16 rfl (nz_eq (by omega) fun h16 => ?_) (nz_ne fun h16 => ?_)) | refine E_if_eq 33 d_TM_decimal_16 rfl (fun h16 => ?_) (fun h16 => ?_)
      rotate_left
      · exfalso; exact hz h16
      refine E_iconst (v := (-1)) d_TM_decimal_33 rfl ?_
      refine E_retI d_TM_decimal_34 rfl ?_
      exact ⟨by rw [ans_decimal, if_neg (fun q => hz q.2)], rfl⟩
  · refine E_iload_n d_TM_decimal_0 rfl ?_
    refine E_iload_n d_TM_decimal_1 rfl ?_
    refine E_S2 (sp_TM_isPart _ _) d_TM_decimal_2 ml_TM_443 cb_TM_isPart cs_TM_isPart ⟨by decide, by decide⟩ rfl (Nat.le_of_ble_eq_true rfl) (Nat.le_of_ble_eq_true rfl) (kI fun r1 M1 hc => ?_)
    obtain ⟨rfl, rfl⟩ := hc
    first | (with_reducible refine E_isP ?_; refine E_if_eq 33 d_TM_decimal_5 rfl (pb_0 fun h5 => ?_) (pb_1 fun h5 => ?_)) | (with_reducible refine E_isN1 ?_; refine E_if_eq 33 d_TM_decimal_5 rfl (nz_eq (by omega) fun h5 => ?_) (nz_ne fun h5 => ?_)) | refine E_if_eq 33 d_TM_decimal_5 rfl (fun h5 => ?_) (fun h5 => ?_)
    rotate_left
    · exfalso; exact hp h5
    refine E_iconst (v := (-1)) d_TM_decimal_33 rfl ?_
    refine E_retI d_TM_decimal_34 rfl ?_
    exact ⟨by rw [ans_decimal, if_neg (fun q => hp q.1)], rfl⟩
theorem findP_at (P : Nat → Bool) : ∀ k n, (∃ m, n ≤ m ∧ m < n + k ∧ P m = true) → P (findP P k n) = true ∧ findP P k n < n + k := by
  intro k
  induction k with
  | zero => rintro n ⟨m, h1, h2, -⟩; omega
  | succ k ih =>
    rintro n ⟨m, h1, h2, h3⟩
    rw [findP]
    by_cases h : P n = true
    · rw [if_pos h]; exact ⟨h, by omega⟩
    · rw [if_neg h]
      have hm : n ≠ m := fun q => h (by rw [q]; exact h3)
      have := ih (n + 1) ⟨m, by omega, by omega, h3⟩
      exact ⟨this.1, by omega⟩
theorem len_ex {w a : Nat} (hw : w ≤ 99) (ha : a < w) : ∃ m, 1 ≤ m ∧ m < 1 + 99 ∧ decide (lbN w m (lbN w 99 a) = lbN w 99 a) = true := by
  obtain ⟨i, j, h1, h2, h3⟩ := pigeon 99 (fun i => lbN w i a) (fun i _ => by have := lbN_lt (show 0 < w by omega) ha i; show lbN w i a < 99; omega)
  refine ⟨j - i, by omega, by omega, decide_eq_true ?_⟩
  have e1 : lbN w 99 a = lbN w (99 - i) (lbN w i a) := by rw [← lbN_add, show 99 - i + i = 99 by omega]
  rw [← lbN_add, show j - i + 99 = (99 - i) + j by omega, lbN_add, ← h3, ← e1]
theorem len_ok {w a : Nat} (hw : w ≤ 99) (ha : a < w) : lbN w (lenN w a) (lbN w 99 a) = lbN w 99 a ∧ lenN w a < 100 := by
  have := findP_at _ 99 1 (len_ex hw ha)
  exact ⟨of_decide_eq_true this.1, this.2⟩
theorem start_ex {w a : Nat} (hw : w ≤ 99) (ha : a < w) : ∃ m, 0 ≤ m ∧ m < 0 + 100 ∧ decide (lbN w m a = lbN w (m + lenN w a) a) = true :=
  ⟨99, by decide, by decide, decide_eq_true (by rw [Nat.add_comm, lbN_add, (len_ok hw ha).1])⟩
theorem lp_TM_decL {M : Mem} {a w : Nat} {z : Int32} {R : Nat} {Q : Option Value → Geo → Mem → Prop} (ha : a < w) (hw : w ≤ 99)
    (K : E 2 0 0 Y_TM_decimals 41 [some (.ref 0), some (.int (nI a)), some (.int (nI w)), some (.int z), some (.int (nI (lbN w 99 a))), some (.int (nI R)), none] [] GM M Q) :
    ∀ k l, l + k = 100 → (∃ m, l ≤ m ∧ m < l + k ∧ decide (lbN w m (lbN w 99 a) = lbN w 99 a) = true) → findP (fun l => decide (lbN w l (lbN w 99 a) = lbN w 99 a)) k l = R →
    E 2 0 0 Y_TM_decimals 22 [some (.ref 0), some (.int (nI a)), some (.int (nI w)), some (.int z), some (.int (nI (lbN w 99 a))), some (.int (nI l)), none] [] GM M Q := by
  have hl := lbN_lt (show 0 < w by omega) ha 99
  intro k
  induction k with
  | zero => rintro l hlk ⟨m, h1, h2, -⟩; omega
  | succ k ih =>
    intro l hlk hex hv
    have hl2 := lbN_lt (show 0 < w by omega) hl l
    rw [findP] at hv
    by_cases h : lbN w l (lbN w 99 a) = lbN w 99 a
    · rw [if_pos (decide_eq_true h)] at hv
      subst hv
      refine E_iload d_TM_decimals_22 rfl ?_
      refine E_iload_n d_TM_decimals_24 rfl ?_
      refine E_iload d_TM_decimals_25 rfl ?_
      refine E_S3 (sp_TM_leftBehind (by omega) hw hl (by omega)) d_TM_decimals_27 ml_TM_446 cb_TM_leftBehind cs_TM_leftBehind ⟨by decide, by decide⟩ rfl (Nat.le_of_ble_eq_true rfl) (Nat.le_of_ble_eq_true rfl) (kI fun r1 M1 hc => ?_)
      obtain ⟨rfl, rfl⟩ := hc
      refine E_iload d_TM_decimals_30 rfl ?_
      first | (with_reducible refine E_isN2 ?_; refine E_icmp_eq 41 d_TM_decimals_32 rfl (nb_eq (by omega) (by omega) fun h32 => ?_) (nb_ne fun h32 => ?_)) | refine E_icmp_eq 41 d_TM_decimals_32 rfl (fun h32 => ?_) (fun h32 => ?_)
      rotate_left
      · exfalso; exact h32 h
      exact K
    · rw [if_neg (by rw [decide_eq_true_eq]; exact h)] at hv
      refine E_iload d_TM_decimals_22 rfl ?_
      refine E_iload_n d_TM_decimals_24 rfl ?_
      refine E_iload d_TM_decimals_25 rfl ?_
      refine E_S3 (sp_TM_leftBehind (by omega) hw hl (by omega)) d_TM_decimals_27 ml_TM_446 cb_TM_leftBehind cs_TM_leftBehind ⟨by decide, by decide⟩ rfl (Nat.le_of_ble_eq_true rfl) (Nat.le_of_ble_eq_true rfl) (kI fun r1 M1 hc => ?_)
      obtain ⟨rfl, rfl⟩ := hc
      refine E_iload d_TM_decimals_30 rfl ?_
      first | (with_reducible refine E_isN2 ?_; refine E_icmp_eq 41 d_TM_decimals_32 rfl (nb_eq (by omega) (by omega) fun h32 => ?_) (nb_ne fun h32 => ?_)) | refine E_icmp_eq 41 d_TM_decimals_32 rfl (fun h32 => ?_) (fun h32 => ?_)
      · exfalso; exact h h32
      first | (with_reducible refine E_isL5 ?_; refine E_iincN5 (m := 1) d_TM_decimals_35 rfl rfl ?_) | refine E_iinc_5 d_TM_decimals_35 rfl rfl ?_
      refine E_goto 22 d_TM_decimals_38 rfl ?_
      refine ih (l + 1) (by omega) ?_ hv
      obtain ⟨m, h1, h2, h3⟩ := hex
      have hm : l ≠ m := fun q => h (by rw [q]; exact of_decide_eq_true h3)
      exact ⟨m, by omega, by omega, h3⟩
theorem lp_TM_decS {M : Mem} {a w : Nat} {z : Int32} {R n : Nat} (ha : a < w) (hw : w ≤ 99) (hn : n < 100) :
    ∀ k s, s + k = 100 → (∃ m, s ≤ m ∧ m < s + k ∧ decide (lbN w m a = lbN w (m + n) a) = true) → findP (fun s => decide (lbN w s a = lbN w (s + n) a)) k s = R →
    E 2 0 0 Y_TM_decimals 51 [some (.ref 0), some (.int (nI a)), some (.int (nI w)), some (.int z), some (.int (nI (lbN w 99 a))), some (.int (nI n)), some (.int (nI s))] [] GM M (QI GM fun r M' => r = nI R ∧ M' = M) := by
  intro k
  induction k with
  | zero => rintro l hlk ⟨m, h1, h2, -⟩; omega
  | succ k ih =>
    intro s hlk hex hv
    have hl1 := lbN_lt (show 0 < w by omega) ha s
    have hl2 := lbN_lt (show 0 < w by omega) ha (s + n)
    rw [findP] at hv
    by_cases h : lbN w s a = lbN w (s + n) a
    · rw [if_pos (decide_eq_true h)] at hv
      subst hv
      refine E_iload_n d_TM_decimals_51 rfl ?_
      refine E_iload_n d_TM_decimals_52 rfl ?_
      refine E_iload d_TM_decimals_53 rfl ?_
      refine E_S3 (sp_TM_leftBehind (by omega) hw ha (by omega)) d_TM_decimals_55 ml_TM_446 cb_TM_leftBehind cs_TM_leftBehind ⟨by decide, by decide⟩ rfl (Nat.le_of_ble_eq_true rfl) (Nat.le_of_ble_eq_true rfl) (kI fun r1 M1 hc => ?_)
      obtain ⟨rfl, rfl⟩ := hc
      refine E_iload_n d_TM_decimals_58 rfl ?_
      refine E_iload_n d_TM_decimals_59 rfl ?_
      refine E_iload d_TM_decimals_60 rfl ?_
      refine E_iload d_TM_decimals_62 rfl ?_
      first | (with_reducible refine E_isN2 ?_; refine E_iaddN d_TM_decimals_64 ?_) | refine E_iadd d_TM_decimals_64 ?_
      refine E_S3 (sp_TM_leftBehind (by omega) hw ha (by omega)) d_TM_decimals_65 ml_TM_446 cb_TM_leftBehind cs_TM_leftBehind ⟨by decide, by decide⟩ rfl (Nat.le_of_ble_eq_true rfl) (Nat.le_of_ble_eq_true rfl) (kI fun r1 M1 hc => ?_)
      obtain ⟨rfl, rfl⟩ := hc
      first | (with_reducible refine E_isN2 ?_; refine E_icmp_eq 77 d_TM_decimals_68 rfl (nb_eq (by omega) (by omega) fun h68 => ?_) (nb_ne fun h68 => ?_)) | refine E_icmp_eq 77 d_TM_decimals_68 rfl (fun h68 => ?_) (fun h68 => ?_)
      rotate_left
      · exfalso; exact h68 h
      refine E_iload d_TM_decimals_77 rfl ?_
      refine E_retI d_TM_decimals_79 rfl ?_
      exact ⟨rfl, rfl⟩
    · rw [if_neg (by rw [decide_eq_true_eq]; exact h)] at hv
      refine E_iload_n d_TM_decimals_51 rfl ?_
      refine E_iload_n d_TM_decimals_52 rfl ?_
      refine E_iload d_TM_decimals_53 rfl ?_
      refine E_S3 (sp_TM_leftBehind (by omega) hw ha (by omega)) d_TM_decimals_55 ml_TM_446 cb_TM_leftBehind cs_TM_leftBehind ⟨by decide, by decide⟩ rfl (Nat.le_of_ble_eq_true rfl) (Nat.le_of_ble_eq_true rfl) (kI fun r1 M1 hc => ?_)
      obtain ⟨rfl, rfl⟩ := hc
      refine E_iload_n d_TM_decimals_58 rfl ?_
      refine E_iload_n d_TM_decimals_59 rfl ?_
      refine E_iload d_TM_decimals_60 rfl ?_
      refine E_iload d_TM_decimals_62 rfl ?_
      first | (with_reducible refine E_isN2 ?_; refine E_iaddN d_TM_decimals_64 ?_) | refine E_iadd d_TM_decimals_64 ?_
      refine E_S3 (sp_TM_leftBehind (by omega) hw ha (by omega)) d_TM_decimals_65 ml_TM_446 cb_TM_leftBehind cs_TM_leftBehind ⟨by decide, by decide⟩ rfl (Nat.le_of_ble_eq_true rfl) (Nat.le_of_ble_eq_true rfl) (kI fun r1 M1 hc => ?_)
      obtain ⟨rfl, rfl⟩ := hc
      first | (with_reducible refine E_isN2 ?_; refine E_icmp_eq 77 d_TM_decimals_68 rfl (nb_eq (by omega) (by omega) fun h68 => ?_) (nb_ne fun h68 => ?_)) | refine E_icmp_eq 77 d_TM_decimals_68 rfl (fun h68 => ?_) (fun h68 => ?_)
      · exfalso; exact h h68
      first | (with_reducible refine E_isL6 ?_; refine E_iincN6 (m := 1) d_TM_decimals_71 rfl rfl ?_) | refine E_iinc_6 d_TM_decimals_71 rfl rfl ?_
      refine E_goto 51 d_TM_decimals_74 rfl ?_
      refine ih (s + 1) (by omega) ?_ hv
      obtain ⟨m, h1, h2, h3⟩ := hex
      have hm : s ≠ m := fun q => h (by rw [q]; exact of_decide_eq_true h3)
      exact ⟨m, by omega, by omega, h3⟩
theorem sp_TM_decimals {M : Mem} (x y z : Int32) : E 2 0 0 Y_TM_decimals 0 [some (.ref 0), some (.int x), some (.int y), some (.int z), none, none, none] [] GM M (QI GM fun r M' => r = ans_decimals x y z ∧ M' = M) := by
  by_cases hp : inN y 100 ∧ inN x (tN y)
  · obtain ⟨a, w, rfl, rfl, haw, hw, ht1, ht2⟩ := part_ex hp
    have e : ans_decimals (nI a) (nI w) z = if z = 0 then nI (startN w a) else nI (lenN w a) := by rw [ans_decimals, if_pos hp, ht1, ht2]
    have hl := len_ok hw haw
    have K : E 2 0 0 Y_TM_decimals 41 [some (.ref 0), some (.int (nI a)), some (.int (nI w)), some (.int z), some (.int (nI (lbN w 99 a))), some (.int (nI (lenN w a))), none] [] GM M (QI GM fun r M' => r = ans_decimals (nI a) (nI w) z ∧ M' = M) := by
      refine E_iload_n d_TM_decimals_41 rfl ?_
      first | (with_reducible refine E_isP ?_; refine E_if_eq 48 d_TM_decimals_42 rfl (pb_0 fun h42 => ?_) (pb_1 fun h42 => ?_)) | (with_reducible refine E_isN1 ?_; refine E_if_eq 48 d_TM_decimals_42 rfl (nz_eq (by omega) fun h42 => ?_) (nz_ne fun h42 => ?_)) | refine E_if_eq 48 d_TM_decimals_42 rfl (fun h42 => ?_) (fun h42 => ?_)
      · refine E_iconst (v := nI 0) d_TM_decimals_48 rfl ?_
        refine E_istore_6 d_TM_decimals_49 rfl ?_
        rw [e, if_pos h42]; exact lp_TM_decS haw hw hl.2 100 0 rfl (start_ex hw haw) rfl
      · refine E_iload d_TM_decimals_45 rfl ?_
        refine E_retI d_TM_decimals_47 rfl ?_
        exact ⟨by rw [e, if_neg h42], rfl⟩
    refine E_iload_n d_TM_decimals_0 rfl ?_
    refine E_iload_n d_TM_decimals_1 rfl ?_
    refine E_S2 (sp_TM_isPart _ _) d_TM_decimals_2 ml_TM_443 cb_TM_isPart cs_TM_isPart ⟨by decide, by decide⟩ rfl (Nat.le_of_ble_eq_true rfl) (Nat.le_of_ble_eq_true rfl) (kI fun r1 M1 hc => ?_)
    obtain ⟨rfl, rfl⟩ := hc
    first | (with_reducible refine E_isP ?_; refine E_if_ne 10 d_TM_decimals_5 rfl (pb_1 fun h5 => ?_) (pb_0 fun h5 => ?_)) | (with_reducible refine E_isN1 ?_; refine E_if_ne 10 d_TM_decimals_5 rfl (nz_ne fun h5 => ?_) (nz_eq (by omega) fun h5 => ?_)) | refine E_if_ne 10 d_TM_decimals_5 rfl (fun h5 => ?_) (fun h5 => ?_)
    rotate_left
    · exfalso; exact h5 hp
    refine E_iload_n d_TM_decimals_10 rfl ?_
    refine E_iload_n d_TM_decimals_11 rfl ?_
    refine E_bipush (v := nI 99) d_TM_decimals_12 (by decide) ?_
    refine E_S3 (sp_TM_leftBehind (by omega) hw haw (by omega)) d_TM_decimals_14 ml_TM_446 cb_TM_leftBehind cs_TM_leftBehind ⟨by decide, by decide⟩ rfl (Nat.le_of_ble_eq_true rfl) (Nat.le_of_ble_eq_true rfl) (kI fun r1 M1 hc => ?_)
    obtain ⟨rfl, rfl⟩ := hc
    refine E_istore_4 d_TM_decimals_17 rfl ?_
    refine E_iconst (v := nI 1) d_TM_decimals_19 rfl ?_
    refine E_istore_5 d_TM_decimals_20 rfl ?_
    exact lp_TM_decL haw hw K 99 1 rfl (len_ex hw haw) rfl
  · refine E_iload_n d_TM_decimals_0 rfl ?_
    refine E_iload_n d_TM_decimals_1 rfl ?_
    refine E_S2 (sp_TM_isPart _ _) d_TM_decimals_2 ml_TM_443 cb_TM_isPart cs_TM_isPart ⟨by decide, by decide⟩ rfl (Nat.le_of_ble_eq_true rfl) (Nat.le_of_ble_eq_true rfl) (kI fun r1 M1 hc => ?_)
    obtain ⟨rfl, rfl⟩ := hc
    first | (with_reducible refine E_isP ?_; refine E_if_ne 10 d_TM_decimals_5 rfl (pb_1 fun h5 => ?_) (pb_0 fun h5 => ?_)) | (with_reducible refine E_isN1 ?_; refine E_if_ne 10 d_TM_decimals_5 rfl (nz_ne fun h5 => ?_) (nz_eq (by omega) fun h5 => ?_)) | refine E_if_ne 10 d_TM_decimals_5 rfl (fun h5 => ?_) (fun h5 => ?_)
    · exfalso; exact hp h5
    refine E_iconst (v := (-1)) d_TM_decimals_8 rfl ?_
    refine E_retI d_TM_decimals_9 rfl ?_
    exact ⟨by rw [ans_decimals, if_neg hp], rfl⟩
def winS (c : Cr) (v : Nat) : Nat → Nat
  | 0 => 0
  | n + 1 => winS c v n + c.villages ((v + n) % 10)
def ans_window (c : Cr) (x y : Int32) : Int32 := if inN x 10 ∧ inN y 11 then nI (winS c (tN x) (tN y)) else -1
def busA (c : Cr) (n : Nat) : Nat → Nat
  | 0 => 0
  | v + 1 => if winS c (busA c n v) n < winS c (v + 1) n then v + 1 else busA c n v
def ans_busiest (c : Cr) (x : Int32) : Int32 := if inN x 11 then nI (busA c (tN x) 9) else -1
theorem winS_le {c : Cr} (h : Wf c) (v n : Nat) : winS c v n ≤ 99 * n := by
  induction n with
  | zero => exact Nat.zero_le _
  | succ n ih => rw [winS]; have := h.village ((v + n) % 10); omega
theorem lp_TM_windowOf {c : Cr} {M : Mem} {v n : Nat} (hM : HM c M) (hv : v < 10) (hn : n ≤ 10) : ∀ k i, i + k = n → E 0 0 0 Y_TM_windowOf 5 [some (.ref 0), some (.int (nI v)), some (.int (nI n)), some (.int (nI (winS c v i))), some (.int (nI i))] [] GM M (QI GM fun r M' => r = nI (winS c v n) ∧ M' = M) := by
  have hR := hM.R
  have hA := hM.A
  intro k
  induction k with
  | zero =>
    intro i hi
    have hi2 : i = n := by omega
    subst hi2
    refine E_iload d_TM_windowOf_5 rfl ?_
    refine E_iload_n d_TM_windowOf_7 rfl ?_
    first | (with_reducible refine E_isN2 ?_; refine E_icmp_ge 35 d_TM_windowOf_8 rfl (nb_le (by omega) (by omega) fun h8 => ?_) (nb_nle (by omega) (by omega) fun h8 => ?_)) | refine E_icmp_ge 35 d_TM_windowOf_8 rfl (fun h8 => ?_) (fun h8 => ?_)
    rotate_left
    · exfalso; omega
    refine E_iload_n d_TM_windowOf_35 rfl ?_
    refine E_retI d_TM_windowOf_36 rfl ?_
    exact ⟨rfl, rfl⟩
  | succ k ih =>
    intro i hi
    refine E_iload d_TM_windowOf_5 rfl ?_
    refine E_iload_n d_TM_windowOf_7 rfl ?_
    first | (with_reducible refine E_isN2 ?_; refine E_icmp_ge 35 d_TM_windowOf_8 rfl (nb_le (by omega) (by omega) fun h8 => ?_) (nb_nle (by omega) (by omega) fun h8 => ?_)) | refine E_icmp_ge 35 d_TM_windowOf_8 rfl (fun h8 => ?_) (fun h8 => ?_)
    · exfalso; omega
    refine E_iload_n d_TM_windowOf_11 rfl ?_
    first | refine E_aload_n d_TM_windowOf_12 rfl ?_ | refine E_aload_nN d_TM_windowOf_12 rfl ?_
    refine E_getR (q := 1) d_TM_windowOf_13 gf_TM_7 (by exact ⟨by decide, rfl⟩) (by exact hR _ rfl) ?_
    refine E_bipush (v := nI 58) d_TM_windowOf_16 (by decide) ?_
    refine E_iload_n d_TM_windowOf_18 rfl ?_
    refine E_iload d_TM_windowOf_19 rfl ?_
    first | (with_reducible refine E_isN2 ?_; refine E_iaddN d_TM_windowOf_21 ?_) | refine E_iadd d_TM_windowOf_21 ?_
    refine E_bipush (v := nI 10) d_TM_windowOf_22 (by decide) ?_
    first | (with_reducible refine E_isN2 ?_; refine E_iremN d_TM_windowOf_24 (by omega) (by omega) (by omega) ?_) | refine E_irem d_TM_windowOf_24 (by decide) ?_
    first | (with_reducible refine E_isN2 ?_; refine E_iaddN d_TM_windowOf_25 ?_) | refine E_iadd d_TM_windowOf_25 ?_
    refine E_iald d_TM_windowOf_26 (by exact ⟨by decide, rfl⟩) (by exact ⟨by with_reducible rfl, by omega, by decide⟩) (by first | exact hA.people | exact hA.village (by omega) | exact hA.written | exact hA.book (by omega) | rfl) ?_
    first | (with_reducible refine E_isN2 ?_; refine E_iaddN d_TM_windowOf_27 ?_) | refine E_iadd d_TM_windowOf_27 ?_
    refine E_istore_3 d_TM_windowOf_28 rfl ?_
    first | (with_reducible refine E_isL4 ?_; refine E_iincN4 (m := 1) d_TM_windowOf_29 rfl rfl ?_) | refine E_iinc_4 d_TM_windowOf_29 rfl rfl ?_
    refine E_goto 5 d_TM_windowOf_32 rfl ?_
    exact ih (i + 1) (by omega)
theorem sp_TM_windowOf {c : Cr} {M : Mem} {v n : Nat} (hM : HM c M) (hv : v < 10) (hn : n ≤ 10) : E 0 0 0 Y_TM_windowOf 0 [some (.ref 0), some (.int (nI v)), some (.int (nI n)), none, none] [] GM M (QI GM fun r M' => r = nI (winS c v n) ∧ M' = M) := by
  refine E_iconst (v := nI 0) d_TM_windowOf_0 rfl ?_
  refine E_istore_3 d_TM_windowOf_1 rfl ?_
  refine E_iconst (v := nI 0) d_TM_windowOf_2 rfl ?_
  refine E_istore_4 d_TM_windowOf_3 rfl ?_
  exact lp_TM_windowOf hM hv hn n 0 (Nat.zero_add _)
theorem sp_TM_window {c : Cr} {M : Mem} (hM : HM c M) (x y : Int32) : E 1 0 0 Y_TM_window 0 [some (.ref 0), some (.int x), some (.int y)] [] GM M (QI GM fun r M' => r = ans_window c x y ∧ M' = M) := by
  revert x y
  refine args2 10 11 (fun v n hv hx ht hn hy ht2 => ?_) (fun x y hx => ?_) (fun x y hx hy => ?_)
  · refine E_iload_n d_TM_window_0 rfl ?_
    refine E_iconst (v := nI 0) d_TM_window_1 rfl ?_
    refine E_bipush (v := nI 9) d_TM_window_2 (by decide) ?_
    refine E_S3 (sp_TM_in _ 9 (by decide)) d_TM_window_4 ml_TM_69 cb_TM_isIn cs_TM_isIn ⟨by decide, by decide⟩ rfl (Nat.le_of_ble_eq_true rfl) (Nat.le_of_ble_eq_true rfl) (kI fun r1 M1 hc => ?_)
    obtain ⟨rfl, rfl⟩ := hc
    first | (with_reducible refine E_isP ?_; refine E_if_eq 29 d_TM_window_7 rfl (pb_0 fun h7 => ?_) (pb_1 fun h7 => ?_)) | (with_reducible refine E_isN1 ?_; refine E_if_eq 29 d_TM_window_7 rfl (nz_eq (by omega) fun h7 => ?_) (nz_ne fun h7 => ?_)) | refine E_if_eq 29 d_TM_window_7 rfl (fun h7 => ?_) (fun h7 => ?_)
    · exfalso; exact h7 hx
    refine E_iload_n d_TM_window_10 rfl ?_
    refine E_iconst (v := nI 0) d_TM_window_11 rfl ?_
    refine E_bipush (v := nI 10) d_TM_window_12 (by decide) ?_
    refine E_S3 (sp_TM_in _ 10 (by decide)) d_TM_window_14 ml_TM_69 cb_TM_isIn cs_TM_isIn ⟨by decide, by decide⟩ rfl (Nat.le_of_ble_eq_true rfl) (Nat.le_of_ble_eq_true rfl) (kI fun r1 M1 hc => ?_)
    obtain ⟨rfl, rfl⟩ := hc
    first | (with_reducible refine E_isP ?_; refine E_if_eq 29 d_TM_window_17 rfl (pb_0 fun h17 => ?_) (pb_1 fun h17 => ?_)) | (with_reducible refine E_isN1 ?_; refine E_if_eq 29 d_TM_window_17 rfl (nz_eq (by omega) fun h17 => ?_) (nz_ne fun h17 => ?_)) | refine E_if_eq 29 d_TM_window_17 rfl (fun h17 => ?_) (fun h17 => ?_)
    · exfalso; exact h17 hy
    first | refine E_aload_n d_TM_window_20 rfl ?_ | refine E_aload_nN d_TM_window_20 rfl ?_
    refine E_iload_n d_TM_window_21 rfl ?_
    refine E_iload_n d_TM_window_22 rfl ?_
    refine E_V2 (sp_TM_windowOf hM hv (by omega)) d_TM_window_23 ml_TM_449 cb_TM_windowOf cv_TM_windowOf (by exact ⟨by decide, rfl⟩) ⟨by decide, rfl⟩ ⟨by decide, by decide⟩ rfl (Nat.le_of_ble_eq_true rfl) (Nat.le_of_ble_eq_true rfl) (kI fun r1 M1 hc => ?_)
    obtain ⟨rfl, rfl⟩ := hc
    refine E_goto 30 d_TM_window_26 rfl ?_
    refine E_retI d_TM_window_30 rfl ?_
    exact ⟨by rw [ans_window, if_pos ⟨hx, hy⟩, ht, ht2], rfl⟩
  · refine E_iload_n d_TM_window_0 rfl ?_
    refine E_iconst (v := nI 0) d_TM_window_1 rfl ?_
    refine E_bipush (v := nI 9) d_TM_window_2 (by decide) ?_
    refine E_S3 (sp_TM_in _ 9 (by decide)) d_TM_window_4 ml_TM_69 cb_TM_isIn cs_TM_isIn ⟨by decide, by decide⟩ rfl (Nat.le_of_ble_eq_true rfl) (Nat.le_of_ble_eq_true rfl) (kI fun r1 M1 hc => ?_)
    obtain ⟨rfl, rfl⟩ := hc
    first | (with_reducible refine E_isP ?_; refine E_if_eq 29 d_TM_window_7 rfl (pb_0 fun h7 => ?_) (pb_1 fun h7 => ?_)) | (with_reducible refine E_isN1 ?_; refine E_if_eq 29 d_TM_window_7 rfl (nz_eq (by omega) fun h7 => ?_) (nz_ne fun h7 => ?_)) | refine E_if_eq 29 d_TM_window_7 rfl (fun h7 => ?_) (fun h7 => ?_)
    rotate_left
    · exfalso; exact hx h7
    refine E_iconst (v := (-1)) d_TM_window_29 rfl ?_
    refine E_retI d_TM_window_30 rfl ?_
    exact ⟨by rw [ans_window, if_neg (fun q => hx q.1)], rfl⟩
  · refine E_iload_n d_TM_window_0 rfl ?_
    refine E_iconst (v := nI 0) d_TM_window_1 rfl ?_
    refine E_bipush (v := nI 9) d_TM_window_2 (by decide) ?_
    refine E_S3 (sp_TM_in _ 9 (by decide)) d_TM_window_4 ml_TM_69 cb_TM_isIn cs_TM_isIn ⟨by decide, by decide⟩ rfl (Nat.le_of_ble_eq_true rfl) (Nat.le_of_ble_eq_true rfl) (kI fun r1 M1 hc => ?_)
    obtain ⟨rfl, rfl⟩ := hc
    first | (with_reducible refine E_isP ?_; refine E_if_eq 29 d_TM_window_7 rfl (pb_0 fun h7 => ?_) (pb_1 fun h7 => ?_)) | (with_reducible refine E_isN1 ?_; refine E_if_eq 29 d_TM_window_7 rfl (nz_eq (by omega) fun h7 => ?_) (nz_ne fun h7 => ?_)) | refine E_if_eq 29 d_TM_window_7 rfl (fun h7 => ?_) (fun h7 => ?_)
    · exfalso; exact h7 hx
    refine E_iload_n d_TM_window_10 rfl ?_
    refine E_iconst (v := nI 0) d_TM_window_11 rfl ?_
    refine E_bipush (v := nI 10) d_TM_window_12 (by decide) ?_
    refine E_S3 (sp_TM_in _ 10 (by decide)) d_TM_window_14 ml_TM_69 cb_TM_isIn cs_TM_isIn ⟨by decide, by decide⟩ rfl (Nat.le_of_ble_eq_true rfl) (Nat.le_of_ble_eq_true rfl) (kI fun r1 M1 hc => ?_)
    obtain ⟨rfl, rfl⟩ := hc
    first | (with_reducible refine E_isP ?_; refine E_if_eq 29 d_TM_window_17 rfl (pb_0 fun h17 => ?_) (pb_1 fun h17 => ?_)) | (with_reducible refine E_isN1 ?_; refine E_if_eq 29 d_TM_window_17 rfl (nz_eq (by omega) fun h17 => ?_) (nz_ne fun h17 => ?_)) | refine E_if_eq 29 d_TM_window_17 rfl (fun h17 => ?_) (fun h17 => ?_)
    rotate_left
    · exfalso; exact hy h17
    refine E_iconst (v := (-1)) d_TM_window_29 rfl ?_
    refine E_retI d_TM_window_30 rfl ?_
    exact ⟨by rw [ans_window, if_neg (fun q => hy q.2)], rfl⟩
theorem busA_le (c : Cr) (n : Nat) : ∀ v, busA c n v ≤ v := by
  intro v
  induction v with
  | zero => exact Nat.le_refl _
  | succ v ih => rw [busA]; split <;> omega
theorem lp_TM_busiest {c : Cr} {M : Mem} {n : Nat} (hM : HM c M) (hn : n ≤ 10) : ∀ k v, v + k = 9 → E 1 0 0 Y_TM_busiest 16 [some (.ref 0), some (.int (nI n)), some (.int (nI (busA c n v))), some (.int (nI (v + 1)))] [] GM M (QI GM fun r M' => r = nI (busA c n 9) ∧ M' = M) := by
  intro k
  induction k with
  | zero =>
    intro v hv
    have hv2 : v = 9 := by omega
    subst hv2
    refine E_iload_n d_TM_busiest_16 rfl ?_
    refine E_bipush (v := nI 10) d_TM_busiest_17 (by decide) ?_
    first | (with_reducible refine E_isN2 ?_; refine E_icmp_ge 45 d_TM_busiest_19 rfl (nb_le (by omega) (by omega) fun h19 => ?_) (nb_nle (by omega) (by omega) fun h19 => ?_)) | refine E_icmp_ge 45 d_TM_busiest_19 rfl (fun h19 => ?_) (fun h19 => ?_)
    rotate_left
    · exfalso; omega
    refine E_iload_n d_TM_busiest_45 rfl ?_
    refine E_retI d_TM_busiest_46 rfl ?_
    exact ⟨rfl, rfl⟩
  | succ k ih =>
    intro v hv
    have hb := busA_le c n v
    have w1 := winS_le hM.w (busA c n v) n
    have w2 := winS_le hM.w (v + 1) n
    have e : busA c n (v + 1) = if winS c (busA c n v) n < winS c (v + 1) n then v + 1 else busA c n v := rfl
    refine E_iload_n d_TM_busiest_16 rfl ?_
    refine E_bipush (v := nI 10) d_TM_busiest_17 (by decide) ?_
    first | (with_reducible refine E_isN2 ?_; refine E_icmp_ge 45 d_TM_busiest_19 rfl (nb_le (by omega) (by omega) fun h19 => ?_) (nb_nle (by omega) (by omega) fun h19 => ?_)) | refine E_icmp_ge 45 d_TM_busiest_19 rfl (fun h19 => ?_) (fun h19 => ?_)
    · exfalso; omega
    first | refine E_aload_n d_TM_busiest_22 rfl ?_ | refine E_aload_nN d_TM_busiest_22 rfl ?_
    refine E_iload_n d_TM_busiest_23 rfl ?_
    refine E_iload_n d_TM_busiest_24 rfl ?_
    refine E_V2 (sp_TM_windowOf hM (by omega) hn) d_TM_busiest_25 ml_TM_449 cb_TM_windowOf cv_TM_windowOf (by exact ⟨by decide, rfl⟩) ⟨by decide, rfl⟩ ⟨by decide, by decide⟩ rfl (Nat.le_of_ble_eq_true rfl) (Nat.le_of_ble_eq_true rfl) (kI fun r1 M1 hc => ?_)
    obtain ⟨rfl, rfl⟩ := hc
    first | refine E_aload_n d_TM_busiest_28 rfl ?_ | refine E_aload_nN d_TM_busiest_28 rfl ?_
    refine E_iload_n d_TM_busiest_29 rfl ?_
    refine E_iload_n d_TM_busiest_30 rfl ?_
    refine E_V2 (sp_TM_windowOf hM (by omega) hn) d_TM_busiest_31 ml_TM_449 cb_TM_windowOf cv_TM_windowOf (by exact ⟨by decide, rfl⟩) ⟨by decide, rfl⟩ ⟨by decide, by decide⟩ rfl (Nat.le_of_ble_eq_true rfl) (Nat.le_of_ble_eq_true rfl) (kI fun r1 M1 hc => ?_)
    obtain ⟨rfl, rfl⟩ := hc
    first | (with_reducible refine E_isN2 ?_; refine E_icmp_le 39 d_TM_busiest_34 rfl (nb_le (by omega) (by omega) fun h34 => ?_) (nb_nle (by omega) (by omega) fun h34 => ?_)) | refine E_icmp_le 39 d_TM_busiest_34 rfl (fun h34 => ?_) (fun h34 => ?_)
    · first | (with_reducible refine E_isL3 ?_; refine E_iincN3 (m := 1) d_TM_busiest_39 rfl rfl ?_) | refine E_iinc_3 d_TM_busiest_39 rfl rfl ?_
      refine E_goto 16 d_TM_busiest_42 rfl ?_
      refine E_eqL ?_ (ih (v + 1) (by omega))
      rw [e]
      first | rw [if_pos h34] | rw [if_neg (Nat.not_lt.mpr h34)]
    · refine E_iload_n d_TM_busiest_37 rfl ?_
      refine E_istore_2 d_TM_busiest_38 rfl ?_
      first | (with_reducible refine E_isL3 ?_; refine E_iincN3 (m := 1) d_TM_busiest_39 rfl rfl ?_) | refine E_iinc_3 d_TM_busiest_39 rfl rfl ?_
      refine E_goto 16 d_TM_busiest_42 rfl ?_
      refine E_eqL ?_ (ih (v + 1) (by omega))
      rw [e]
      first | rw [if_pos h34] | rw [if_neg (Nat.not_lt.mpr h34)]
theorem sp_TM_busiest {c : Cr} {M : Mem} (hM : HM c M) (x : Int32) : E 1 0 0 Y_TM_busiest 0 [some (.ref 0), some (.int x), none, none] [] GM M (QI GM fun r M' => r = ans_busiest c x ∧ M' = M) := by
  revert x
  refine args1 11 (fun n hn hx ht => ?_) (fun x hx => ?_)
  · have e : ans_busiest c (nI n) = nI (busA c n 9) := by rw [ans_busiest, if_pos hx, ht]
    rw [e]
    refine E_iload_n d_TM_busiest_0 rfl ?_
    refine E_iconst (v := nI 0) d_TM_busiest_1 rfl ?_
    refine E_bipush (v := nI 10) d_TM_busiest_2 (by decide) ?_
    refine E_S3 (sp_TM_in _ 10 (by decide)) d_TM_busiest_4 ml_TM_69 cb_TM_isIn cs_TM_isIn ⟨by decide, by decide⟩ rfl (Nat.le_of_ble_eq_true rfl) (Nat.le_of_ble_eq_true rfl) (kI fun r1 M1 hc => ?_)
    obtain ⟨rfl, rfl⟩ := hc
    first | (with_reducible refine E_isP ?_; refine E_if_ne 12 d_TM_busiest_7 rfl (pb_1 fun h7 => ?_) (pb_0 fun h7 => ?_)) | (with_reducible refine E_isN1 ?_; refine E_if_ne 12 d_TM_busiest_7 rfl (nz_ne fun h7 => ?_) (nz_eq (by omega) fun h7 => ?_)) | refine E_if_ne 12 d_TM_busiest_7 rfl (fun h7 => ?_) (fun h7 => ?_)
    rotate_left
    · exfalso; exact h7 hx
    refine E_iconst (v := nI 0) d_TM_busiest_12 rfl ?_
    refine E_istore_2 d_TM_busiest_13 rfl ?_
    refine E_iconst (v := nI 1) d_TM_busiest_14 rfl ?_
    refine E_istore_3 d_TM_busiest_15 rfl ?_
    exact lp_TM_busiest hM (by omega) 9 0 rfl
  · refine E_iload_n d_TM_busiest_0 rfl ?_
    refine E_iconst (v := nI 0) d_TM_busiest_1 rfl ?_
    refine E_bipush (v := nI 10) d_TM_busiest_2 (by decide) ?_
    refine E_S3 (sp_TM_in _ 10 (by decide)) d_TM_busiest_4 ml_TM_69 cb_TM_isIn cs_TM_isIn ⟨by decide, by decide⟩ rfl (Nat.le_of_ble_eq_true rfl) (Nat.le_of_ble_eq_true rfl) (kI fun r1 M1 hc => ?_)
    obtain ⟨rfl, rfl⟩ := hc
    first | (with_reducible refine E_isP ?_; refine E_if_ne 12 d_TM_busiest_7 rfl (pb_1 fun h7 => ?_) (pb_0 fun h7 => ?_)) | (with_reducible refine E_isN1 ?_; refine E_if_ne 12 d_TM_busiest_7 rfl (nz_ne fun h7 => ?_) (nz_eq (by omega) fun h7 => ?_)) | refine E_if_ne 12 d_TM_busiest_7 rfl (fun h7 => ?_) (fun h7 => ?_)
    · exfalso; exact hx h7
    refine E_iconst (v := (-1)) d_TM_busiest_10 rfl ?_
    refine E_retI d_TM_busiest_11 rfl ?_
    exact ⟨by rw [ans_busiest, if_neg hx], rfl⟩
