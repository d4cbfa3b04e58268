def livesN (c : Cr) (l : Nat) : Nat := cnt (fun i => decide ((c.parties.getD i (0, 0)).1 ≤ l ∧ l ≤ (c.parties.getD i (0, 0)).2)) c.parties.length
def ans_lives (c : Cr) (x : Int32) : Int32 := if inN x 9 then nI (livesN c (tN x)) else -1
def mostA (c : Cr) : Nat → Nat
  | 0 => 0
  | k + 1 => if livesN c (mostA c k) < livesN c (k + 1) then k + 1 else mostA c k
def ans_most (c : Cr) : Int32 := nI (mostA c 8)
def liveB (c : Cr) (s : Nat) : Nat → Bool
  | 0 => true
  | n + 1 => liveB c s n && decide (¬ s / 2 ^ (c.parties.getD n (0, 0)).1 &&& (2 * 2 ^ ((c.parties.getD n (0, 0)).2 - (c.parties.getD n (0, 0)).1) - 1) = 0)
def fewA (c : Cr) : Nat → Nat → Nat
  | 0, b => b
  | k + 1, b => fewA c k (if pc9 k ≤ pc9 b ∧ liveB c k c.parties.length = true then k else b)
def fewN (c : Cr) : Nat := fewA c 512 511
def ans_fewest (c : Cr) (z : Int32) : Int32 := if z = 0 then nI (fewN c) else nI (pc9 (fewN c))
theorem Wf.partyD {c : Cr} (h : Wf c) {i : Nat} (hi : i < c.parties.length) : (c.parties.getD i (0, 0)).1 ≤ (c.parties.getD i (0, 0)).2 ∧ (c.parties.getD i (0, 0)).2 ≤ 8 := h.party _ (getD_mem hi)
theorem livesN_le {c : Cr} (h : Wf c) (l : Nat) : livesN c l ≤ 8 := Nat.le_trans (cnt_le _ _) h.parties
theorem lp_TM_livesBy {c : Cr} {M : Mem} {l : Nat} (hM : HM c M) (hl : l ≤ 8) :
    ∀ k i, i + k = c.parties.length → E 1 0 0 Y_TM_livesBy 4 [some (.ref 0), some (.int (nI l)), some (.int (nI (cnt (fun i => decide ((c.parties.getD i (0, 0)).1 ≤ l ∧ l ≤ (c.parties.getD i (0, 0)).2)) i))), some (.int (nI i))] [] GM M (QI GM fun r M' => r = nI (livesN c l) ∧ M' = M) := by
  have hR := hM.R
  have hA := hM.A
  have h8 := hM.w.parties
  intro k
  induction k with
  | zero =>
    intro i hi
    have hi2 : i = c.parties.length := by omega
    subst hi2
    refine E_iload_n d_TM_livesBy_4 rfl ?_
    first | refine E_aload_n d_TM_livesBy_5 rfl ?_ | refine E_aload_nN d_TM_livesBy_5 rfl ?_
    refine E_getR (q := 1) d_TM_livesBy_6 gf_TM_7 (by exact ⟨by decide, rfl⟩) (by exact hR _ rfl) ?_
    refine E_bipush (v := nI 84) d_TM_livesBy_9 (by decide) ?_
    refine E_iald d_TM_livesBy_11 (by exact ⟨by decide, rfl⟩) (by exact ⟨by with_reducible rfl, by omega, by decide⟩) (by first | exact hA.people | exact hA.parties | exact (hA.party (by omega)).1 | exact (hA.party (by omega)).2 | exact hA.village (by omega) | exact hA.written | exact hA.book (by omega) | rfl) ?_
    first | (with_reducible refine E_isN2 ?_; refine E_icmp_ge 60 d_TM_livesBy_12 rfl (nb_le (by omega) (by omega) fun h12 => ?_) (nb_nle (by omega) (by omega) fun h12 => ?_)) | refine E_icmp_ge 60 d_TM_livesBy_12 rfl (fun h12 => ?_) (fun h12 => ?_)
    rotate_left
    · exfalso; omega
    refine E_iload_n d_TM_livesBy_60 rfl ?_
    refine E_retI d_TM_livesBy_61 rfl ?_
    exact ⟨rfl, rfl⟩
  | succ k ih =>
    intro i hi
    have hp := hM.w.partyD (show i < c.parties.length by omega)
    have e : cnt (fun i => decide ((c.parties.getD i (0, 0)).1 ≤ l ∧ l ≤ (c.parties.getD i (0, 0)).2)) (i + 1) = cnt (fun i => decide ((c.parties.getD i (0, 0)).1 ≤ l ∧ l ≤ (c.parties.getD i (0, 0)).2)) i + (if decide ((c.parties.getD i (0, 0)).1 ≤ l ∧ l ≤ (c.parties.getD i (0, 0)).2) = true then 1 else 0) := rfl
    have el : (nI (c.parties.getD i (0, 0)).1 ≤ nI l ∧ nI l ≤ nI (c.parties.getD i (0, 0)).2) ↔ decide ((c.parties.getD i (0, 0)).1 ≤ l ∧ l ≤ (c.parties.getD i (0, 0)).2) = true := by
      rw [nI_leI (by omega) (by omega), nI_leI (by omega) (by omega), decide_eq_true_eq]
    refine E_iload_n d_TM_livesBy_4 rfl ?_
    first | refine E_aload_n d_TM_livesBy_5 rfl ?_ | refine E_aload_nN d_TM_livesBy_5 rfl ?_
    refine E_getR (q := 1) d_TM_livesBy_6 gf_TM_7 (by exact ⟨by decide, rfl⟩) (by exact hR _ rfl) ?_
    refine E_bipush (v := nI 84) d_TM_livesBy_9 (by decide) ?_
    refine E_iald d_TM_livesBy_11 (by exact ⟨by decide, rfl⟩) (by exact ⟨by with_reducible rfl, by omega, by decide⟩) (by first | exact hA.people | exact hA.parties | exact (hA.party (by omega)).1 | exact (hA.party (by omega)).2 | exact hA.village (by omega) | exact hA.written | exact hA.book (by omega) | rfl) ?_
    first | (with_reducible refine E_isN2 ?_; refine E_icmp_ge 60 d_TM_livesBy_12 rfl (nb_le (by omega) (by omega) fun h12 => ?_) (nb_nle (by omega) (by omega) fun h12 => ?_)) | refine E_icmp_ge 60 d_TM_livesBy_12 rfl (fun h12 => ?_) (fun h12 => ?_)
    · exfalso; omega
    refine E_iload_n d_TM_livesBy_15 rfl ?_
    refine E_iload_n d_TM_livesBy_16 rfl ?_
    first | refine E_aload_n d_TM_livesBy_17 rfl ?_ | refine E_aload_nN d_TM_livesBy_17 rfl ?_
    refine E_getR (q := 1) d_TM_livesBy_18 gf_TM_7 (by exact ⟨by decide, rfl⟩) (by exact hR _ rfl) ?_
    refine E_bipush (v := nI 68) d_TM_livesBy_21 (by decide) ?_
    refine E_iconst (v := nI 2) d_TM_livesBy_23 rfl ?_
    refine E_iload_n d_TM_livesBy_24 rfl ?_
    first | (with_reducible refine E_isN2 ?_; refine E_imulN d_TM_livesBy_25 ?_) | refine E_imul d_TM_livesBy_25 ?_
    first | (with_reducible refine E_isN2 ?_; refine E_iaddN d_TM_livesBy_26 ?_) | refine E_iadd d_TM_livesBy_26 ?_
    refine E_iald d_TM_livesBy_27 (by exact ⟨by decide, rfl⟩) (by exact ⟨by with_reducible rfl, by omega, by decide⟩) (by first | exact hA.people | exact hA.parties | exact (hA.party (by omega)).1 | exact (hA.party (by omega)).2 | exact hA.village (by omega) | exact hA.written | exact hA.book (by omega) | rfl) ?_
    first | refine E_aload_n d_TM_livesBy_28 rfl ?_ | refine E_aload_nN d_TM_livesBy_28 rfl ?_
    refine E_getR (q := 1) d_TM_livesBy_29 gf_TM_7 (by exact ⟨by decide, rfl⟩) (by exact hR _ rfl) ?_
    refine E_bipush (v := nI 68) d_TM_livesBy_32 (by decide) ?_
    refine E_iconst (v := nI 2) d_TM_livesBy_34 rfl ?_
    refine E_iload_n d_TM_livesBy_35 rfl ?_
    first | (with_reducible refine E_isN2 ?_; refine E_imulN d_TM_livesBy_36 ?_) | refine E_imul d_TM_livesBy_36 ?_
    first | (with_reducible refine E_isN2 ?_; refine E_iaddN d_TM_livesBy_37 ?_) | refine E_iadd d_TM_livesBy_37 ?_
    refine E_iconst (v := nI 1) d_TM_livesBy_38 rfl ?_
    first | (with_reducible refine E_isN2 ?_; refine E_iaddN d_TM_livesBy_39 ?_) | refine E_iadd d_TM_livesBy_39 ?_
    refine E_iald d_TM_livesBy_40 (by exact ⟨by decide, rfl⟩) (by exact ⟨by with_reducible rfl, by omega, by decide⟩) (by first | exact hA.people | exact hA.parties | exact (hA.party (by omega)).1 | exact (hA.party (by omega)).2 | exact hA.village (by omega) | exact hA.written | exact hA.book (by omega) | rfl) ?_
    refine E_S3 (sp_TM_isIn _ _ _) d_TM_livesBy_41 ml_TM_69 cb_TM_isIn cs_TM_isIn ⟨by decide, by decide⟩ rfl (Nat.le_of_ble_eq_true rfl) (Nat.le_of_ble_eq_true rfl) (kI fun r1 M1 hc => ?_)
    obtain ⟨rfl, rfl⟩ := hc
    first | (with_reducible refine E_isP ?_; refine E_if_eq 51 d_TM_livesBy_44 rfl (pb_0 fun h44 => ?_) (pb_1 fun h44 => ?_)) | (with_reducible refine E_isN1 ?_; refine E_if_eq 51 d_TM_livesBy_44 rfl (nz_eq (by omega) fun h44 => ?_) (nz_ne fun h44 => ?_)) | refine E_if_eq 51 d_TM_livesBy_44 rfl (fun h44 => ?_) (fun h44 => ?_)
    · refine E_iconst (v := nI 0) d_TM_livesBy_51 rfl ?_
      first | (with_reducible refine E_isN2 ?_; refine E_iaddN d_TM_livesBy_52 ?_) | refine E_iadd d_TM_livesBy_52 ?_
      refine E_istore_2 d_TM_livesBy_53 rfl ?_
      first | (with_reducible refine E_isL3 ?_; refine E_iincN3 (m := 1) d_TM_livesBy_54 rfl rfl ?_) | refine E_iinc_3 d_TM_livesBy_54 rfl rfl ?_
      refine E_goto 4 d_TM_livesBy_57 rfl ?_
      refine E_eqL ?_ (ih (i + 1) (by omega))
      rw [e]
      first | rw [if_pos (el.mp h44)] | rw [if_neg (fun q => h44 (el.mpr q))]
    · refine E_iconst (v := nI 1) d_TM_livesBy_47 rfl ?_
      refine E_goto 52 d_TM_livesBy_48 rfl ?_
      first | (with_reducible refine E_isN2 ?_; refine E_iaddN d_TM_livesBy_52 ?_) | refine E_iadd d_TM_livesBy_52 ?_
      refine E_istore_2 d_TM_livesBy_53 rfl ?_
      first | (with_reducible refine E_isL3 ?_; refine E_iincN3 (m := 1) d_TM_livesBy_54 rfl rfl ?_) | refine E_iinc_3 d_TM_livesBy_54 rfl rfl ?_
      refine E_goto 4 d_TM_livesBy_57 rfl ?_
      refine E_eqL ?_ (ih (i + 1) (by omega))
      rw [e]
      first | rw [if_pos (el.mp h44)] | rw [if_neg (fun q => h44 (el.mpr q))]
theorem sp_TM_livesBy {c : Cr} {M : Mem} {l : Nat} (hM : HM c M) (hl : l ≤ 8) : E 1 0 0 Y_TM_livesBy 0 [some (.ref 0), some (.int (nI l)), none, none] [] GM M (QI GM fun r M' => r = nI (livesN c l) ∧ M' = M) := by
  refine E_iconst (v := nI 0) d_TM_livesBy_0 rfl ?_
  refine E_istore_2 d_TM_livesBy_1 rfl ?_
  refine E_iconst (v := nI 0) d_TM_livesBy_2 rfl ?_
  refine E_istore_3 d_TM_livesBy_3 rfl ?_
  exact lp_TM_livesBy hM hl c.parties.length 0 (Nat.zero_add _)
theorem sp_TM_lives {c : Cr} {M : Mem} (hM : HM c M) (x : Int32) : E 2 0 0 Y_TM_lives 0 [some (.ref 0), some (.int x)] [] GM M (QI GM fun r M' => r = ans_lives c x ∧ M' = M) := by
  revert x
  refine args1 9 (fun l hl hx ht => ?_) (fun x hx => ?_)
  · refine E_iload_n d_TM_lives_0 rfl ?_
    refine E_iconst (v := nI 0) d_TM_lives_1 rfl ?_
    refine E_bipush (v := nI 8) d_TM_lives_2 (by decide) ?_
    refine E_S3 (sp_TM_in _ 8 (by decide)) d_TM_lives_4 ml_TM_69 cb_TM_isIn cs_TM_isIn ⟨by decide, by decide⟩ rfl (Nat.le_of_ble_eq_true rfl) (Nat.le_of_ble_eq_true rfl) (kI fun r1 M1 hc => ?_)
    obtain ⟨rfl, rfl⟩ := hc
    first | (with_reducible refine E_isP ?_; refine E_if_eq 18 d_TM_lives_7 rfl (pb_0 fun h7 => ?_) (pb_1 fun h7 => ?_)) | (with_reducible refine E_isN1 ?_; refine E_if_eq 18 d_TM_lives_7 rfl (nz_eq (by omega) fun h7 => ?_) (nz_ne fun h7 => ?_)) | refine E_if_eq 18 d_TM_lives_7 rfl (fun h7 => ?_) (fun h7 => ?_)
    · exfalso; exact h7 hx
    first | refine E_aload_n d_TM_lives_10 rfl ?_ | refine E_aload_nN d_TM_lives_10 rfl ?_
    refine E_iload_n d_TM_lives_11 rfl ?_
    refine E_V1 (sp_TM_livesBy hM (by omega)) d_TM_lives_12 ml_TM_437 cb_TM_livesBy cv_TM_livesBy (by exact ⟨by decide, rfl⟩) ⟨by decide, rfl⟩ ⟨by decide, by decide⟩ rfl (Nat.le_of_ble_eq_true rfl) (Nat.le_of_ble_eq_true rfl) (kI fun r1 M1 hc => ?_)
    obtain ⟨rfl, rfl⟩ := hc
    refine E_goto 19 d_TM_lives_15 rfl ?_
    refine E_retI d_TM_lives_19 rfl ?_
    exact ⟨by rw [ans_lives, if_pos hx, ht], rfl⟩
  · refine E_iload_n d_TM_lives_0 rfl ?_
    refine E_iconst (v := nI 0) d_TM_lives_1 rfl ?_
    refine E_bipush (v := nI 8) d_TM_lives_2 (by decide) ?_
    refine E_S3 (sp_TM_in _ 8 (by decide)) d_TM_lives_4 ml_TM_69 cb_TM_isIn cs_TM_isIn ⟨by decide, by decide⟩ rfl (Nat.le_of_ble_eq_true rfl) (Nat.le_of_ble_eq_true rfl) (kI fun r1 M1 hc => ?_)
    obtain ⟨rfl, rfl⟩ := hc
    first | (with_reducible refine E_isP ?_; refine E_if_eq 18 d_TM_lives_7 rfl (pb_0 fun h7 => ?_) (pb_1 fun h7 => ?_)) | (with_reducible refine E_isN1 ?_; refine E_if_eq 18 d_TM_lives_7 rfl (nz_eq (by omega) fun h7 => ?_) (nz_ne fun h7 => ?_)) | refine E_if_eq 18 d_TM_lives_7 rfl (fun h7 => ?_) (fun h7 => ?_)
    rotate_left
    · exfalso; exact hx h7
    refine E_iconst (v := (-1)) d_TM_lives_18 rfl ?_
    refine E_retI d_TM_lives_19 rfl ?_
    exact ⟨by rw [ans_lives, if_neg hx], rfl⟩
theorem mostA_le (c : Cr) : ∀ k, mostA c k ≤ k := by
  intro k
  induction k with
  | zero => exact Nat.le_refl _
  | succ k ih => rw [mostA]; split <;> omega
theorem lp_TM_most {c : Cr} {M : Mem} (hM : HM c M) : ∀ k n, n + k = 8 → E 2 0 0 Y_TM_most 4 [some (.ref 0), some (.int (nI (mostA c n))), some (.int (nI (n + 1)))] [] GM M (QI GM fun r M' => r = ans_most c ∧ M' = M) := by
  intro k
  induction k with
  | zero =>
    intro n hn
    have hn2 : n = 8 := by omega
    subst hn2
    refine E_iload_n d_TM_most_4 rfl ?_
    refine E_bipush (v := nI 8) d_TM_most_5 (by decide) ?_
    first | (with_reducible refine E_isN2 ?_; refine E_icmp_gt 31 d_TM_most_7 rfl (nb_lt (by omega) (by omega) fun h7 => ?_) (nb_nlt (by omega) (by omega) fun h7 => ?_)) | refine E_icmp_gt 31 d_TM_most_7 rfl (fun h7 => ?_) (fun h7 => ?_)
    rotate_left
    · exfalso; omega
    refine E_iload_n d_TM_most_31 rfl ?_
    refine E_retI d_TM_most_32 rfl ?_
    exact ⟨rfl, rfl⟩
  | succ k ih =>
    intro n hn
    have hm := mostA_le c n
    have l1 := livesN_le hM.w (n + 1)
    have l2 := livesN_le hM.w (mostA c n)
    have e : mostA c (n + 1) = if livesN c (mostA c n) < livesN c (n + 1) then n + 1 else mostA c n := rfl
    refine E_iload_n d_TM_most_4 rfl ?_
    refine E_bipush (v := nI 8) d_TM_most_5 (by decide) ?_
    first | (with_reducible refine E_isN2 ?_; refine E_icmp_gt 31 d_TM_most_7 rfl (nb_lt (by omega) (by omega) fun h7 => ?_) (nb_nlt (by omega) (by omega) fun h7 => ?_)) | refine E_icmp_gt 31 d_TM_most_7 rfl (fun h7 => ?_) (fun h7 => ?_)
    · exfalso; omega
    first | refine E_aload_n d_TM_most_10 rfl ?_ | refine E_aload_nN d_TM_most_10 rfl ?_
    refine E_iload_n d_TM_most_11 rfl ?_
    refine E_V1 (sp_TM_livesBy hM (by omega)) d_TM_most_12 ml_TM_437 cb_TM_livesBy cv_TM_livesBy (by exact ⟨by decide, rfl⟩) ⟨by decide, rfl⟩ ⟨by decide, by decide⟩ rfl (Nat.le_of_ble_eq_true rfl) (Nat.le_of_ble_eq_true rfl) (kI fun r1 M1 hc => ?_)
    obtain ⟨rfl, rfl⟩ := hc
    first | refine E_aload_n d_TM_most_15 rfl ?_ | refine E_aload_nN d_TM_most_15 rfl ?_
    refine E_iload_n d_TM_most_16 rfl ?_
    refine E_V1 (sp_TM_livesBy hM (by omega)) d_TM_most_17 ml_TM_437 cb_TM_livesBy cv_TM_livesBy (by exact ⟨by decide, rfl⟩) ⟨by decide, rfl⟩ ⟨by decide, by decide⟩ rfl (Nat.le_of_ble_eq_true rfl) (Nat.le_of_ble_eq_true rfl) (kI fun r1 M1 hc => ?_)
    obtain ⟨rfl, rfl⟩ := hc
    first | (with_reducible refine E_isN2 ?_; refine E_icmp_le 25 d_TM_most_20 rfl (nb_le (by omega) (by omega) fun h20 => ?_) (nb_nle (by omega) (by omega) fun h20 => ?_)) | refine E_icmp_le 25 d_TM_most_20 rfl (fun h20 => ?_) (fun h20 => ?_)
    · first | (with_reducible refine E_isL2 ?_; refine E_iincN2 (m := 1) d_TM_most_25 rfl rfl ?_) | refine E_iinc_2 d_TM_most_25 rfl rfl ?_
      refine E_goto 4 d_TM_most_28 rfl ?_
      refine E_eqL ?_ (ih (n + 1) (by omega))
      rw [e]
      first | rw [if_pos h20] | rw [if_neg (Nat.not_lt.mpr h20)]
    · refine E_iload_n d_TM_most_23 rfl ?_
      refine E_istore_1 d_TM_most_24 rfl ?_
      first | (with_reducible refine E_isL2 ?_; refine E_iincN2 (m := 1) d_TM_most_25 rfl rfl ?_) | refine E_iinc_2 d_TM_most_25 rfl rfl ?_
      refine E_goto 4 d_TM_most_28 rfl ?_
      refine E_eqL ?_ (ih (n + 1) (by omega))
      rw [e]
      first | rw [if_pos h20] | rw [if_neg (Nat.not_lt.mpr h20)]
theorem sp_TM_most {c : Cr} {M : Mem} (hM : HM c M) : E 2 0 0 Y_TM_most 0 [some (.ref 0), none, none] [] GM M (QI GM fun r M' => r = ans_most c ∧ M' = M) := by
  refine E_iconst (v := nI 0) d_TM_most_0 rfl ?_
  refine E_istore_1 d_TM_most_1 rfl ?_
  refine E_iconst (v := nI 1) d_TM_most_2 rfl ?_
  refine E_istore_2 d_TM_most_3 rfl ?_
  exact lp_TM_most hM 8 0 (by decide)
theorem liveB_f {c : Cr} {s : Nat} : ∀ j i, liveB c s i = false → liveB c s (i + j) = false := by
  intro j
  induction j with
  | zero => intro i h; exact h
  | succ j ih => intro i h; rw [← Nat.add_assoc, liveB, ih i h]; rfl
theorem lp_TM_doAll {c : Cr} {M : Mem} {s : Nat} (hM : HM c M) (hs : s < 512) :
    ∀ k i, i + k = c.parties.length → liveB c s i = true → E 0 0 0 Y_TM_doAllLive 2 [some (.ref 0), some (.int (nI s)), some (.int (nI i))] [] GM M (QI GM fun r M' => r = pI (liveB c s c.parties.length = true) ∧ M' = M) := by
  have hR := hM.R
  have hA := hM.A
  have h8 := hM.w.parties
  intro k
  induction k with
  | zero =>
    intro i hi hv
    have hi2 : i = c.parties.length := by omega
    subst hi2
    refine E_iload_n d_TM_doAllLive_2 rfl ?_
    first | refine E_aload_n d_TM_doAllLive_3 rfl ?_ | refine E_aload_nN d_TM_doAllLive_3 rfl ?_
    refine E_getR (q := 1) d_TM_doAllLive_4 gf_TM_7 (by exact ⟨by decide, rfl⟩) (by exact hR _ rfl) ?_
    refine E_bipush (v := nI 84) d_TM_doAllLive_7 (by decide) ?_
    refine E_iald d_TM_doAllLive_9 (by exact ⟨by decide, rfl⟩) (by exact ⟨by with_reducible rfl, by omega, by decide⟩) (by first | exact hA.people | exact hA.parties | exact (hA.party (by omega)).1 | exact (hA.party (by omega)).2 | exact hA.village (by omega) | exact hA.written | exact hA.book (by omega) | rfl) ?_
    first | (with_reducible refine E_isN2 ?_; refine E_icmp_ge 67 d_TM_doAllLive_10 rfl (nb_le (by omega) (by omega) fun h10 => ?_) (nb_nle (by omega) (by omega) fun h10 => ?_)) | refine E_icmp_ge 67 d_TM_doAllLive_10 rfl (fun h10 => ?_) (fun h10 => ?_)
    rotate_left
    · exfalso; omega
    refine E_iconst (v := nI 1) d_TM_doAllLive_67 rfl ?_
    refine E_retZ d_TM_doAllLive_68 rfl (by first | exact pI_01 _ | decide) ?_
    exact ⟨(pI_t hv).symm, rfl⟩
  | succ k ih =>
    intro i hi hv
    have hp := hM.w.partyD (show i < c.parties.length by omega)
    have e : liveB c s (i + 1) = (liveB c s i && decide (¬ s / 2 ^ (c.parties.getD i (0, 0)).1 &&& (2 * 2 ^ ((c.parties.getD i (0, 0)).2 - (c.parties.getD i (0, 0)).1) - 1) = 0)) := rfl
    rw [hv, Bool.true_and] at e
    revert hp e
    have hparty := hA.party (show i < c.parties.length by omega)
    revert hparty
    generalize (c.parties.getD i (0, 0)).1 = lo
    generalize (c.parties.getD i (0, 0)).2 = hi2
    intro hparty hp e
    have hpow : 2 ^ (hi2 - lo) ≤ 2 ^ 8 := Nat.pow_le_pow_right (by decide) (by omega)
    have hpos : 1 ≤ 2 ^ (hi2 - lo) := Nat.one_le_two_pow
    have hshl : 2 * 2 ^ (hi2 - lo) < 4294967296 := Nat.lt_of_le_of_lt (Nat.mul_le_mul_left 2 hpow) (by decide)
    have ha1 : s / 2 ^ lo &&& (2 * 2 ^ (hi2 - lo) - 1) ≤ s / 2 ^ lo := Nat.and_le_left
    have ha2 : s / 2 ^ lo ≤ s := Nat.div_le_self _ _
    refine E_iload_n d_TM_doAllLive_2 rfl ?_
    first | refine E_aload_n d_TM_doAllLive_3 rfl ?_ | refine E_aload_nN d_TM_doAllLive_3 rfl ?_
    refine E_getR (q := 1) d_TM_doAllLive_4 gf_TM_7 (by exact ⟨by decide, rfl⟩) (by exact hR _ rfl) ?_
    refine E_bipush (v := nI 84) d_TM_doAllLive_7 (by decide) ?_
    refine E_iald d_TM_doAllLive_9 (by exact ⟨by decide, rfl⟩) (by exact ⟨by with_reducible rfl, by omega, by decide⟩) (by first | exact hA.parties | exact hparty.1 | exact hparty.2) ?_
    first | (with_reducible refine E_isN2 ?_; refine E_icmp_ge 67 d_TM_doAllLive_10 rfl (nb_le (by omega) (by omega) fun h10 => ?_) (nb_nle (by omega) (by omega) fun h10 => ?_)) | refine E_icmp_ge 67 d_TM_doAllLive_10 rfl (fun h10 => ?_) (fun h10 => ?_)
    · exfalso; omega
    refine E_iload_n d_TM_doAllLive_13 rfl ?_
    first | refine E_aload_n d_TM_doAllLive_14 rfl ?_ | refine E_aload_nN d_TM_doAllLive_14 rfl ?_
    refine E_getR (q := 1) d_TM_doAllLive_15 gf_TM_7 (by exact ⟨by decide, rfl⟩) (by exact hR _ rfl) ?_
    refine E_bipush (v := nI 68) d_TM_doAllLive_18 (by decide) ?_
    refine E_iconst (v := nI 2) d_TM_doAllLive_20 rfl ?_
    refine E_iload_n d_TM_doAllLive_21 rfl ?_
    first | (with_reducible refine E_isN2 ?_; refine E_imulN d_TM_doAllLive_22 ?_) | refine E_imul d_TM_doAllLive_22 ?_
    first | (with_reducible refine E_isN2 ?_; refine E_iaddN d_TM_doAllLive_23 ?_) | refine E_iadd d_TM_doAllLive_23 ?_
    refine E_iald d_TM_doAllLive_24 (by exact ⟨by decide, rfl⟩) (by exact ⟨by with_reducible rfl, by omega, by decide⟩) (by first | exact hA.parties | exact hparty.1 | exact hparty.2) ?_
    first | (with_reducible refine E_isN2 ?_; refine E_ishrN d_TM_doAllLive_25 (by omega) (by omega) ?_) | refine E_ishr d_TM_doAllLive_25 ?_
    refine E_iconst (v := nI 2) d_TM_doAllLive_26 rfl ?_
    first | refine E_aload_n d_TM_doAllLive_27 rfl ?_ | refine E_aload_nN d_TM_doAllLive_27 rfl ?_
    refine E_getR (q := 1) d_TM_doAllLive_28 gf_TM_7 (by exact ⟨by decide, rfl⟩) (by exact hR _ rfl) ?_
    refine E_bipush (v := nI 68) d_TM_doAllLive_31 (by decide) ?_
    refine E_iconst (v := nI 2) d_TM_doAllLive_33 rfl ?_
    refine E_iload_n d_TM_doAllLive_34 rfl ?_
    first | (with_reducible refine E_isN2 ?_; refine E_imulN d_TM_doAllLive_35 ?_) | refine E_imul d_TM_doAllLive_35 ?_
    first | (with_reducible refine E_isN2 ?_; refine E_iaddN d_TM_doAllLive_36 ?_) | refine E_iadd d_TM_doAllLive_36 ?_
    refine E_iconst (v := nI 1) d_TM_doAllLive_37 rfl ?_
    first | (with_reducible refine E_isN2 ?_; refine E_iaddN d_TM_doAllLive_38 ?_) | refine E_iadd d_TM_doAllLive_38 ?_
    refine E_iald d_TM_doAllLive_39 (by exact ⟨by decide, rfl⟩) (by exact ⟨by with_reducible rfl, by omega, by decide⟩) (by first | exact hA.parties | exact hparty.1 | exact hparty.2) ?_
    first | refine E_aload_n d_TM_doAllLive_40 rfl ?_ | refine E_aload_nN d_TM_doAllLive_40 rfl ?_
    refine E_getR (q := 1) d_TM_doAllLive_41 gf_TM_7 (by exact ⟨by decide, rfl⟩) (by exact hR _ rfl) ?_
    refine E_bipush (v := nI 68) d_TM_doAllLive_44 (by decide) ?_
    refine E_iconst (v := nI 2) d_TM_doAllLive_46 rfl ?_
    refine E_iload_n d_TM_doAllLive_47 rfl ?_
    first | (with_reducible refine E_isN2 ?_; refine E_imulN d_TM_doAllLive_48 ?_) | refine E_imul d_TM_doAllLive_48 ?_
    first | (with_reducible refine E_isN2 ?_; refine E_iaddN d_TM_doAllLive_49 ?_) | refine E_iadd d_TM_doAllLive_49 ?_
    refine E_iald d_TM_doAllLive_50 (by exact ⟨by decide, rfl⟩) (by exact ⟨by with_reducible rfl, by omega, by decide⟩) (by first | exact hA.parties | exact hparty.1 | exact hparty.2) ?_
    first | (with_reducible refine E_isN2 ?_; refine E_isubN d_TM_doAllLive_51 (by omega) ?_) | refine E_isub d_TM_doAllLive_51 ?_
    first | (with_reducible refine E_isN2 ?_; first | refine E_ishl1 d_TM_doAllLive_52 (by omega) ?_ | refine E_ishlN d_TM_doAllLive_52 (by omega) (by exact hshl) ?_) | refine E_ishl d_TM_doAllLive_52 ?_
    refine E_iconst (v := nI 1) d_TM_doAllLive_53 rfl ?_
    first | (with_reducible refine E_isN2 ?_; refine E_isubN d_TM_doAllLive_54 (by omega) ?_) | refine E_isub d_TM_doAllLive_54 ?_
    first | (with_reducible refine E_isN2 ?_; refine E_iandN d_TM_doAllLive_55 ?_) | refine E_iand d_TM_doAllLive_55 ?_
    first | (with_reducible refine E_isP ?_; refine E_if_ne 61 d_TM_doAllLive_56 rfl (pb_1 fun h56 => ?_) (pb_0 fun h56 => ?_)) | (with_reducible refine E_isN1 ?_; refine E_if_ne 61 d_TM_doAllLive_56 rfl (nz_ne fun h56 => ?_) (nz_eq (by omega) fun h56 => ?_)) | refine E_if_ne 61 d_TM_doAllLive_56 rfl (fun h56 => ?_) (fun h56 => ?_)
    · first | (with_reducible refine E_isL2 ?_; refine E_iincN2 (m := 1) d_TM_doAllLive_61 rfl rfl ?_) | refine E_iinc_2 d_TM_doAllLive_61 rfl rfl ?_
      refine E_goto 2 d_TM_doAllLive_64 rfl ?_
      refine ih (i + 1) (by omega) (by rw [e]; exact decide_eq_true h56)
    · refine E_iconst (v := nI 0) d_TM_doAllLive_59 rfl ?_
      refine E_retZ d_TM_doAllLive_60 rfl (by first | exact pI_01 _ | decide) ?_
      exact ⟨(pI_f (fun q => by have h3 := liveB_f k (i + 1) (by rw [e]; exact decide_eq_false (fun q => q h56)); rw [show i + 1 + k = c.parties.length by omega] at h3; rw [h3] at q; exact Bool.noConfusion q)).symm, rfl⟩
theorem sp_TM_doAllLive {c : Cr} {M : Mem} {s : Nat} (hM : HM c M) (hs : s < 512) : E 0 0 0 Y_TM_doAllLive 0 [some (.ref 0), some (.int (nI s)), none] [] GM M (QI GM fun r M' => r = pI (liveB c s c.parties.length = true) ∧ M' = M) := by
  refine E_iconst (v := nI 0) d_TM_doAllLive_0 rfl ?_
  refine E_istore_2 d_TM_doAllLive_1 rfl ?_
  exact lp_TM_doAll hM hs c.parties.length 0 (Nat.zero_add _) rfl
theorem fewA_lt (c : Cr) : ∀ k b, k ≤ 512 → b < 512 → fewA c k b < 512 := by
  intro k
  induction k with
  | zero => intro b _ h; exact h
  | succ k ih => intro b hk h; rw [fewA]; refine ih _ (by omega) ?_; split <;> omega
theorem lp_TM_fewest {c : Cr} {M : Mem} {z : Int32} (hM : HM c M) : ∀ k b, k ≤ 512 → b < 512 → fewA c k b = fewN c → E 1 0 0 Y_TM_fewest 8 [some (.ref 0), some (.int z), some (.int (nI b)), some (.int (pM k))] [] GM M (QI GM fun r M' => r = ans_fewest c z ∧ M' = M) := by
  intro k
  induction k with
  | zero =>
    intro b hk hb hv
    rw [fewA] at hv
    rw [show pM 0 = -1 from rfl]
    refine E_iload_n d_TM_fewest_8 rfl ?_
    first | (with_reducible refine E_isN1 ?_; refine E_if_lt 39 d_TM_fewest_9 rfl (nz_lt (by omega) fun h9 => ?_) (nz_nlt (by omega) fun h9 => ?_)) | refine E_if_lt 39 d_TM_fewest_9 rfl (fun h9 => ?_) (fun h9 => ?_)
    rotate_left
    · exfalso; exact h9 (by decide)
    refine E_iload_n d_TM_fewest_39 rfl ?_
    first | (with_reducible refine E_isP ?_; refine E_if_eq 50 d_TM_fewest_40 rfl (pb_0 fun h40 => ?_) (pb_1 fun h40 => ?_)) | (with_reducible refine E_isN1 ?_; refine E_if_eq 50 d_TM_fewest_40 rfl (nz_eq (by omega) fun h40 => ?_) (nz_ne fun h40 => ?_)) | refine E_if_eq 50 d_TM_fewest_40 rfl (fun h40 => ?_) (fun h40 => ?_)
    · refine E_iload_n d_TM_fewest_50 rfl ?_
      refine E_retI d_TM_fewest_51 rfl ?_
      exact ⟨by rw [hv]; first | rw [ans_fewest, if_pos (by assumption)] | rw [ans_fewest, if_neg (by assumption)], rfl⟩
    · refine E_iload_n d_TM_fewest_43 rfl ?_
      refine E_S1 (sp_TM_bits _ hb) d_TM_fewest_44 ml_TM_267 cb_TM_bits cs_TM_bits ⟨by decide, by decide⟩ rfl (Nat.le_of_ble_eq_true rfl) (Nat.le_of_ble_eq_true rfl) (kI fun r1 M1 hc => ?_)
      obtain ⟨rfl, rfl⟩ := hc
      refine E_goto 51 d_TM_fewest_47 rfl ?_
      refine E_retI d_TM_fewest_51 rfl ?_
      exact ⟨by rw [hv]; first | rw [ans_fewest, if_pos (by assumption)] | rw [ans_fewest, if_neg (by assumption)], rfl⟩
  | succ k ih =>
    intro b hk hb hv
    rw [fewA] at hv
    rw [show pM (k + 1) = nI k from rfl]
    have b1 := pc9_le9 (s := k) (by omega)
    have b2 := pc9_le9 (s := b) (by omega)
    refine E_iload_n d_TM_fewest_8 rfl ?_
    first | (with_reducible refine E_isN1 ?_; refine E_if_lt 39 d_TM_fewest_9 rfl (nz_lt (by omega) fun h9 => ?_) (nz_nlt (by omega) fun h9 => ?_)) | refine E_if_lt 39 d_TM_fewest_9 rfl (fun h9 => ?_) (fun h9 => ?_)
    · exfalso; omega
    refine E_iload_n d_TM_fewest_12 rfl ?_
    refine E_S1 (sp_TM_bits _ (by omega)) d_TM_fewest_13 ml_TM_267 cb_TM_bits cs_TM_bits ⟨by decide, by decide⟩ rfl (Nat.le_of_ble_eq_true rfl) (Nat.le_of_ble_eq_true rfl) (kI fun r1 M1 hc => ?_)
    obtain ⟨rfl, rfl⟩ := hc
    refine E_iload_n d_TM_fewest_16 rfl ?_
    refine E_S1 (sp_TM_bits _ hb) d_TM_fewest_17 ml_TM_267 cb_TM_bits cs_TM_bits ⟨by decide, by decide⟩ rfl (Nat.le_of_ble_eq_true rfl) (Nat.le_of_ble_eq_true rfl) (kI fun r1 M1 hc => ?_)
    obtain ⟨rfl, rfl⟩ := hc
    first | (with_reducible refine E_isN2 ?_; refine E_icmp_gt 33 d_TM_fewest_20 rfl (nb_lt (by omega) (by omega) fun h20 => ?_) (nb_nlt (by omega) (by omega) fun h20 => ?_)) | refine E_icmp_gt 33 d_TM_fewest_20 rfl (fun h20 => ?_) (fun h20 => ?_)
    · first | (with_reducible refine E_isL3 ?_; refine E_iincD3 (m := 1) d_TM_fewest_33 (by decide) (by omega) rfl ?_) | refine E_iinc_3 d_TM_fewest_33 rfl rfl ?_
      refine E_goto 8 d_TM_fewest_36 rfl ?_
      first | (rw [if_pos (And.intro h20 h28)] at hv; exact E_eqL (by rw [pM_dec]) (ih k (by omega) (by omega) hv)) | (rw [if_neg (fun q : pc9 k ≤ pc9 b ∧ liveB c k c.parties.length = true => h28 q.2)] at hv; exact E_eqL (by rw [pM_dec]) (ih b (by omega) hb hv)) | (rw [if_neg (fun q : pc9 k ≤ pc9 b ∧ liveB c k c.parties.length = true => absurd q.1 (Nat.not_le.mpr h20))] at hv; exact E_eqL (by rw [pM_dec]) (ih b (by omega) hb hv))
    · first | refine E_aload_n d_TM_fewest_23 rfl ?_ | refine E_aload_nN d_TM_fewest_23 rfl ?_
      refine E_iload_n d_TM_fewest_24 rfl ?_
      refine E_V1 (sp_TM_doAllLive hM (by omega)) d_TM_fewest_25 ml_TM_440 cb_TM_doAllLive cv_TM_doAllLive (by exact ⟨by decide, rfl⟩) ⟨by decide, rfl⟩ ⟨by decide, by decide⟩ rfl (Nat.le_of_ble_eq_true rfl) (Nat.le_of_ble_eq_true rfl) (kI fun r1 M1 hc => ?_)
      obtain ⟨rfl, rfl⟩ := hc
      first | (with_reducible refine E_isP ?_; refine E_if_eq 33 d_TM_fewest_28 rfl (pb_0 fun h28 => ?_) (pb_1 fun h28 => ?_)) | (with_reducible refine E_isN1 ?_; refine E_if_eq 33 d_TM_fewest_28 rfl (nz_eq (by omega) fun h28 => ?_) (nz_ne fun h28 => ?_)) | refine E_if_eq 33 d_TM_fewest_28 rfl (fun h28 => ?_) (fun h28 => ?_)
      · first | (with_reducible refine E_isL3 ?_; refine E_iincD3 (m := 1) d_TM_fewest_33 (by decide) (by omega) rfl ?_) | refine E_iinc_3 d_TM_fewest_33 rfl rfl ?_
        refine E_goto 8 d_TM_fewest_36 rfl ?_
        first | (rw [if_pos (And.intro h20 h28)] at hv; exact E_eqL (by rw [pM_dec]) (ih k (by omega) (by omega) hv)) | (rw [if_neg (fun q : pc9 k ≤ pc9 b ∧ liveB c k c.parties.length = true => h28 q.2)] at hv; exact E_eqL (by rw [pM_dec]) (ih b (by omega) hb hv)) | (rw [if_neg (fun q : pc9 k ≤ pc9 b ∧ liveB c k c.parties.length = true => absurd q.1 (Nat.not_le.mpr h20))] at hv; exact E_eqL (by rw [pM_dec]) (ih b (by omega) hb hv))
      · refine E_iload_n d_TM_fewest_31 rfl ?_
        refine E_istore_2 d_TM_fewest_32 rfl ?_
        first | (with_reducible refine E_isL3 ?_; refine E_iincD3 (m := 1) d_TM_fewest_33 (by decide) (by omega) rfl ?_) | refine E_iinc_3 d_TM_fewest_33 rfl rfl ?_
        refine E_goto 8 d_TM_fewest_36 rfl ?_
        first | (rw [if_pos (And.intro h20 h28)] at hv; exact E_eqL (by rw [pM_dec]) (ih k (by omega) (by omega) hv)) | (rw [if_neg (fun q : pc9 k ≤ pc9 b ∧ liveB c k c.parties.length = true => h28 q.2)] at hv; exact E_eqL (by rw [pM_dec]) (ih b (by omega) hb hv)) | (rw [if_neg (fun q : pc9 k ≤ pc9 b ∧ liveB c k c.parties.length = true => absurd q.1 (Nat.not_le.mpr h20))] at hv; exact E_eqL (by rw [pM_dec]) (ih b (by omega) hb hv))
theorem sp_TM_fewest {c : Cr} {M : Mem} (hM : HM c M) (z : Int32) : E 1 0 0 Y_TM_fewest 0 [some (.ref 0), some (.int z), none, none] [] GM M (QI GM fun r M' => r = ans_fewest c z ∧ M' = M) := by
  refine E_sipush (v := nI 511) d_TM_fewest_0 (by decide) ?_
  refine E_istore_2 d_TM_fewest_3 rfl ?_
  refine E_sipush (v := nI 511) d_TM_fewest_4 (by decide) ?_
  refine E_istore_3 d_TM_fewest_7 rfl ?_
  exact lp_TM_fewest hM 512 511 (by decide) (by decide) rfl
