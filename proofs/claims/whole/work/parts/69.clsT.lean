theorem land_div (s lo hi : Nat) (h : lo ≤ hi) : (s &&& (2 ^ (hi + 1) - 1)) / 2 ^ lo = s / 2 ^ lo &&& (2 * 2 ^ (hi - lo) - 1) := by
  apply Nat.eq_of_testBit_eq
  intro k
  rw [show 2 * 2 ^ (hi - lo) = 2 ^ (hi - lo + 1) by rw [Nat.pow_succ, Nat.mul_comm], Nat.testBit_and, Nat.testBit_div_two_pow, Nat.testBit_div_two_pow, Nat.testBit_and, Nat.testBit_two_pow_sub_one, Nat.testBit_two_pow_sub_one]
  congr 1
  by_cases q : k + lo < hi + 1
  · rw [decide_eq_true q, decide_eq_true (show k < hi - lo + 1 by omega)]
  · rw [decide_eq_false q, decide_eq_false (show ¬ k < hi - lo + 1 by omega)]
def pbB (c : Cr) (s i : Nat) : Bool := decide (¬ (s &&& (2 ^ ((c.parties.getD i (0, 0)).2 + 1) - 1)) / 2 ^ (c.parties.getD i (0, 0)).1 = 0)
def pbN (c : Cr) (s : Nat) : Nat := cnt (pbB c s) c.parties.length
theorem cnt_congr {P Q : Nat → Bool} : ∀ n, (∀ i, i < n → P i = Q i) → cnt P n = cnt Q n := by
  intro n
  induction n with
  | zero => intro _; rfl
  | succ n ih => intro h; rw [cnt, cnt, ih (fun i hi => h i (by omega)), h n (Nat.lt_succ_self n)]
theorem cnt_all {P : Nat → Bool} : ∀ n, cnt P n = n ↔ ∀ i, i < n → P i = true := by
  intro n
  induction n with
  | zero => exact ⟨fun _ i hi => absurd hi (Nat.not_lt_zero i), fun _ => rfl⟩
  | succ n ih =>
    have hle := cnt_le P n
    rw [cnt]
    constructor
    · intro h i hi
      by_cases q : P n = true
      · rw [if_pos q] at h
        by_cases e : i = n
        · rw [e]; exact q
        · exact (ih.mp (by omega)) i (by omega)
      · rw [if_neg q] at h
        omega
    · intro h
      rw [if_pos (h n (Nat.lt_succ_self n)), ih.mpr (fun i hi => h i (by omega))]
theorem liveB_all {c : Cr} {s : Nat} : ∀ n, liveB c s n = true ↔ ∀ i, i < n → ¬ s / 2 ^ (c.parties.getD i (0, 0)).1 &&& (2 * 2 ^ ((c.parties.getD i (0, 0)).2 - (c.parties.getD i (0, 0)).1) - 1) = 0 := by
  intro n
  induction n with
  | zero => exact ⟨fun _ i hi => absurd hi (Nat.not_lt_zero i), fun _ => rfl⟩
  | succ n ih =>
    rw [liveB, Bool.and_eq_true, ih, decide_eq_true_eq]
    constructor
    · rintro ⟨h1, h2⟩ i hi
      by_cases e : i = n
      · rw [e]; exact h2
      · exact h1 i (by omega)
    · intro h
      exact ⟨fun i hi => h i (by omega), h n (Nat.lt_succ_self n)⟩
theorem pb_live {c : Cr} (h : Wf c) (s : Nat) : pbN c s = c.parties.length ↔ liveB c s c.parties.length = true := by
  unfold pbN
  rw [cnt_all, liveB_all]
  constructor
  · intro q i hi
    have := q i hi
    unfold pbB at this
    rw [land_div _ _ _ (h.partyD hi).1] at this
    exact of_decide_eq_true this
  · intro q i hi
    unfold pbB
    rw [land_div _ _ _ (h.partyD hi).1]
    exact decide_eq_true (q i hi)
theorem lv_tab : ∀ l, l < 9 → ∀ lo, lo < 9 → ∀ hi, hi < 9 → (hi < lo ∨ decide (¬ (2 ^ l &&& (2 ^ (hi + 1) - 1)) / 2 ^ lo = 0) = decide (lo ≤ l ∧ l ≤ hi)) := by decide +kernel
theorem pb_lives {c : Cr} (h : Wf c) {l : Nat} (hl : l ≤ 8) : pbN c (2 ^ l) = livesN c l := by
  refine cnt_congr _ (fun i hi => ?_)
  have hp := h.partyD hi
  have := lv_tab l (by omega) _ (show (c.parties.getD i (0, 0)).1 < 9 by omega) _ (show (c.parties.getD i (0, 0)).2 < 9 by omega)
  unfold pbB
  exact this.elim (fun q => by omega) id
section TPc
variable {c : Cr} {G : Geo} {M : Mem}
theorem pbN_le (h : Wf c) (s : Nat) : pbN c s ≤ 8 := Nat.le_trans (cnt_le _ _) h.parties
theorem sp_Cr_partiesBy (hC : CM c G M) {s : Nat} (hs : s < 512) : E 1 0 0 Y_Cr_partiesBy 0 [some (.ref 1), some (.int (nI s)), none, none, none] [] G M (QI G fun r M' => r = nI (pbN c s) ∧ M' = M) := by
  have hG := hC.G
  have hR := hC.R
  have h8 := hC.w.parties
  have hpl := hC.H.parties
  have hm := hC.now
  have L : ∀ k i, i + k = c.parties.length → E 1 0 0 Y_Cr_partiesBy 4 [some (.ref 1), some (.int (nI s)), some (.int (nI (cnt (pbB c s) i))), some (.int (nI i)), none] [] G M (QI G fun r M' => r = nI (pbN c s) ∧ M' = M) := by
    intro k
    induction k with
    | zero =>
      intro i hi
      have hi2 : i = c.parties.length := by omega
      subst hi2
      refine E_iload_n d_Cr_partiesBy_4 rfl ?_
      first | refine E_aload_n d_Cr_partiesBy_5 rfl ?_ | refine E_aload_nN d_Cr_partiesBy_5 rfl ?_
      refine E_getI d_Cr_partiesBy_6 gf_Cr_87 (by first | exact hG.s (by decide) rfl | exact hG.m1 ad2) (by first | exact hm.people | exact hpl | rfl) ?_
      first | (with_reducible refine E_isN2 ?_; refine E_icmp_ge 53 d_Cr_partiesBy_9 rfl (nb_le (by omega) (by omega) fun h9 => ?_) (nb_nle (by omega) (by omega) fun h9 => ?_)) | refine E_icmp_ge 53 d_Cr_partiesBy_9 rfl (fun h9 => ?_) (fun h9 => ?_)
      rotate_left
      · exfalso; omega
      refine E_iload_n d_Cr_partiesBy_53 rfl ?_
      refine E_retI d_Cr_partiesBy_54 rfl ?_
      exact ⟨rfl, rfl⟩
    | succ k ih =>
      intro i hi
      have hil : i < c.parties.length := by omega
      have hp := hC.w.partyD hil
      have hpp := hC.H.party hil
      have ih2 := ih (i + 1) (by omega)
      have e : cnt (pbB c s) (i + 1) = cnt (pbB c s) i + (if pbB c s i = true then 1 else 0) := rfl
      rw [e] at ih2
      have i1 : (s &&& (2 ^ ((c.parties.getD i (0, 0)).2 + 1) - 1)) / 2 ^ (c.parties.getD i (0, 0)).1 ≠ 0 → (if pbB c s i = true then 1 else 0) = 1 := fun q => if_pos (decide_eq_true q)
      have i0 : (s &&& (2 ^ ((c.parties.getD i (0, 0)).2 + 1) - 1)) / 2 ^ (c.parties.getD i (0, 0)).1 = 0 → (if pbB c s i = true then 1 else 0) = 0 := fun q => if_neg (by unfold pbB; rw [decide_eq_false (fun r => r q)]; exact Bool.false_ne_true)
      revert ih2 i1 i0 hpp hp
      generalize (c.parties.getD i (0, 0)).1 = lo
      generalize (c.parties.getD i (0, 0)).2 = hi2
      intro hp hpp ih2 i1 i0
      have hpow : 2 ^ (hi2 + 1) ≤ 2 ^ 9 := Nat.pow_le_pow_right (by decide) (by omega)
      have hpos : 1 ≤ 2 ^ (hi2 + 1) := Nat.one_le_two_pow
      have ha : s &&& (2 ^ (hi2 + 1) - 1) ≤ s := Nat.and_le_left
      have hd : (s &&& (2 ^ (hi2 + 1) - 1)) / 2 ^ lo ≤ s &&& (2 ^ (hi2 + 1) - 1) := Nat.div_le_self _ _
      have hnw : ∀ x, E 1 0 0 Y_Cr_partiesBy 4 [some (.ref 1), some (.int (nI s)), some (.int (nI x)), some (.int (nI (i + 1))), none] [] G M (QI G fun r M' => r = nI (pbN c s) ∧ M' = M) → ∀ y, E 1 0 0 Y_Cr_partiesBy 4 [some (.ref 1), some (.int (nI s)), some (.int (nI x)), some (.int (nI (i + 1))), y] [] G M (QI G fun r M' => r = nI (pbN c s) ∧ M' = M) := fun x h y => E_wk (by exact ⟨Or.inl rfl, Or.inl rfl, Or.inl rfl, Or.inl rfl, Or.inr rfl, trivial⟩) h
      refine E_iload_n d_Cr_partiesBy_4 rfl ?_
      first | refine E_aload_n d_Cr_partiesBy_5 rfl ?_ | refine E_aload_nN d_Cr_partiesBy_5 rfl ?_
      refine E_getI d_Cr_partiesBy_6 gf_Cr_87 (by first | exact hG.s (by decide) rfl | exact hG.m1 ad2) (by first | exact hm.people | exact hpl | rfl) ?_
      first | (with_reducible refine E_isN2 ?_; refine E_icmp_ge 53 d_Cr_partiesBy_9 rfl (nb_le (by omega) (by omega) fun h9 => ?_) (nb_nle (by omega) (by omega) fun h9 => ?_)) | refine E_icmp_ge 53 d_Cr_partiesBy_9 rfl (fun h9 => ?_) (fun h9 => ?_)
      · exfalso; omega
      refine E_iconst (v := nI 1) d_Cr_partiesBy_12 rfl ?_
      first | refine E_aload_n d_Cr_partiesBy_13 rfl ?_ | refine E_aload_nN d_Cr_partiesBy_13 rfl ?_
      refine E_getR d_Cr_partiesBy_14 gf_Cr_45 (by first | exact hG.s (by decide) rfl | exact hG.m1 ad2) (by first | exact hR.o rfl | exact hR.c cr1 rfl | exact hR.m0 ad2) ?_
      refine E_iload_n d_Cr_partiesBy_17 rfl ?_
      refine E_SN2 (sp_TP_at (hG.s (k := 1 + 10) (by decide) rfl) (by decide) (by omega) hpp.2) d_Cr_partiesBy_18 nl_Cr_107 cb_TP_at cs_TP_at ⟨by decide, by decide⟩ rfl (Nat.le_of_ble_eq_true rfl) (Nat.le_of_ble_eq_true rfl) (kI fun r1 M1 hc => ?_)
      obtain ⟨rfl, rfl⟩ := hc
      refine E_iconst (v := nI 1) d_Cr_partiesBy_21 rfl ?_
      first | (with_reducible refine E_isN2 ?_; refine E_iaddN d_Cr_partiesBy_22 ?_) | refine E_iadd d_Cr_partiesBy_22 ?_
      first | (with_reducible refine E_isN2 ?_; first | refine E_ishl1 d_Cr_partiesBy_23 (by omega) ?_ | refine E_ishlN d_Cr_partiesBy_23 (by omega) (by omega) ?_) | refine E_ishl d_Cr_partiesBy_23 ?_
      refine E_iconst (v := nI 1) d_Cr_partiesBy_24 rfl ?_
      first | (with_reducible refine E_isN2 ?_; refine E_isubN d_Cr_partiesBy_25 (by omega) ?_) | refine E_isub d_Cr_partiesBy_25 ?_
      refine E_istore_4 d_Cr_partiesBy_26 rfl ?_
      refine E_iload_n d_Cr_partiesBy_28 rfl ?_
      refine E_iload d_Cr_partiesBy_29 rfl ?_
      first | (with_reducible refine E_isN2 ?_; refine E_iandN d_Cr_partiesBy_31 ?_) | refine E_iand d_Cr_partiesBy_31 ?_
      first | refine E_aload_n d_Cr_partiesBy_32 rfl ?_ | refine E_aload_nN d_Cr_partiesBy_32 rfl ?_
      refine E_getR d_Cr_partiesBy_33 gf_Cr_42 (by first | exact hG.s (by decide) rfl | exact hG.m1 ad2) (by first | exact hR.o rfl | exact hR.c cr1 rfl | exact hR.m0 ad2) ?_
      refine E_iload_n d_Cr_partiesBy_36 rfl ?_
      refine E_SN2 (sp_TP_at (hG.s (k := 1 + 9) (by decide) rfl) (by decide) (by omega) hpp.1) d_Cr_partiesBy_37 nl_Cr_107 cb_TP_at cs_TP_at ⟨by decide, by decide⟩ rfl (Nat.le_of_ble_eq_true rfl) (Nat.le_of_ble_eq_true rfl) (kI fun r1 M1 hc => ?_)
      obtain ⟨rfl, rfl⟩ := hc
      first | (with_reducible refine E_isN2 ?_; refine E_ishrN d_Cr_partiesBy_40 (by omega) (by omega) ?_) | refine E_ishr d_Cr_partiesBy_40 ?_
      first | (with_reducible refine E_isP ?_; refine E_if_eq 47 d_Cr_partiesBy_41 rfl (pb_0 fun h41 => ?_) (pb_1 fun h41 => ?_)) | (with_reducible refine E_isN1 ?_; refine E_if_eq 47 d_Cr_partiesBy_41 rfl (nz_eq (by omega) fun h41 => ?_) (nz_ne fun h41 => ?_)) | refine E_if_eq 47 d_Cr_partiesBy_41 rfl (fun h41 => ?_) (fun h41 => ?_)
      · first | (with_reducible refine E_isL3 ?_; refine E_iincN3 (m := 1) d_Cr_partiesBy_47 rfl rfl ?_) | refine E_iinc_3 d_Cr_partiesBy_47 rfl rfl ?_
        refine E_goto 4 d_Cr_partiesBy_50 rfl ?_
        first | (rw [i0 h41] at ih2; exact hnw _ ih2 _) | (rw [i1 h41] at ih2; exact hnw _ ih2 _)
      · first | (with_reducible refine E_isL2 ?_; refine E_iincN2 (m := 1) d_Cr_partiesBy_44 rfl rfl ?_) | refine E_iinc_2 d_Cr_partiesBy_44 rfl rfl ?_
        first | (with_reducible refine E_isL3 ?_; refine E_iincN3 (m := 1) d_Cr_partiesBy_47 rfl rfl ?_) | refine E_iinc_3 d_Cr_partiesBy_47 rfl rfl ?_
        refine E_goto 4 d_Cr_partiesBy_50 rfl ?_
        first | (rw [i0 h41] at ih2; exact hnw _ ih2 _) | (rw [i1 h41] at ih2; exact hnw _ ih2 _)
  refine E_iconst (v := nI 0) d_Cr_partiesBy_0 rfl ?_
  refine E_istore_2 d_Cr_partiesBy_1 rfl ?_
  refine E_iconst (v := nI 0) d_Cr_partiesBy_2 rfl ?_
  refine E_istore_3 d_Cr_partiesBy_3 rfl ?_
  exact L c.parties.length 0 (Nat.zero_add _)
theorem p2l (l : Nat) (h : l ≤ 8) : 2 ^ l < 512 := Nat.lt_of_le_of_lt (Nat.pow_le_pow_right (by decide) h) (by decide)
theorem sp_TP_lives (hC : CM c G M) (x : Int32) : E 2 0 0 Y_TP_lives 0 [some (.ref 0), some (.int x)] [] G M (QI G fun r M' => r = ans_lives c x ∧ Sc CQ M M') := by
  have hG := hC.G
  have hR := hC.R
  revert x
  refine args1 9 (fun l hl hx ht => ?_) (fun x hx => ?_)
  · rw [ans_lives, if_pos hx, ht, ← pb_lives hC.w (by omega)]
    refine E_iload_n d_TP_lives_0 rfl ?_
    first | (with_reducible refine E_isN1 ?_; refine E_if_lt 10 d_TP_lives_1 rfl (nz_lt (by omega) fun h1 => ?_) (nz_nlt (by omega) fun h1 => ?_)) | refine E_if_lt 10 d_TP_lives_1 rfl (fun h1 => ?_) (fun h1 => ?_)
    · exfalso; exact absurd h1 (Nat.not_lt_zero l)
    refine E_iload_n d_TP_lives_4 rfl ?_
    refine E_bipush (v := nI 8) d_TP_lives_5 (by decide) ?_
    first | (with_reducible refine E_isN2 ?_; refine E_icmp_le 14 d_TP_lives_7 rfl (nb_le (by omega) (by omega) fun h7 => ?_) (nb_nle (by omega) (by omega) fun h7 => ?_)) | refine E_icmp_le 14 d_TP_lives_7 rfl (fun h7 => ?_) (fun h7 => ?_)
    rotate_left
    · exfalso; omega
    first | refine E_aload_n d_TP_lives_14 rfl ?_ | refine E_aload_nN d_TP_lives_14 rfl ?_
    refine E_getR d_TP_lives_15 gf_TP_10 (by first | exact hG.s (by decide) rfl | exact hG.m1 ad2) (by first | exact hR.o rfl | exact hR.c cr1 rfl | exact hR.m0 ad2) ?_
    refine E_iconst (v := nI 1) d_TP_lives_18 rfl ?_
    refine E_iload_n d_TP_lives_19 rfl ?_
    first | (with_reducible refine E_isN2 ?_; first | refine E_ishl1 d_TP_lives_20 (by omega) ?_ | refine E_ishlN d_TP_lives_20 (by omega) (by omega) ?_) | refine E_ishl d_TP_lives_20 ?_
    refine E_V1 (sp_Cr_partiesBy hC (p2l l (by omega))) d_TP_lives_21 ml_TP_339 cb_Cr_partiesBy cv_Cr_partiesBy (by first | exact hG.s (by decide) rfl | exact hG.m1 ad2) ⟨by decide, rfl⟩ ⟨by decide, by decide⟩ rfl (Nat.le_of_ble_eq_true rfl) (Nat.le_of_ble_eq_true rfl) (kI fun r1 M1 hc => ?_)
    obtain ⟨rfl, rfl⟩ := hc
    refine E_retI d_TP_lives_24 rfl ?_
    exact ⟨rfl, Sc.rf⟩
  · have ho := out_le (n := 8) (by decide) hx
    refine E_iload_n d_TP_lives_0 rfl ?_
    first | (with_reducible refine E_isN1 ?_; refine E_if_lt 10 d_TP_lives_1 rfl (nz_lt (by omega) fun h1 => ?_) (nz_nlt (by omega) fun h1 => ?_)) | refine E_if_lt 10 d_TP_lives_1 rfl (fun h1 => ?_) (fun h1 => ?_)
    · refine E_iconst (v := (-1)) d_TP_lives_10 rfl ?_
      refine E_goto 24 d_TP_lives_11 rfl ?_
      refine E_retI d_TP_lives_24 rfl ?_
      exact ⟨by rw [ans_lives, if_neg hx], Sc.rf⟩
    · refine E_iload_n d_TP_lives_4 rfl ?_
      refine E_bipush (v := nI 8) d_TP_lives_5 (by decide) ?_
      first | (with_reducible refine E_isN2 ?_; refine E_icmp_le 14 d_TP_lives_7 rfl (nb_le (by omega) (by omega) fun h7 => ?_) (nb_nle (by omega) (by omega) fun h7 => ?_)) | refine E_icmp_le 14 d_TP_lives_7 rfl (fun h7 => ?_) (fun h7 => ?_)
      · exfalso; exact ho h1 h7
      refine E_iconst (v := (-1)) d_TP_lives_10 rfl ?_
      refine E_goto 24 d_TP_lives_11 rfl ?_
      refine E_retI d_TP_lives_24 rfl ?_
      exact ⟨by rw [ans_lives, if_neg hx], Sc.rf⟩
theorem sp_TP_most (hC : CM c G M) : E 2 0 0 Y_TP_most 0 [some (.ref 0), none, none] [] G M (QI G fun r M' => r = ans_most c ∧ Sc CQ M M') := by
  have hG := hC.G
  have hR := hC.R
  have L : ∀ k n, n + k = 8 → E 2 0 0 Y_TP_most 4 [some (.ref 0), some (.int (nI (mostA c n))), some (.int (nI (n + 1)))] [] G M (QI G fun r M' => r = ans_most c ∧ Sc CQ M M') := by
    intro k
    induction k with
    | zero =>
      intro n hn
      have hn2 : n = 8 := by omega
      subst hn2
      refine E_iload_n d_TP_most_4 rfl ?_
      refine E_bipush (v := nI 8) d_TP_most_5 (by decide) ?_
      first | (with_reducible refine E_isN2 ?_; refine E_icmp_gt 41 d_TP_most_7 rfl (nb_lt (by omega) (by omega) fun h7 => ?_) (nb_nlt (by omega) (by omega) fun h7 => ?_)) | refine E_icmp_gt 41 d_TP_most_7 rfl (fun h7 => ?_) (fun h7 => ?_)
      rotate_left
      · exfalso; omega
      refine E_iload_n d_TP_most_41 rfl ?_
      refine E_retI d_TP_most_42 rfl ?_
      exact ⟨rfl, Sc.rf⟩
    | succ k ih =>
      intro n hn
      have hm := mostA_le c n
      have l1 := livesN_le hC.w (n + 1)
      have l2 := livesN_le hC.w (mostA c n)
      have e : mostA c (n + 1) = if livesN c (mostA c n) < livesN c (n + 1) then n + 1 else mostA c n := rfl
      have ih2 := ih (n + 1) (by omega)
      rw [e] at ih2
      refine E_iload_n d_TP_most_4 rfl ?_
      refine E_bipush (v := nI 8) d_TP_most_5 (by decide) ?_
      first | (with_reducible refine E_isN2 ?_; refine E_icmp_gt 41 d_TP_most_7 rfl (nb_lt (by omega) (by omega) fun h7 => ?_) (nb_nlt (by omega) (by omega) fun h7 => ?_)) | refine E_icmp_gt 41 d_TP_most_7 rfl (fun h7 => ?_) (fun h7 => ?_)
      · exfalso; omega
      first | refine E_aload_n d_TP_most_10 rfl ?_ | refine E_aload_nN d_TP_most_10 rfl ?_
      refine E_getR d_TP_most_11 gf_TP_10 (by first | exact hG.s (by decide) rfl | exact hG.m1 ad2) (by first | exact hR.o rfl | exact hR.c cr1 rfl | exact hR.m0 ad2) ?_
      refine E_iconst (v := nI 1) d_TP_most_14 rfl ?_
      refine E_iload_n d_TP_most_15 rfl ?_
      first | (with_reducible refine E_isN2 ?_; first | refine E_ishl1 d_TP_most_16 (by omega) ?_ | refine E_ishlN d_TP_most_16 (by omega) (by omega) ?_) | refine E_ishl d_TP_most_16 ?_
      refine E_V1 (sp_Cr_partiesBy hC (p2l _ (by omega))) d_TP_most_17 ml_TP_339 cb_Cr_partiesBy cv_Cr_partiesBy (by first | exact hG.s (by decide) rfl | exact hG.m1 ad2) ⟨by decide, rfl⟩ ⟨by decide, by decide⟩ rfl (Nat.le_of_ble_eq_true rfl) (Nat.le_of_ble_eq_true rfl) (kI fun r1 M1 hc => ?_)
      obtain ⟨rfl, rfl⟩ := hc; rw [pb_lives hC.w (by omega)]
      first | refine E_aload_n d_TP_most_20 rfl ?_ | refine E_aload_nN d_TP_most_20 rfl ?_
      refine E_getR d_TP_most_21 gf_TP_10 (by first | exact hG.s (by decide) rfl | exact hG.m1 ad2) (by first | exact hR.o rfl | exact hR.c cr1 rfl | exact hR.m0 ad2) ?_
      refine E_iconst (v := nI 1) d_TP_most_24 rfl ?_
      refine E_iload_n d_TP_most_25 rfl ?_
      first | (with_reducible refine E_isN2 ?_; first | refine E_ishl1 d_TP_most_26 (by omega) ?_ | refine E_ishlN d_TP_most_26 (by omega) (by omega) ?_) | refine E_ishl d_TP_most_26 ?_
      refine E_V1 (sp_Cr_partiesBy hC (p2l _ (by omega))) d_TP_most_27 ml_TP_339 cb_Cr_partiesBy cv_Cr_partiesBy (by first | exact hG.s (by decide) rfl | exact hG.m1 ad2) ⟨by decide, rfl⟩ ⟨by decide, by decide⟩ rfl (Nat.le_of_ble_eq_true rfl) (Nat.le_of_ble_eq_true rfl) (kI fun r1 M1 hc => ?_)
      obtain ⟨rfl, rfl⟩ := hc; rw [pb_lives hC.w (by omega)]
      first | (with_reducible refine E_isN2 ?_; refine E_icmp_le 35 d_TP_most_30 rfl (nb_le (by omega) (by omega) fun h30 => ?_) (nb_nle (by omega) (by omega) fun h30 => ?_)) | refine E_icmp_le 35 d_TP_most_30 rfl (fun h30 => ?_) (fun h30 => ?_)
      · first | (with_reducible refine E_isL2 ?_; refine E_iincN2 (m := 1) d_TP_most_35 rfl rfl ?_) | refine E_iinc_2 d_TP_most_35 rfl rfl ?_
        refine E_goto 4 d_TP_most_38 rfl ?_
        first | (rw [if_neg (Nat.not_lt.mpr h30)] at ih2; exact ih2) | (rw [if_pos h30] at ih2; exact ih2)
      · refine E_iload_n d_TP_most_33 rfl ?_
        refine E_istore_1 d_TP_most_34 rfl ?_
        first | (with_reducible refine E_isL2 ?_; refine E_iincN2 (m := 1) d_TP_most_35 rfl rfl ?_) | refine E_iinc_2 d_TP_most_35 rfl rfl ?_
        refine E_goto 4 d_TP_most_38 rfl ?_
        first | (rw [if_neg (Nat.not_lt.mpr h30)] at ih2; exact ih2) | (rw [if_pos h30] at ih2; exact ih2)
  refine E_iconst (v := nI 0) d_TP_most_0 rfl ?_
  refine E_istore_1 d_TP_most_1 rfl ?_
  refine E_iconst (v := nI 1) d_TP_most_2 rfl ?_
  refine E_istore_2 d_TP_most_3 rfl ?_
  exact L 8 0 (by decide)
theorem sp_TP_fewest (hC : CM c G M) (z : Int32) : E 2 0 0 Y_TP_fewest 0 [some (.ref 0), some (.int z), none, none] [] G M (QI G fun r M' => r = ans_fewest c z ∧ Sc CQ M M') := by
  have hG := hC.G
  have hR := hC.R
  have hpl := hC.H.parties
  have hm := hC.now
  have h8 := hC.w.parties
  have L : ∀ k b, k ≤ 512 → b < 512 → fewA c k b = fewN c → E 2 0 0 Y_TP_fewest 6 [some (.ref 0), some (.int z), some (.int (nI b)), some (.int (pM k))] [] G M (QI G fun r M' => r = ans_fewest c z ∧ Sc CQ M M') := by
    intro k
    induction k with
    | zero =>
      intro b hk hb hv
      rw [fewA] at hv
      rw [show pM 0 = -1 from rfl]
      have r1 : z = 0 → nI b = ans_fewest c z := fun q => by rw [ans_fewest, if_pos q, hv]
      have r2 : ¬ z = 0 → nI (pc9 b) = ans_fewest c z := fun q => by rw [ans_fewest, if_neg q, hv]
      refine E_iload_n d_TP_fewest_6 rfl ?_
      first | (with_reducible refine E_isN1 ?_; refine E_if_lt 47 d_TP_fewest_7 rfl (nz_lt (by omega) fun h7 => ?_) (nz_nlt (by omega) fun h7 => ?_)) | refine E_if_lt 47 d_TP_fewest_7 rfl (fun h7 => ?_) (fun h7 => ?_)
      rotate_left
      · exfalso; exact h7 (by decide)
      refine E_iload_n d_TP_fewest_47 rfl ?_
      first | (with_reducible refine E_isP ?_; refine E_if_eq 58 d_TP_fewest_48 rfl (pb_0 fun h48 => ?_) (pb_1 fun h48 => ?_)) | (with_reducible refine E_isN1 ?_; refine E_if_eq 58 d_TP_fewest_48 rfl (nz_eq (by omega) fun h48 => ?_) (nz_ne fun h48 => ?_)) | refine E_if_eq 58 d_TP_fewest_48 rfl (fun h48 => ?_) (fun h48 => ?_)
      · refine E_iload_n d_TP_fewest_58 rfl ?_
        refine E_retI d_TP_fewest_59 rfl ?_
        first | exact ⟨r1 h48, Sc.rf⟩ | exact ⟨r2 h48, Sc.rf⟩
      · refine E_iload_n d_TP_fewest_51 rfl ?_
        refine E_S1 (sp_JI_bitCount hb) d_TP_fewest_52 ml_TP_256 cb_JI_bitCount cs_JI_bitCount ⟨by decide, by decide⟩ rfl (Nat.le_of_ble_eq_true rfl) (Nat.le_of_ble_eq_true rfl) (kI fun r1 M1 hc => ?_)
        obtain ⟨rfl, rfl⟩ := hc
        refine E_goto 59 d_TP_fewest_55 rfl ?_
        refine E_retI d_TP_fewest_59 rfl ?_
        first | exact ⟨r1 h48, Sc.rf⟩ | exact ⟨r2 h48, Sc.rf⟩
    | succ k ih =>
      intro b hk hb hv
      rw [fewA] at hv
      rw [show pM (k + 1) = nI k from rfl]
      have b1 := pc9_le9 (s := k) (by omega)
      have b2 := pc9_le9 (s := b) (by omega)
      have b3 := pbN_le hC.w k
      have hpb := pb_live hC.w k
      have v1 : pbN c k = c.parties.length → pc9 k ≤ pc9 b → fewA c k k = fewN c := fun q r => by rw [if_pos ⟨r, hpb.mp q⟩] at hv; exact hv
      have v2 : ¬ pbN c k = c.parties.length → fewA c k b = fewN c := fun q => by rw [if_neg (fun r => q (hpb.mpr r.2))] at hv; exact hv
      have v3 : pc9 b < pc9 k → fewA c k b = fewN c := fun q => by rw [if_neg (fun r => by have := r.1; omega)] at hv; exact hv
      refine E_iload_n d_TP_fewest_6 rfl ?_
      first | (with_reducible refine E_isN1 ?_; refine E_if_lt 47 d_TP_fewest_7 rfl (nz_lt (by omega) fun h7 => ?_) (nz_nlt (by omega) fun h7 => ?_)) | refine E_if_lt 47 d_TP_fewest_7 rfl (fun h7 => ?_) (fun h7 => ?_)
      · exfalso; exact absurd h7 (Nat.not_lt_zero k)
      first | refine E_aload_n d_TP_fewest_10 rfl ?_ | refine E_aload_nN d_TP_fewest_10 rfl ?_
      refine E_getR d_TP_fewest_11 gf_TP_10 (by first | exact hG.s (by decide) rfl | exact hG.m1 ad2) (by first | exact hR.o rfl | exact hR.c cr1 rfl | exact hR.m0 ad2) ?_
      refine E_iload_n d_TP_fewest_14 rfl ?_
      refine E_V1 (sp_Cr_partiesBy hC (by omega)) d_TP_fewest_15 ml_TP_339 cb_Cr_partiesBy cv_Cr_partiesBy (by first | exact hG.s (by decide) rfl | exact hG.m1 ad2) ⟨by decide, rfl⟩ ⟨by decide, by decide⟩ rfl (Nat.le_of_ble_eq_true rfl) (Nat.le_of_ble_eq_true rfl) (kI fun r1 M1 hc => ?_)
      obtain ⟨rfl, rfl⟩ := hc
      first | refine E_aload_n d_TP_fewest_18 rfl ?_ | refine E_aload_nN d_TP_fewest_18 rfl ?_
      refine E_getR d_TP_fewest_19 gf_TP_10 (by first | exact hG.s (by decide) rfl | exact hG.m1 ad2) (by first | exact hR.o rfl | exact hR.c cr1 rfl | exact hR.m0 ad2) ?_
      refine E_getI d_TP_fewest_22 gf_TP_333 (by first | exact hG.s (by decide) rfl | exact hG.m1 ad2) (by first | exact hm.people | exact hpl | rfl) ?_
      first | (with_reducible refine E_isN2 ?_; refine E_icmp_ne 41 d_TP_fewest_25 rfl (nb_ne fun h25 => ?_) (nb_eq (by omega) (by omega) fun h25 => ?_)) | refine E_icmp_ne 41 d_TP_fewest_25 rfl (fun h25 => ?_) (fun h25 => ?_)
      · first | (with_reducible refine E_isL3 ?_; refine E_iincD3 (m := 1) d_TP_fewest_41 (by decide) (by omega) rfl ?_) | refine E_iinc_3 d_TP_fewest_41 rfl rfl ?_
        refine E_goto 6 d_TP_fewest_44 rfl ?_
        first | exact E_eqL (by first | rw [pM_dec] | rw [← nI1_pM k, pk_sub (by omega)]) (ih b (by omega) hb (v2 h25)) | exact E_eqL (by first | rw [pM_dec] | rw [← nI1_pM k, pk_sub (by omega)]) (ih b (by omega) hb (v3 h36)) | exact E_eqL (by first | rw [pM_dec] | rw [← nI1_pM k, pk_sub (by omega)]) (ih k (by omega) (by omega) (v1 h25 h36))
      · refine E_iload_n d_TP_fewest_28 rfl ?_
        refine E_S1 (sp_JI_bitCount (by omega)) d_TP_fewest_29 ml_TP_256 cb_JI_bitCount cs_JI_bitCount ⟨by decide, by decide⟩ rfl (Nat.le_of_ble_eq_true rfl) (Nat.le_of_ble_eq_true rfl) (kI fun r1 M1 hc => ?_)
        obtain ⟨rfl, rfl⟩ := hc
        refine E_iload_n d_TP_fewest_32 rfl ?_
        refine E_S1 (sp_JI_bitCount hb) d_TP_fewest_33 ml_TP_256 cb_JI_bitCount cs_JI_bitCount ⟨by decide, by decide⟩ rfl (Nat.le_of_ble_eq_true rfl) (Nat.le_of_ble_eq_true rfl) (kI fun r1 M1 hc => ?_)
        obtain ⟨rfl, rfl⟩ := hc
        first | (with_reducible refine E_isN2 ?_; refine E_icmp_gt 41 d_TP_fewest_36 rfl (nb_lt (by omega) (by omega) fun h36 => ?_) (nb_nlt (by omega) (by omega) fun h36 => ?_)) | refine E_icmp_gt 41 d_TP_fewest_36 rfl (fun h36 => ?_) (fun h36 => ?_)
        · first | (with_reducible refine E_isL3 ?_; refine E_iincD3 (m := 1) d_TP_fewest_41 (by decide) (by omega) rfl ?_) | refine E_iinc_3 d_TP_fewest_41 rfl rfl ?_
          refine E_goto 6 d_TP_fewest_44 rfl ?_
          first | exact E_eqL (by first | rw [pM_dec] | rw [← nI1_pM k, pk_sub (by omega)]) (ih b (by omega) hb (v2 h25)) | exact E_eqL (by first | rw [pM_dec] | rw [← nI1_pM k, pk_sub (by omega)]) (ih b (by omega) hb (v3 h36)) | exact E_eqL (by first | rw [pM_dec] | rw [← nI1_pM k, pk_sub (by omega)]) (ih k (by omega) (by omega) (v1 h25 h36))
        · refine E_iload_n d_TP_fewest_39 rfl ?_
          refine E_istore_2 d_TP_fewest_40 rfl ?_
          first | (with_reducible refine E_isL3 ?_; refine E_iincD3 (m := 1) d_TP_fewest_41 (by decide) (by omega) rfl ?_) | refine E_iinc_3 d_TP_fewest_41 rfl rfl ?_
          refine E_goto 6 d_TP_fewest_44 rfl ?_
          first | exact E_eqL (by first | rw [pM_dec] | rw [← nI1_pM k, pk_sub (by omega)]) (ih b (by omega) hb (v2 h25)) | exact E_eqL (by first | rw [pM_dec] | rw [← nI1_pM k, pk_sub (by omega)]) (ih b (by omega) hb (v3 h36)) | exact E_eqL (by first | rw [pM_dec] | rw [← nI1_pM k, pk_sub (by omega)]) (ih k (by omega) (by omega) (v1 h25 h36))
  refine E_sipush (v := nI 511) d_TP_fewest_0 (by decide) ?_
  refine E_istore_2 d_TP_fewest_3 rfl ?_
  refine E_iload_n d_TP_fewest_4 rfl ?_
  refine E_istore_3 d_TP_fewest_5 rfl ?_
  exact L 512 511 (by decide) (by decide) rfl
theorem sp_Cr_villagesFrom (hC : CM c G M) {v n : Nat} (hv : v < 10) (hn : n ≤ 10) : E 1 0 0 Y_Cr_villagesFrom 0 [some (.ref 1), some (.int (nI v)), some (.int (nI n)), none, none] [] G M (QI G fun r M' => r = nI (winS c v n) ∧ M' = M) := by
  have hG := hC.G
  have hR := hC.R
  have L : ∀ k i, i + k = n → E 1 0 0 Y_Cr_villagesFrom 5 [some (.ref 1), some (.int (nI v)), some (.int (nI n)), some (.int (nI (winS c v i))), some (.int (nI i))] [] G M (QI G fun r M' => r = nI (winS c v n) ∧ M' = M) := by
    intro k
    induction k with
    | zero =>
      intro i hi
      have hi2 : i = n := by omega
      subst hi2
      refine E_iload d_Cr_villagesFrom_5 rfl ?_
      refine E_iload_n d_Cr_villagesFrom_7 rfl ?_
      first | (with_reducible refine E_isN2 ?_; refine E_icmp_ge 34 d_Cr_villagesFrom_8 rfl (nb_le (by omega) (by omega) fun h8 => ?_) (nb_nle (by omega) (by omega) fun h8 => ?_)) | refine E_icmp_ge 34 d_Cr_villagesFrom_8 rfl (fun h8 => ?_) (fun h8 => ?_)
      rotate_left
      · exfalso; omega
      refine E_iload_n d_Cr_villagesFrom_34 rfl ?_
      refine E_retI d_Cr_villagesFrom_35 rfl ?_
      exact ⟨rfl, rfl⟩
    | succ k ih =>
      intro i hi
      refine E_iload d_Cr_villagesFrom_5 rfl ?_
      refine E_iload_n d_Cr_villagesFrom_7 rfl ?_
      first | (with_reducible refine E_isN2 ?_; refine E_icmp_ge 34 d_Cr_villagesFrom_8 rfl (nb_le (by omega) (by omega) fun h8 => ?_) (nb_nle (by omega) (by omega) fun h8 => ?_)) | refine E_icmp_ge 34 d_Cr_villagesFrom_8 rfl (fun h8 => ?_) (fun h8 => ?_)
      · exfalso; omega
      refine E_iload_n d_Cr_villagesFrom_11 rfl ?_
      first | refine E_aload_n d_Cr_villagesFrom_12 rfl ?_ | refine E_aload_nN d_Cr_villagesFrom_12 rfl ?_
      refine E_getR d_Cr_villagesFrom_13 gf_Cr_54 (by first | exact hG.s (by decide) rfl | exact hG.m1 ad2) (by first | exact hR.o rfl | exact hR.c cr1 rfl | exact hR.m0 ad2) ?_
      refine E_iload_n d_Cr_villagesFrom_16 rfl ?_
      refine E_iload d_Cr_villagesFrom_17 rfl ?_
      first | (with_reducible refine E_isN2 ?_; refine E_iaddN d_Cr_villagesFrom_19 ?_) | refine E_iadd d_Cr_villagesFrom_19 ?_
      refine E_bipush (v := nI 10) d_Cr_villagesFrom_20 (by decide) ?_
      first | (with_reducible refine E_isN2 ?_; refine E_iremN d_Cr_villagesFrom_22 (by omega) (by omega) (by omega) ?_) | refine E_irem d_Cr_villagesFrom_22 (by decide) ?_
      refine E_SN2 (sp_TP_at (hG.s (k := 1 + 13) (by decide) rfl) (by decide) (by omega) (hC.H.village (by omega))) d_Cr_villagesFrom_23 nl_Cr_107 cb_TP_at cs_TP_at ⟨by decide, by decide⟩ rfl (Nat.le_of_ble_eq_true rfl) (Nat.le_of_ble_eq_true rfl) (kI fun r1 M1 hc => ?_)
      obtain ⟨rfl, rfl⟩ := hc
      first | (with_reducible refine E_isN2 ?_; refine E_iaddN d_Cr_villagesFrom_26 ?_) | refine E_iadd d_Cr_villagesFrom_26 ?_
      refine E_istore_3 d_Cr_villagesFrom_27 rfl ?_
      first | (with_reducible refine E_isL4 ?_; refine E_iincN4 (m := 1) d_Cr_villagesFrom_28 rfl rfl ?_) | refine E_iinc_4 d_Cr_villagesFrom_28 rfl rfl ?_
      refine E_goto 5 d_Cr_villagesFrom_31 rfl ?_
      exact ih (i + 1) (by omega)
  refine E_iconst (v := nI 0) d_Cr_villagesFrom_0 rfl ?_
  refine E_istore_3 d_Cr_villagesFrom_1 rfl ?_
  refine E_iconst (v := nI 0) d_Cr_villagesFrom_2 rfl ?_
  refine E_istore_4 d_Cr_villagesFrom_3 rfl ?_
  exact L n 0 (Nat.zero_add _)
theorem sp_TP_window (hC : CM c G M) (x y : Int32) : E 2 0 0 Y_TP_window 0 [some (.ref 0), some (.int x), some (.int y)] [] G M (QI G fun r M' => r = ans_window c x y ∧ Sc CQ M M') := by
  have hG := hC.G
  have hR := hC.R
  revert x y
  refine args2 10 11 (fun v n hv hx ht hn hy ht2 => ?_) (fun x y hx => ?_) (fun x y hx hy => ?_)
  · rw [ans_window, if_pos ⟨hx, hy⟩, ht, ht2]
    refine E_iload_n d_TP_window_0 rfl ?_
    first | (with_reducible refine E_isN1 ?_; refine E_if_lt 20 d_TP_window_1 rfl (nz_lt (by omega) fun h1 => ?_) (nz_nlt (by omega) fun h1 => ?_)) | refine E_if_lt 20 d_TP_window_1 rfl (fun h1 => ?_) (fun h1 => ?_)
    · exfalso; exact absurd h1 (Nat.not_lt_zero v)
    refine E_iload_n d_TP_window_4 rfl ?_
    refine E_bipush (v := nI 10) d_TP_window_5 (by decide) ?_
    first | (with_reducible refine E_isN2 ?_; refine E_icmp_ge 20 d_TP_window_7 rfl (nb_le (by omega) (by omega) fun h7 => ?_) (nb_nle (by omega) (by omega) fun h7 => ?_)) | refine E_icmp_ge 20 d_TP_window_7 rfl (fun h7 => ?_) (fun h7 => ?_)
    · exfalso; omega
    refine E_iload_n d_TP_window_10 rfl ?_
    first | (with_reducible refine E_isN1 ?_; refine E_if_lt 20 d_TP_window_11 rfl (nz_lt (by omega) fun h11 => ?_) (nz_nlt (by omega) fun h11 => ?_)) | refine E_if_lt 20 d_TP_window_11 rfl (fun h11 => ?_) (fun h11 => ?_)
    · exfalso; exact absurd h11 (Nat.not_lt_zero n)
    refine E_iload_n d_TP_window_14 rfl ?_
    refine E_bipush (v := nI 10) d_TP_window_15 (by decide) ?_
    first | (with_reducible refine E_isN2 ?_; refine E_icmp_le 22 d_TP_window_17 rfl (nb_le (by omega) (by omega) fun h17 => ?_) (nb_nle (by omega) (by omega) fun h17 => ?_)) | refine E_icmp_le 22 d_TP_window_17 rfl (fun h17 => ?_) (fun h17 => ?_)
    rotate_left
    · exfalso; omega
    first | refine E_aload_n d_TP_window_22 rfl ?_ | refine E_aload_nN d_TP_window_22 rfl ?_
    refine E_getR d_TP_window_23 gf_TP_10 (by first | exact hG.s (by decide) rfl | exact hG.m1 ad2) (by first | exact hR.o rfl | exact hR.c cr1 rfl | exact hR.m0 ad2) ?_
    refine E_iload_n d_TP_window_26 rfl ?_
    refine E_iload_n d_TP_window_27 rfl ?_
    refine E_V2 (sp_Cr_villagesFrom hC (by omega) (by omega)) d_TP_window_28 ml_TP_358 cb_Cr_villagesFrom cv_Cr_villagesFrom (by first | exact hG.s (by decide) rfl | exact hG.m1 ad2) ⟨by decide, rfl⟩ ⟨by decide, by decide⟩ rfl (Nat.le_of_ble_eq_true rfl) (Nat.le_of_ble_eq_true rfl) (kI fun r1 M1 hc => ?_)
    obtain ⟨rfl, rfl⟩ := hc
    refine E_retI d_TP_window_31 rfl ?_
    exact ⟨rfl, Sc.rf⟩
  · have ho := out_ge (n := 10) (by decide) hx
    refine E_iload_n d_TP_window_0 rfl ?_
    first | (with_reducible refine E_isN1 ?_; refine E_if_lt 20 d_TP_window_1 rfl (nz_lt (by omega) fun h1 => ?_) (nz_nlt (by omega) fun h1 => ?_)) | refine E_if_lt 20 d_TP_window_1 rfl (fun h1 => ?_) (fun h1 => ?_)
    · refine E_iconst (v := (-1)) d_TP_window_20 rfl ?_
      refine E_retI d_TP_window_21 rfl ?_
      exact ⟨by rw [ans_window, if_neg (fun q => hx q.1)], Sc.rf⟩
    · refine E_iload_n d_TP_window_4 rfl ?_
      refine E_bipush (v := nI 10) d_TP_window_5 (by decide) ?_
      first | (with_reducible refine E_isN2 ?_; refine E_icmp_ge 20 d_TP_window_7 rfl (nb_le (by omega) (by omega) fun h7 => ?_) (nb_nle (by omega) (by omega) fun h7 => ?_)) | refine E_icmp_ge 20 d_TP_window_7 rfl (fun h7 => ?_) (fun h7 => ?_)
      rotate_left
      · exfalso; exact ho h1 h7
      refine E_iconst (v := (-1)) d_TP_window_20 rfl ?_
      refine E_retI d_TP_window_21 rfl ?_
      exact ⟨by rw [ans_window, if_neg (fun q => hx q.1)], Sc.rf⟩
  · have ho := out_le (n := 10) (by decide) hy
    refine E_iload_n d_TP_window_0 rfl ?_
    first | (with_reducible refine E_isN1 ?_; refine E_if_lt 20 d_TP_window_1 rfl (nz_lt (by omega) fun h1 => ?_) (nz_nlt (by omega) fun h1 => ?_)) | refine E_if_lt 20 d_TP_window_1 rfl (fun h1 => ?_) (fun h1 => ?_)
    · refine E_iconst (v := (-1)) d_TP_window_20 rfl ?_
      refine E_retI d_TP_window_21 rfl ?_
      exact ⟨by rw [ans_window, if_neg (fun q => hy q.2)], Sc.rf⟩
    · refine E_iload_n d_TP_window_4 rfl ?_
      refine E_bipush (v := nI 10) d_TP_window_5 (by decide) ?_
      first | (with_reducible refine E_isN2 ?_; refine E_icmp_ge 20 d_TP_window_7 rfl (nb_le (by omega) (by omega) fun h7 => ?_) (nb_nle (by omega) (by omega) fun h7 => ?_)) | refine E_icmp_ge 20 d_TP_window_7 rfl (fun h7 => ?_) (fun h7 => ?_)
      · refine E_iconst (v := (-1)) d_TP_window_20 rfl ?_
        refine E_retI d_TP_window_21 rfl ?_
        exact ⟨by rw [ans_window, if_neg (fun q => hy q.2)], Sc.rf⟩
      · refine E_iload_n d_TP_window_10 rfl ?_
        first | (with_reducible refine E_isN1 ?_; refine E_if_lt 20 d_TP_window_11 rfl (nz_lt (by omega) fun h11 => ?_) (nz_nlt (by omega) fun h11 => ?_)) | refine E_if_lt 20 d_TP_window_11 rfl (fun h11 => ?_) (fun h11 => ?_)
        · refine E_iconst (v := (-1)) d_TP_window_20 rfl ?_
          refine E_retI d_TP_window_21 rfl ?_
          exact ⟨by rw [ans_window, if_neg (fun q => hy q.2)], Sc.rf⟩
        · refine E_iload_n d_TP_window_14 rfl ?_
          refine E_bipush (v := nI 10) d_TP_window_15 (by decide) ?_
          first | (with_reducible refine E_isN2 ?_; refine E_icmp_le 22 d_TP_window_17 rfl (nb_le (by omega) (by omega) fun h17 => ?_) (nb_nle (by omega) (by omega) fun h17 => ?_)) | refine E_icmp_le 22 d_TP_window_17 rfl (fun h17 => ?_) (fun h17 => ?_)
          · exfalso; exact ho h11 h17
          refine E_iconst (v := (-1)) d_TP_window_20 rfl ?_
          refine E_retI d_TP_window_21 rfl ?_
          exact ⟨by rw [ans_window, if_neg (fun q => hy q.2)], Sc.rf⟩
theorem sp_TP_busiest (hC : CM c G M) (x : Int32) : E 2 0 0 Y_TP_busiest 0 [some (.ref 0), some (.int x), none, none] [] G M (QI G fun r M' => r = ans_busiest c x ∧ Sc CQ M M') := by
  have hG := hC.G
  have hR := hC.R
  revert x
  refine args1 11 (fun n hn hx ht => ?_) (fun x hx => ?_)
  · rw [ans_busiest, if_pos hx, ht]
    have L : ∀ k v, v + k = 9 → E 2 0 0 Y_TP_busiest 16 [some (.ref 0), some (.int (nI n)), some (.int (nI (busA c n v))), some (.int (nI (v + 1)))] [] G M (QI G fun r M' => r = nI (busA c n 9) ∧ Sc CQ M M') := by
      intro k
      induction k with
      | zero =>
        intro v hv
        have hv2 : v = 9 := by omega
        subst hv2
        refine E_iload_n d_TP_busiest_16 rfl ?_
        refine E_bipush (v := nI 10) d_TP_busiest_17 (by decide) ?_
        first | (with_reducible refine E_isN2 ?_; refine E_icmp_ge 51 d_TP_busiest_19 rfl (nb_le (by omega) (by omega) fun h19 => ?_) (nb_nle (by omega) (by omega) fun h19 => ?_)) | refine E_icmp_ge 51 d_TP_busiest_19 rfl (fun h19 => ?_) (fun h19 => ?_)
        rotate_left
        · exfalso; omega
        refine E_iload_n d_TP_busiest_51 rfl ?_
        refine E_retI d_TP_busiest_52 rfl ?_
        exact ⟨rfl, Sc.rf⟩
      | succ k ih =>
        intro v hv
        have hb := busA_le (c := c) n v
        have w1 := winS_le hC.w (v + 1) n
        have w2 := winS_le hC.w (busA c n v) n
        have ih2 := ih (v + 1) (by omega)
        rw [busA] at ih2
        refine E_iload_n d_TP_busiest_16 rfl ?_
        refine E_bipush (v := nI 10) d_TP_busiest_17 (by decide) ?_
        first | (with_reducible refine E_isN2 ?_; refine E_icmp_ge 51 d_TP_busiest_19 rfl (nb_le (by omega) (by omega) fun h19 => ?_) (nb_nle (by omega) (by omega) fun h19 => ?_)) | refine E_icmp_ge 51 d_TP_busiest_19 rfl (fun h19 => ?_) (fun h19 => ?_)
        · exfalso; omega
        first | refine E_aload_n d_TP_busiest_22 rfl ?_ | refine E_aload_nN d_TP_busiest_22 rfl ?_
        refine E_getR d_TP_busiest_23 gf_TP_10 (by first | exact hG.s (by decide) rfl | exact hG.m1 ad2) (by first | exact hR.o rfl | exact hR.c cr1 rfl | exact hR.m0 ad2) ?_
        refine E_iload_n d_TP_busiest_26 rfl ?_
        refine E_iload_n d_TP_busiest_27 rfl ?_
        refine E_V2 (sp_Cr_villagesFrom hC (by omega) (by omega)) d_TP_busiest_28 ml_TP_358 cb_Cr_villagesFrom cv_Cr_villagesFrom (by first | exact hG.s (by decide) rfl | exact hG.m1 ad2) ⟨by decide, rfl⟩ ⟨by decide, by decide⟩ rfl (Nat.le_of_ble_eq_true rfl) (Nat.le_of_ble_eq_true rfl) (kI fun r1 M1 hc => ?_)
        obtain ⟨rfl, rfl⟩ := hc
        first | refine E_aload_n d_TP_busiest_31 rfl ?_ | refine E_aload_nN d_TP_busiest_31 rfl ?_
        refine E_getR d_TP_busiest_32 gf_TP_10 (by first | exact hG.s (by decide) rfl | exact hG.m1 ad2) (by first | exact hR.o rfl | exact hR.c cr1 rfl | exact hR.m0 ad2) ?_
        refine E_iload_n d_TP_busiest_35 rfl ?_
        refine E_iload_n d_TP_busiest_36 rfl ?_
        refine E_V2 (sp_Cr_villagesFrom hC (by omega) (by omega)) d_TP_busiest_37 ml_TP_358 cb_Cr_villagesFrom cv_Cr_villagesFrom (by first | exact hG.s (by decide) rfl | exact hG.m1 ad2) ⟨by decide, rfl⟩ ⟨by decide, by decide⟩ rfl (Nat.le_of_ble_eq_true rfl) (Nat.le_of_ble_eq_true rfl) (kI fun r1 M1 hc => ?_)
        obtain ⟨rfl, rfl⟩ := hc
        first | (with_reducible refine E_isN2 ?_; refine E_icmp_le 45 d_TP_busiest_40 rfl (nb_le (by omega) (by omega) fun h40 => ?_) (nb_nle (by omega) (by omega) fun h40 => ?_)) | refine E_icmp_le 45 d_TP_busiest_40 rfl (fun h40 => ?_) (fun h40 => ?_)
        · first | (with_reducible refine E_isL3 ?_; refine E_iincN3 (m := 1) d_TP_busiest_45 rfl rfl ?_) | refine E_iinc_3 d_TP_busiest_45 rfl rfl ?_
          refine E_goto 16 d_TP_busiest_48 rfl ?_
          first | (rw [if_neg (Nat.not_lt.mpr h40)] at ih2; exact ih2) | (rw [if_pos h40] at ih2; exact ih2)
        · refine E_iload_n d_TP_busiest_43 rfl ?_
          refine E_istore_2 d_TP_busiest_44 rfl ?_
          first | (with_reducible refine E_isL3 ?_; refine E_iincN3 (m := 1) d_TP_busiest_45 rfl rfl ?_) | refine E_iinc_3 d_TP_busiest_45 rfl rfl ?_
          refine E_goto 16 d_TP_busiest_48 rfl ?_
          first | (rw [if_neg (Nat.not_lt.mpr h40)] at ih2; exact ih2) | (rw [if_pos h40] at ih2; exact ih2)
    refine E_iload_n d_TP_busiest_0 rfl ?_
    first | (with_reducible refine E_isN1 ?_; refine E_if_lt 10 d_TP_busiest_1 rfl (nz_lt (by omega) fun h1 => ?_) (nz_nlt (by omega) fun h1 => ?_)) | refine E_if_lt 10 d_TP_busiest_1 rfl (fun h1 => ?_) (fun h1 => ?_)
    · exfalso; exact absurd h1 (Nat.not_lt_zero n)
    refine E_iload_n d_TP_busiest_4 rfl ?_
    refine E_bipush (v := nI 10) d_TP_busiest_5 (by decide) ?_
    first | (with_reducible refine E_isN2 ?_; refine E_icmp_le 12 d_TP_busiest_7 rfl (nb_le (by omega) (by omega) fun h7 => ?_) (nb_nle (by omega) (by omega) fun h7 => ?_)) | refine E_icmp_le 12 d_TP_busiest_7 rfl (fun h7 => ?_) (fun h7 => ?_)
    rotate_left
    · exfalso; omega
    refine E_iconst (v := nI 0) d_TP_busiest_12 rfl ?_
    refine E_istore_2 d_TP_busiest_13 rfl ?_
    refine E_iconst (v := nI 1) d_TP_busiest_14 rfl ?_
    refine E_istore_3 d_TP_busiest_15 rfl ?_
    exact L 9 0 (by decide)
  · have ho := out_le (n := 10) (by decide) hx
    refine E_iload_n d_TP_busiest_0 rfl ?_
    first | (with_reducible refine E_isN1 ?_; refine E_if_lt 10 d_TP_busiest_1 rfl (nz_lt (by omega) fun h1 => ?_) (nz_nlt (by omega) fun h1 => ?_)) | refine E_if_lt 10 d_TP_busiest_1 rfl (fun h1 => ?_) (fun h1 => ?_)
    · refine E_iconst (v := (-1)) d_TP_busiest_10 rfl ?_
      refine E_retI d_TP_busiest_11 rfl ?_
      exact ⟨by rw [ans_busiest, if_neg hx], Sc.rf⟩
    · refine E_iload_n d_TP_busiest_4 rfl ?_
      refine E_bipush (v := nI 10) d_TP_busiest_5 (by decide) ?_
      first | (with_reducible refine E_isN2 ?_; refine E_icmp_le 12 d_TP_busiest_7 rfl (nb_le (by omega) (by omega) fun h7 => ?_) (nb_nle (by omega) (by omega) fun h7 => ?_)) | refine E_icmp_le 12 d_TP_busiest_7 rfl (fun h7 => ?_) (fun h7 => ?_)
      · exfalso; exact ho h1 h7
      refine E_iconst (v := (-1)) d_TP_busiest_10 rfl ?_
      refine E_retI d_TP_busiest_11 rfl ?_
      exact ⟨by rw [ans_busiest, if_neg hx], Sc.rf⟩
end TPc
