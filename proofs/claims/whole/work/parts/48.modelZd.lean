abbrev forP (x y : Int32) : Prop := inN x 61 ∧ tN x ≠ 0 ∧ inN y 2
def foreA : Nat → Cr → Cr
  | 0, c => c
  | n + 1, c => foreA n (if c.now.round < 9999 then passS false c c.now.figure else c)
def ans_foretold (c : Cr) (x y : Int32) : Int32 := if forP x y then (if y = 0 then nI (foreA (tN x) c).now.figure else nI (foreA (tN x) c).now.answers) else -1
def sameB (c d : Cr) : Prop := ∃ m, d = c.setNow m ∧ m.people = c.now.people ∧ m.book = c.now.book
theorem sameB.rf (c : Cr) : sameB c c := ⟨c.now, rfl, rfl, rfl⟩
theorem sameB.pass {c d : Cr} {f : Nat} (h : sameB c d) : sameB c (passS false d f) := by
  obtain ⟨m, rfl, h2, h3⟩ := h
  exact ⟨passW false (c.setNow m) m f, rfl, h2, h3⟩
theorem sameB.fore {c : Cr} : ∀ n d, sameB c d → sameB c (foreA n d) := by
  intro n
  induction n with
  | zero => intro d h; exact h
  | succ n ih =>
    intro d h
    rw [foreA]
    refine ih _ ?_
    split
    · exact h.pass
    · exact h
theorem HM_w0 {c : Cr} {M : Mem} {k : Nat} {x : Int32} (h : HM c M) : HM c (wI M 0 k x) := ⟨h.R, by rw [mI_ne (by decide)]; exact h.A, by rw [mI_ne (by decide)]; exact h.T, h.w⟩
def S10 (a : Nat) : Prop := a = 0 ∨ S1 a
theorem lp_TM_fore1 {M0 : Mem} {x y : Int32} (hR0 : MR M0) {Q : Option Value → Geo → Mem → Prop} (K : ∀ M, Sx SQ M0 M → (∀ j, 5 ≤ j → j < 18 → mI M 10 j = mI M0 1 j) → E 6 0 0 Y_TM_foretold 47 [some (.ref 0), some (.int x), some (.int y), none, none] [] GM M Q) :
    ∀ k n, n + k = 18 → 5 ≤ n → ∀ M, Sx SQ M0 M → (∀ j, 5 ≤ j → j < n → mI M 10 j = mI M0 1 j) → E 6 0 0 Y_TM_foretold 23 [some (.ref 0), some (.int x), some (.int y), some (.int (nI n)), none] [] GM M Q := by
  intro k
  induction k with
  | zero =>
    intro n hn h5 M hX hF
    have hn2 : n = 18 := by omega
    subst hn2
    refine E_iload_n d_TM_foretold_23 rfl ?_
    refine E_bipush (v := nI 18) d_TM_foretold_24 (by decide) ?_
    first | (with_reducible refine E_isN2 ?_; refine E_icmp_ge 47 d_TM_foretold_26 rfl (nb_le (by omega) (by omega) fun h26 => ?_) (nb_nle (by omega) (by omega) fun h26 => ?_)) | refine E_icmp_ge 47 d_TM_foretold_26 rfl (fun h26 => ?_) (fun h26 => ?_)
    rotate_left
    · exfalso; omega
    refine E_wk ?_ (K M hX hF); exact ⟨Or.inl rfl, Or.inl rfl, Or.inl rfl, Or.inr rfl, Or.inl rfl, trivial⟩
  | succ k ih =>
    intro n hn h5 M hX hF
    have hR := hR0.sx hX
    have e : mI M 1 n = mI M0 1 n := by rw [(hX.2 1 (by unfold SQ; decide)).1]
    refine E_iload_n d_TM_foretold_23 rfl ?_
    refine E_bipush (v := nI 18) d_TM_foretold_24 (by decide) ?_
    first | (with_reducible refine E_isN2 ?_; refine E_icmp_ge 47 d_TM_foretold_26 rfl (nb_le (by omega) (by omega) fun h26 => ?_) (nb_nle (by omega) (by omega) fun h26 => ?_)) | refine E_icmp_ge 47 d_TM_foretold_26 rfl (fun h26 => ?_) (fun h26 => ?_)
    · exfalso; omega
    first | refine E_aload_n d_TM_foretold_29 rfl ?_ | refine E_aload_nN d_TM_foretold_29 rfl ?_
    refine E_getR (q := 10) d_TM_foretold_30 gf_TM_50 (by exact ⟨by decide, rfl⟩) (by exact hR _ rfl) ?_
    refine E_iload_n d_TM_foretold_33 rfl ?_
    first | refine E_aload_n d_TM_foretold_34 rfl ?_ | refine E_aload_nN d_TM_foretold_34 rfl ?_
    refine E_getR (q := 1) d_TM_foretold_35 gf_TM_7 (by exact ⟨by decide, rfl⟩) (by exact hR _ rfl) ?_
    refine E_iload_n d_TM_foretold_38 rfl ?_
    refine E_iald d_TM_foretold_39 (by exact ⟨by decide, rfl⟩) (by exact ⟨by with_reducible rfl, by omega, by decide⟩) (by exact e) ?_
    refine E_iast d_TM_foretold_40 (by exact ⟨by decide, rfl⟩) (by exact ⟨by with_reducible rfl, by omega, by decide⟩) ?_
    first | (with_reducible refine E_isL3 ?_; refine E_iincN3 (m := 1) d_TM_foretold_41 rfl rfl ?_) | refine E_iinc_3 d_TM_foretold_41 rfl rfl ?_
    refine E_goto 23 d_TM_foretold_44 rfl ?_
    refine ih (n + 1) (by omega) (by omega) _ (hX.wI (by unfold SQ; decide)) (fun j hj hj2 => ?_)
    rw [mI_wI]
    by_cases q : j = n
    · rw [if_pos ⟨rfl, q⟩, q]
    · rw [if_neg (fun r => q r.2)]; exact hF j hj (by omega)
theorem lp_TM_fore3 {M0 : Mem} {x y r : Int32} {g : Nat → Int32} (hR0 : MR M0) (hg : ∀ j, 5 ≤ j → j < 18 → mI M0 10 j = g j) {Q : Option Value → Geo → Mem → Prop} (K : ∀ M, Sx S01 M0 M → (∀ j, mI M 1 j = if 5 ≤ j ∧ j < 18 then g j else mI M0 1 j) → E 6 0 0 Y_TM_foretold 140 [some (.ref 0), some (.int x), some (.int y), some (.int r), none] [] GM M Q) :
    ∀ k n, n + k = 18 → 5 ≤ n → ∀ M, Sx S01 M0 M → (∀ j, mI M 1 j = if 5 ≤ j ∧ j < n then g j else mI M0 1 j) → E 6 0 0 Y_TM_foretold 113 [some (.ref 0), some (.int x), some (.int y), some (.int r), some (.int (nI n))] [] GM M Q := by
  intro k
  induction k with
  | zero =>
    intro n hn h5 M hX hF
    have hn2 : n = 18 := by omega
    subst hn2
    refine E_iload d_TM_foretold_113 rfl ?_
    refine E_bipush (v := nI 18) d_TM_foretold_115 (by decide) ?_
    first | (with_reducible refine E_isN2 ?_; refine E_icmp_ge 140 d_TM_foretold_117 rfl (nb_le (by omega) (by omega) fun h117 => ?_) (nb_nle (by omega) (by omega) fun h117 => ?_)) | refine E_icmp_ge 140 d_TM_foretold_117 rfl (fun h117 => ?_) (fun h117 => ?_)
    rotate_left
    · exfalso; omega
    refine E_wk ?_ (K M hX hF); exact ⟨Or.inl rfl, Or.inl rfl, Or.inl rfl, Or.inl rfl, Or.inr rfl, trivial⟩
  | succ k ih =>
    intro n hn h5 M hX hF
    have hR := hR0.sx hX
    have e : mI M 10 n = g n := by rw [(hX.2 10 (by unfold S01; decide)).1]; exact hg n h5 (by omega)
    refine E_iload d_TM_foretold_113 rfl ?_
    refine E_bipush (v := nI 18) d_TM_foretold_115 (by decide) ?_
    first | (with_reducible refine E_isN2 ?_; refine E_icmp_ge 140 d_TM_foretold_117 rfl (nb_le (by omega) (by omega) fun h117 => ?_) (nb_nle (by omega) (by omega) fun h117 => ?_)) | refine E_icmp_ge 140 d_TM_foretold_117 rfl (fun h117 => ?_) (fun h117 => ?_)
    · exfalso; omega
    first | refine E_aload_n d_TM_foretold_120 rfl ?_ | refine E_aload_nN d_TM_foretold_120 rfl ?_
    refine E_getR (q := 1) d_TM_foretold_121 gf_TM_7 (by exact ⟨by decide, rfl⟩) (by exact hR _ rfl) ?_
    refine E_iload d_TM_foretold_124 rfl ?_
    first | refine E_aload_n d_TM_foretold_126 rfl ?_ | refine E_aload_nN d_TM_foretold_126 rfl ?_
    refine E_getR (q := 10) d_TM_foretold_127 gf_TM_50 (by exact ⟨by decide, rfl⟩) (by exact hR _ rfl) ?_
    refine E_iload d_TM_foretold_130 rfl ?_
    refine E_iald d_TM_foretold_132 (by exact ⟨by decide, rfl⟩) (by exact ⟨by with_reducible rfl, by omega, by decide⟩) (by exact e) ?_
    refine E_iast d_TM_foretold_133 (by exact ⟨by decide, rfl⟩) (by exact ⟨by with_reducible rfl, by omega, by decide⟩) ?_
    first | (with_reducible refine E_isL4 ?_; refine E_iincN4 (m := 1) d_TM_foretold_134 rfl rfl ?_) | refine E_iinc_4 d_TM_foretold_134 rfl rfl ?_
    refine E_goto 113 d_TM_foretold_137 rfl ?_
    refine ih (n + 1) (by omega) (by omega) _ (hX.wI rfl) (fun j => ?_)
    rw [mI_w1]
    by_cases q : j = n
    · rw [if_pos q, if_pos (by omega), q]
    · rw [if_neg q, hF]
      by_cases q2 : 5 ≤ j ∧ j < n
      · rw [if_pos q2, if_pos (by omega)]
      · rw [if_neg q2, if_neg (by omega)]
theorem lp_TM_fore2 {M0 : Mem} {n : Nat} {y : Int32} {R : Cr} (hn : n ≤ 60) {Q : Option Value → Geo → Mem → Prop} (K : ∀ M, HM R M → Sx S1 M0 M → (∀ j, mI M 10 j = mI M0 10 j) → E 6 0 0 Y_TM_foretold 88 [some (.ref 0), some (.int (nI n)), some (.int y), none, none] [] GM M Q) :
    ∀ k i, i + k = n → ∀ d M, foreA k d = R → HM d M → mI M 0 23 = nI 0 → Sx S1 M0 M → (∀ j, mI M 10 j = mI M0 10 j) → E 6 0 0 Y_TM_foretold 54 [some (.ref 0), some (.int (nI n)), some (.int y), some (.int (nI i)), none] [] GM M Q := by
  intro k
  induction k with
  | zero =>
    intro i hi d M hv hM hw hX h10
    have hi2 : i = n := by omega
    subst hi2
    have hv2 : d = R := hv
    subst hv2
    refine E_iload_n d_TM_foretold_54 rfl ?_
    refine E_iload_n d_TM_foretold_55 rfl ?_
    first | (with_reducible refine E_isN2 ?_; refine E_icmp_ge 88 d_TM_foretold_56 rfl (nb_le (by omega) (by omega) fun h56 => ?_) (nb_nle (by omega) (by omega) fun h56 => ?_)) | refine E_icmp_ge 88 d_TM_foretold_56 rfl (fun h56 => ?_) (fun h56 => ?_)
    rotate_left
    · exfalso; omega
    refine E_wk ?_ (K M hM hX h10); exact ⟨Or.inl rfl, Or.inl rfl, Or.inl rfl, Or.inr rfl, Or.inl rfl, trivial⟩
  | succ k ih =>
    intro i hi d M hv hM hw hX h10
    have hR := hM.R
    have hr := hM.w.round
    have er := hM.A.round
    have ef := hM.A.figure
    rw [foreA] at hv
    by_cases h9 : d.now.round < 9999
    · rw [if_pos h9] at hv
      refine E_iload_n d_TM_foretold_54 rfl ?_
      refine E_iload_n d_TM_foretold_55 rfl ?_
      first | (with_reducible refine E_isN2 ?_; refine E_icmp_ge 88 d_TM_foretold_56 rfl (nb_le (by omega) (by omega) fun h56 => ?_) (nb_nle (by omega) (by omega) fun h56 => ?_)) | refine E_icmp_ge 88 d_TM_foretold_56 rfl (fun h56 => ?_) (fun h56 => ?_)
      · exfalso; omega
      first | refine E_aload_n d_TM_foretold_59 rfl ?_ | refine E_aload_nN d_TM_foretold_59 rfl ?_
      refine E_getR (q := 1) d_TM_foretold_60 gf_TM_7 (by exact ⟨by decide, rfl⟩) (by exact hR _ rfl) ?_
      refine E_iconst (v := nI 5) d_TM_foretold_63 rfl ?_
      refine E_iald d_TM_foretold_64 (by exact ⟨by decide, rfl⟩) (by exact ⟨by with_reducible rfl, by omega, by decide⟩) (by exact er) ?_
      refine E_sipush (v := nI 9999) d_TM_foretold_65 (by decide) ?_
      first | (with_reducible refine E_isN2 ?_; refine E_icmp_ge 82 d_TM_foretold_68 rfl (nb_le (by omega) (by omega) fun h68 => ?_) (nb_nle (by omega) (by omega) fun h68 => ?_)) | refine E_icmp_ge 82 d_TM_foretold_68 rfl (fun h68 => ?_) (fun h68 => ?_)
      · exfalso; omega
      first | refine E_aload_n d_TM_foretold_71 rfl ?_ | refine E_aload_nN d_TM_foretold_71 rfl ?_
      first | refine E_aload_n d_TM_foretold_72 rfl ?_ | refine E_aload_nN d_TM_foretold_72 rfl ?_
      refine E_getR (q := 1) d_TM_foretold_73 gf_TM_7 (by exact ⟨by decide, rfl⟩) (by exact hR _ rfl) ?_
      refine E_bipush (v := nI 7) d_TM_foretold_76 (by decide) ?_
      refine E_iald d_TM_foretold_78 (by exact ⟨by decide, rfl⟩) (by exact ⟨by with_reducible rfl, by omega, by decide⟩) (by exact ef) ?_
      refine E_V1 (sp_TM_passP false hM hw hM.w.fig8 h9) d_TM_foretold_79 ml_TM_317 cb_TM_pass cv_TM_pass (by exact ⟨by decide, rfl⟩) ⟨by decide, rfl⟩ ⟨by decide, by decide⟩ rfl (Nat.le_of_ble_eq_true rfl) (Nat.le_of_ble_eq_true rfl) (kV fun M1 hc => ?_)
      obtain ⟨hM1, hS0⟩ := hc; have hS1 : Sx S1 _ M1 := hS0.wk fun _ => SP.w
      first | (with_reducible refine E_isL3 ?_; refine E_iincN3 (m := 1) d_TM_foretold_82 rfl rfl ?_) | refine E_iinc_3 d_TM_foretold_82 rfl rfl ?_
      refine E_goto 54 d_TM_foretold_85 rfl ?_
      refine ih (i + 1) (by omega) _ _ hv hM1 (fl1 hS1 hw) (hX.tr hS1) (fun j => ?_)
      rw [(hS0.2 10 (by unfold SP; decide)).1]; exact h10 j
    · rw [if_neg h9] at hv
      refine E_iload_n d_TM_foretold_54 rfl ?_
      refine E_iload_n d_TM_foretold_55 rfl ?_
      first | (with_reducible refine E_isN2 ?_; refine E_icmp_ge 88 d_TM_foretold_56 rfl (nb_le (by omega) (by omega) fun h56 => ?_) (nb_nle (by omega) (by omega) fun h56 => ?_)) | refine E_icmp_ge 88 d_TM_foretold_56 rfl (fun h56 => ?_) (fun h56 => ?_)
      · exfalso; omega
      first | refine E_aload_n d_TM_foretold_59 rfl ?_ | refine E_aload_nN d_TM_foretold_59 rfl ?_
      refine E_getR (q := 1) d_TM_foretold_60 gf_TM_7 (by exact ⟨by decide, rfl⟩) (by exact hR _ rfl) ?_
      refine E_iconst (v := nI 5) d_TM_foretold_63 rfl ?_
      refine E_iald d_TM_foretold_64 (by exact ⟨by decide, rfl⟩) (by exact ⟨by with_reducible rfl, by omega, by decide⟩) (by exact er) ?_
      refine E_sipush (v := nI 9999) d_TM_foretold_65 (by decide) ?_
      first | (with_reducible refine E_isN2 ?_; refine E_icmp_ge 82 d_TM_foretold_68 rfl (nb_le (by omega) (by omega) fun h68 => ?_) (nb_nle (by omega) (by omega) fun h68 => ?_)) | refine E_icmp_ge 82 d_TM_foretold_68 rfl (fun h68 => ?_) (fun h68 => ?_)
      rotate_left
      · exfalso; omega
      first | (with_reducible refine E_isL3 ?_; refine E_iincN3 (m := 1) d_TM_foretold_82 rfl rfl ?_) | refine E_iinc_3 d_TM_foretold_82 rfl rfl ?_
      refine E_goto 54 d_TM_foretold_85 rfl ?_
      exact ih (i + 1) (by omega) _ _ hv hM hw hX h10
theorem HM_fore {c d : Cr} {M Mx M' : Mem} (hM : HM c M) (hd : HM d Mx) (hs : sameB c d) (hR : MR M') (h1 : ∀ j, mI M' 1 j = if 5 ≤ j ∧ j < 18 then mI M 1 j else mI Mx 1 j) (h3 : mI M' 3 = mI M 3) : HM c M' := by
  obtain ⟨m, rfl, hp, hb⟩ := hs
  have hA := hd.A
  have hA0 := hM.A
  have hw := hM.w
  have hp8 := hw.p8
  have hb30 := hw.book
  obtain ⟨r0, r1, r2, r3, r4, r5, r6⟩ := hA0.row
  have lo : ∀ i, 5 ≤ i → i < 18 → mI M' 1 i = mI M 1 i := fun i a b => by rw [h1, if_pos ⟨a, b⟩]
  have hi : ∀ i, i < 5 ∨ 18 ≤ i → mI M' 1 i = mI Mx 1 i := fun i a => by rw [h1, if_neg (by omega)]
  have hbk : ∀ i, i < c.now.book.length → mI M' 1 (1405 + i) = nI (enB (c.now.book.getD i (0, 0, 0))) := fun i q => by
    have := hA.book (i := i) (by show i < m.book.length; rw [hb]; exact q)
    rw [hi _ (by omega), this]
    show nI (enB (m.book.getD i (0, 0, 0))) = _
    rw [hb]
  have h2 := RepA_now (c := c.setNow m) (m := c.now) hA hd.w hp.symm ⟨(lo 5 (by omega) (by omega)).trans r0, (lo 6 (by omega) (by omega)).trans r1, (lo 7 (by omega) (by omega)).trans r2, (lo 8 (by omega) (by omega)).trans r3, (lo 9 (by omega) (by omega)).trans r4, fun p q => (lo _ (by omega) (by omega)).trans (r5 p q), hbk⟩ (fun i a b => hi i (by omega))
  exact ⟨hR, h2, by rw [h3]; exact hM.T, hw⟩
theorem sp_TM_foretold {c : Cr} {M : Mem} (hM : HM c M) (hw : mI M 0 23 = nI 1) (x y : Int32) : E 6 0 0 Y_TM_foretold 0 [some (.ref 0), some (.int x), some (.int y), none, none] [] GM M (QI GM fun r M' => r = ans_foretold c x y ∧ HM c M' ∧ Sx S1 M M') := by
  have hl : (nI 1 ≤ x ∧ x ≤ nI 60) ↔ (1 ≤ x.toInt ∧ x.toInt ≤ 60) := isIn_lh (by decide) (by decide)
  have hR := hM.R
  revert hl
  revert x y
  refine args2 61 2 (fun n q hn hx ht hq hy ht2 hl => ?_) (fun x y hx hl => ?_) (fun x y hx hy hl => ?_)
  · rw [nI_toInt (by omega)] at hl
    by_cases h0 : n = 0
    · have hn2 : ¬ forP (nI n) (nI q) := fun r => r.2.1 (by rw [ht]; exact h0)
      rw [ans_foretold, if_neg hn2]
      refine E_iload_n d_TM_foretold_0 rfl ?_
      refine E_iconst (v := nI 1) d_TM_foretold_1 rfl ?_
      refine E_bipush (v := nI 60) d_TM_foretold_2 (by decide) ?_
      refine E_S3 (sp_TM_isIn _ _ _) d_TM_foretold_4 ml_TM_69 cb_TM_isIn cs_TM_isIn ⟨by decide, by decide⟩ rfl (Nat.le_of_ble_eq_true rfl) (Nat.le_of_ble_eq_true rfl) (kI fun r1 M1 hc => ?_)
      obtain ⟨rfl, rfl⟩ := hc
      first | (with_reducible refine E_isP ?_; refine E_if_eq 19 d_TM_foretold_7 rfl (pb_0 fun h7 => ?_) (pb_1 fun h7 => ?_)) | (with_reducible refine E_isN1 ?_; refine E_if_eq 19 d_TM_foretold_7 rfl (nz_eq (by omega) fun h7 => ?_) (nz_ne fun h7 => ?_)) | refine E_if_eq 19 d_TM_foretold_7 rfl (fun h7 => ?_) (fun h7 => ?_)
      rotate_left
      · exfalso; have := hl.mp h7; omega
      refine E_iconst (v := (-1)) d_TM_foretold_19 rfl ?_
      refine E_retI d_TM_foretold_20 rfl ?_
      exact ⟨rfl, hM, Sx.rf⟩
    · have hP : forP (nI n) (nI q) := ⟨hx, by rw [ht]; exact h0, hy⟩
      have K3 : ∀ M3 r, r = ans_foretold c (nI n) (nI q) → HM c M3 → Sx S10 M M3 → (∀ j, j ≠ 23 → mI M3 0 j = mI M 0 j) → mL M3 0 = mL M 0 → E 6 0 0 Y_TM_foretold 140 [some (.ref 0), some (.int (nI n)), some (.int (nI q)), some (.int r), none] [] GM M3 (QI GM fun r M' => r = ans_foretold c (nI n) (nI q) ∧ HM c M' ∧ Sx S1 M M') := by
        intro M3 r hr hM3 hX3 h23 hL
        have hR := hM3.R
        first | refine E_aload_n d_TM_foretold_140 rfl ?_ | refine E_aload_nN d_TM_foretold_140 rfl ?_
        refine E_iconst (v := nI 1) d_TM_foretold_141 rfl ?_
        refine E_putZ d_TM_foretold_142 gf_TM_43 (by exact ⟨by decide, rfl⟩) rfl rfl (by decide) ?_
        refine E_iload_n d_TM_foretold_145 rfl ?_
        refine E_retI d_TM_foretold_146 rfl ?_
        refine ⟨hr, HM_w0 hM3, hX3.1, fun a ha => ?_⟩
        by_cases q0 : a = 0
        · subst q0
          refine ⟨funext fun j => ?_, hL⟩
          rw [mI_wI]
          by_cases q : j = 23
          · rw [if_pos ⟨rfl, q⟩, q]; exact hw.symm
          · rw [if_neg (fun r => q r.2)]; exact h23 j q
        · have h9 := hX3.2 a (fun r => r.elim q0 ha)
          exact ⟨(mI_ne q0).trans h9.1, h9.2⟩
      have K2 : ∀ M1 M2, Sx SQ M M1 → (∀ j, 5 ≤ j → j < 18 → mI M1 10 j = mI M 1 j) → HM (foreA n c) M2 → Sx S1 (wI M1 0 23 (nI 0)) M2 → (∀ j, mI M2 10 j = mI (wI M1 0 23 (nI 0)) 10 j) → E 6 0 0 Y_TM_foretold 88 [some (.ref 0), some (.int (nI n)), some (.int (nI q)), none, none] [] GM M2 (QI GM fun r M' => r = ans_foretold c (nI n) (nI q) ∧ HM c M' ∧ Sx S1 M M') := by
        intro M1 M2 hX1 h10 hM2 hX2 h10b
        have hR := hM2.R
        have hX12 : Sx S10 M M2 := (hX1.wk fun _ q => Or.inr (S1.q q)).tr (((Sx.rf.wI (P := fun a => a = 0) rfl).wk fun _ q => Or.inl q).tr (hX2.wk fun _ q => Or.inr q))
        have g10 : ∀ j, 5 ≤ j → j < 18 → mI M2 10 j = mI M 1 j := fun j a b => by rw [h10b, mI_wx (by decide)]; exact h10 j a b
        have up : ∀ r, r = ans_foretold c (nI n) (nI q) → E 6 0 0 Y_TM_foretold 109 [some (.ref 0), some (.int (nI n)), some (.int (nI q)), none, none] [.int r] GM M2 (QI GM fun r M' => r = ans_foretold c (nI n) (nI q) ∧ HM c M' ∧ Sx S1 M M') := by
          intro r hr
          refine E_istore_3 d_TM_foretold_109 rfl ?_
          refine E_iconst (v := nI 5) d_TM_foretold_110 rfl ?_
          refine E_istore_4 d_TM_foretold_111 rfl ?_
          refine lp_TM_fore3 (g := mI M 1) hR g10 (fun M3 hX3 hF => K3 M3 r hr (HM_fore hM hM2 (sameB.fore n c (sameB.rf c)) (hR.sx hX3) hF ?_) (hX12.tr (hX3.wk fun _ q => Or.inr (S01.s q))) ?_ ?_) 13 5 (by decide) (Nat.le_refl 5) M2 Sx.rf (fun j => by rw [if_neg (by omega)])
          · rw [(hX3.2 3 (by unfold S01; decide)).1, (hX12.2 3 (by unfold S10 S1 SQ; decide)).1]
          · intro j hj
            rw [(hX3.2 0 (by unfold S01; decide)).1, (hX2.2 0 (by unfold S1 SQ; decide)).1, mI_wI, if_neg (fun r => hj r.2), (hX1.2 0 (by unfold SQ; decide)).1]
          · rw [(hX3.2 0 (by unfold S01; decide)).2, (hX2.2 0 (by unfold S1 SQ; decide)).2]
            exact (hX1.2 0 (by unfold SQ; decide)).2
        have hb2 : q = 0 ∨ q = 1 := by omega
        rcases hb2 with rfl | rfl
        · have e : ans_foretold c (nI n) (nI 0) = nI (foreA n c).now.figure := by rw [ans_foretold, if_pos hP, if_pos (show nI 0 = 0 from rfl), ht]
          rw [e] at up ⊢
          refine E_iload_n d_TM_foretold_88 rfl ?_
          first | (with_reducible refine E_isP ?_; refine E_if_ne 102 d_TM_foretold_89 rfl (pb_1 fun h89 => ?_) (pb_0 fun h89 => ?_)) | (with_reducible refine E_isN1 ?_; refine E_if_ne 102 d_TM_foretold_89 rfl (nz_ne fun h89 => ?_) (nz_eq (by omega) fun h89 => ?_)) | refine E_if_ne 102 d_TM_foretold_89 rfl (fun h89 => ?_) (fun h89 => ?_)
          · exfalso; exact absurd h89 (by decide)
          first | refine E_aload_n d_TM_foretold_92 rfl ?_ | refine E_aload_nN d_TM_foretold_92 rfl ?_
          refine E_getR (q := 1) d_TM_foretold_93 gf_TM_7 (by exact ⟨by decide, rfl⟩) (by exact hR _ rfl) ?_
          refine E_bipush (v := nI 7) d_TM_foretold_96 (by decide) ?_
          refine E_iald d_TM_foretold_98 (by exact ⟨by decide, rfl⟩) (by exact ⟨by with_reducible rfl, by omega, by decide⟩) (by exact hM2.A.figure) ?_
          refine E_goto 109 d_TM_foretold_99 rfl ?_
          exact up _ rfl
        · have e : ans_foretold c (nI n) (nI 1) = nI (foreA n c).now.answers := by rw [ans_foretold, if_pos hP, if_neg (by decide), ht]
          rw [e] at up ⊢
          refine E_iload_n d_TM_foretold_88 rfl ?_
          first | (with_reducible refine E_isP ?_; refine E_if_ne 102 d_TM_foretold_89 rfl (pb_1 fun h89 => ?_) (pb_0 fun h89 => ?_)) | (with_reducible refine E_isN1 ?_; refine E_if_ne 102 d_TM_foretold_89 rfl (nz_ne fun h89 => ?_) (nz_eq (by omega) fun h89 => ?_)) | refine E_if_ne 102 d_TM_foretold_89 rfl (fun h89 => ?_) (fun h89 => ?_)
          rotate_left
          · exfalso; exact absurd h89 (by decide)
          first | refine E_aload_n d_TM_foretold_102 rfl ?_ | refine E_aload_nN d_TM_foretold_102 rfl ?_
          refine E_getR (q := 1) d_TM_foretold_103 gf_TM_7 (by exact ⟨by decide, rfl⟩) (by exact hR _ rfl) ?_
          refine E_bipush (v := nI 9) d_TM_foretold_106 (by decide) ?_
          refine E_iald d_TM_foretold_108 (by exact ⟨by decide, rfl⟩) (by exact ⟨by with_reducible rfl, by omega, by decide⟩) (by exact hM2.A.answers) ?_
          exact up _ rfl
      have K1 : ∀ M1, Sx SQ M M1 → (∀ j, 5 ≤ j → j < 18 → mI M1 10 j = mI M 1 j) → E 6 0 0 Y_TM_foretold 47 [some (.ref 0), some (.int (nI n)), some (.int (nI q)), none, none] [] GM M1 (QI GM fun r M' => r = ans_foretold c (nI n) (nI q) ∧ HM c M' ∧ Sx S1 M M') := by
        intro M1 hX1 h10
        have hM1 := hM.sx hX1
        have hR := hM1.R
        first | refine E_aload_n d_TM_foretold_47 rfl ?_ | refine E_aload_nN d_TM_foretold_47 rfl ?_
        refine E_iconst (v := nI 0) d_TM_foretold_48 rfl ?_
        refine E_putZ d_TM_foretold_49 gf_TM_43 (by exact ⟨by decide, rfl⟩) rfl rfl (by decide) ?_
        refine E_iconst (v := nI 0) d_TM_foretold_52 rfl ?_
        refine E_istore_3 d_TM_foretold_53 rfl ?_
        exact lp_TM_fore2 (M0 := wI M1 0 23 (nI 0)) (by omega) (fun M2 hM2 hX2 hb => K2 M1 M2 hX1 h10 hM2 hX2 hb) n 0 (Nat.zero_add _) c _ rfl (HM_w0 hM1) ((mI_wI _ _ _ _ _ _).trans (if_pos ⟨rfl, rfl⟩)) Sx.rf (fun _ => rfl)
      refine E_iload_n d_TM_foretold_0 rfl ?_
      refine E_iconst (v := nI 1) d_TM_foretold_1 rfl ?_
      refine E_bipush (v := nI 60) d_TM_foretold_2 (by decide) ?_
      refine E_S3 (sp_TM_isIn _ _ _) d_TM_foretold_4 ml_TM_69 cb_TM_isIn cs_TM_isIn ⟨by decide, by decide⟩ rfl (Nat.le_of_ble_eq_true rfl) (Nat.le_of_ble_eq_true rfl) (kI fun r1 M1 hc => ?_)
      obtain ⟨rfl, rfl⟩ := hc
      first | (with_reducible refine E_isP ?_; refine E_if_eq 19 d_TM_foretold_7 rfl (pb_0 fun h7 => ?_) (pb_1 fun h7 => ?_)) | (with_reducible refine E_isN1 ?_; refine E_if_eq 19 d_TM_foretold_7 rfl (nz_eq (by omega) fun h7 => ?_) (nz_ne fun h7 => ?_)) | refine E_if_eq 19 d_TM_foretold_7 rfl (fun h7 => ?_) (fun h7 => ?_)
      · exfalso; exact h7 (hl.mpr ⟨by omega, by omega⟩)
      refine E_iload_n d_TM_foretold_10 rfl ?_
      refine E_iconst (v := nI 0) d_TM_foretold_11 rfl ?_
      refine E_iconst (v := nI 1) d_TM_foretold_12 rfl ?_
      refine E_S3 (sp_TM_in _ 1 (by decide)) d_TM_foretold_13 ml_TM_69 cb_TM_isIn cs_TM_isIn ⟨by decide, by decide⟩ rfl (Nat.le_of_ble_eq_true rfl) (Nat.le_of_ble_eq_true rfl) (kI fun r1 M1 hc => ?_)
      obtain ⟨rfl, rfl⟩ := hc
      first | (with_reducible refine E_isP ?_; refine E_if_ne 21 d_TM_foretold_16 rfl (pb_1 fun h16 => ?_) (pb_0 fun h16 => ?_)) | (with_reducible refine E_isN1 ?_; refine E_if_ne 21 d_TM_foretold_16 rfl (nz_ne fun h16 => ?_) (nz_eq (by omega) fun h16 => ?_)) | refine E_if_ne 21 d_TM_foretold_16 rfl (fun h16 => ?_) (fun h16 => ?_)
      rotate_left
      · exfalso; exact h16 hy
      refine E_iconst (v := nI 5) d_TM_foretold_21 rfl ?_
      refine E_istore_3 d_TM_foretold_22 rfl ?_
      exact lp_TM_fore1 hR K1 13 5 (by decide) (Nat.le_refl 5) _ Sx.rf (fun j a b => by omega)
  · have hn : ¬ forP x y := fun q => hx q.1
    rw [ans_foretold, if_neg hn]
    refine E_iload_n d_TM_foretold_0 rfl ?_
    refine E_iconst (v := nI 1) d_TM_foretold_1 rfl ?_
    refine E_bipush (v := nI 60) d_TM_foretold_2 (by decide) ?_
    refine E_S3 (sp_TM_isIn _ _ _) d_TM_foretold_4 ml_TM_69 cb_TM_isIn cs_TM_isIn ⟨by decide, by decide⟩ rfl (Nat.le_of_ble_eq_true rfl) (Nat.le_of_ble_eq_true rfl) (kI fun r1 M1 hc => ?_)
    obtain ⟨rfl, rfl⟩ := hc
    first | (with_reducible refine E_isP ?_; refine E_if_eq 19 d_TM_foretold_7 rfl (pb_0 fun h7 => ?_) (pb_1 fun h7 => ?_)) | (with_reducible refine E_isN1 ?_; refine E_if_eq 19 d_TM_foretold_7 rfl (nz_eq (by omega) fun h7 => ?_) (nz_ne fun h7 => ?_)) | refine E_if_eq 19 d_TM_foretold_7 rfl (fun h7 => ?_) (fun h7 => ?_)
    rotate_left
    · exfalso; have := hl.mp h7; exact hx ⟨by omega, by omega⟩
    refine E_iconst (v := (-1)) d_TM_foretold_19 rfl ?_
    refine E_retI d_TM_foretold_20 rfl ?_
    exact ⟨rfl, hM, Sx.rf⟩
  · have hn : ¬ forP x y := fun q => hy q.2.2
    rw [ans_foretold, if_neg hn]
    refine E_iload_n d_TM_foretold_0 rfl ?_
    refine E_iconst (v := nI 1) d_TM_foretold_1 rfl ?_
    refine E_bipush (v := nI 60) d_TM_foretold_2 (by decide) ?_
    refine E_S3 (sp_TM_isIn _ _ _) d_TM_foretold_4 ml_TM_69 cb_TM_isIn cs_TM_isIn ⟨by decide, by decide⟩ rfl (Nat.le_of_ble_eq_true rfl) (Nat.le_of_ble_eq_true rfl) (kI fun r1 M1 hc => ?_)
    obtain ⟨rfl, rfl⟩ := hc
    first | (with_reducible refine E_isP ?_; refine E_if_eq 19 d_TM_foretold_7 rfl (pb_0 fun h7 => ?_) (pb_1 fun h7 => ?_)) | (with_reducible refine E_isN1 ?_; refine E_if_eq 19 d_TM_foretold_7 rfl (nz_eq (by omega) fun h7 => ?_) (nz_ne fun h7 => ?_)) | refine E_if_eq 19 d_TM_foretold_7 rfl (fun h7 => ?_) (fun h7 => ?_)
    · refine E_iconst (v := (-1)) d_TM_foretold_19 rfl ?_
      refine E_retI d_TM_foretold_20 rfl ?_
      exact ⟨rfl, hM, Sx.rf⟩
    · refine E_iload_n d_TM_foretold_10 rfl ?_
      refine E_iconst (v := nI 0) d_TM_foretold_11 rfl ?_
      refine E_iconst (v := nI 1) d_TM_foretold_12 rfl ?_
      refine E_S3 (sp_TM_in _ 1 (by decide)) d_TM_foretold_13 ml_TM_69 cb_TM_isIn cs_TM_isIn ⟨by decide, by decide⟩ rfl (Nat.le_of_ble_eq_true rfl) (Nat.le_of_ble_eq_true rfl) (kI fun r1 M1 hc => ?_)
      obtain ⟨rfl, rfl⟩ := hc
      first | (with_reducible refine E_isP ?_; refine E_if_ne 21 d_TM_foretold_16 rfl (pb_1 fun h16 => ?_) (pb_0 fun h16 => ?_)) | (with_reducible refine E_isN1 ?_; refine E_if_ne 21 d_TM_foretold_16 rfl (nz_ne fun h16 => ?_) (nz_eq (by omega) fun h16 => ?_)) | refine E_if_ne 21 d_TM_foretold_16 rfl (fun h16 => ?_) (fun h16 => ?_)
      · exfalso; exact hy h16
      refine E_iconst (v := (-1)) d_TM_foretold_19 rfl ?_
      refine E_retI d_TM_foretold_20 rfl ?_
      exact ⟨rfl, hM, Sx.rf⟩
