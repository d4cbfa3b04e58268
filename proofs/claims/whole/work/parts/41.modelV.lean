theorem lp_TM_keep1 {M0 : Mem} {F : Nat → Int32} (hR0 : MR M0) (hF0 : mI M0 1 = F) {Q : Option Value → Geo → Mem → Prop} (K : ∀ M, Sx S01 M0 M → (∀ j, mI M 1 j = if 85 ≤ j ∧ j < 1361 then F (j + 44) else F j) → E 0 0 0 Y_TM_keep 45 [some (.ref 0), none, none] [] GM M Q) :
    ∀ k n, n + k = 1276 → ∀ M, Sx S01 M0 M → (∀ j, mI M 1 j = if 85 ≤ j ∧ j < 85 + n then F (j + 44) else F j) → E 0 0 0 Y_TM_keep 13 [some (.ref 0), some (.int (nI n)), none] [] GM M Q := by
  intro k
  induction k with
  | zero =>
    intro n hn M hX hF
    have hR := hR0.sx hX
    have hn2 : n = 1276 := by omega
    subst hn2
    refine E_iload_n d_TM_keep_13 rfl ?_
    refine E_sipush (v := nI 1276) d_TM_keep_14 (by decide) ?_
    first | (with_reducible refine E_isN2 ?_; refine E_icmp_ge 45 d_TM_keep_17 rfl (nb_le (by omega) (by omega) fun h17 => ?_) (nb_nle (by omega) (by omega) fun h17 => ?_)) | refine E_icmp_ge 45 d_TM_keep_17 rfl (fun h17 => ?_) (fun h17 => ?_)
    rotate_left
    · exfalso; omega
    refine E_wk ?_ (K M hX hF); exact ⟨Or.inl rfl, Or.inr rfl, Or.inl rfl, trivial⟩
  | succ k ih =>
    intro n hn M hX hF
    have hR := hR0.sx hX
    refine E_iload_n d_TM_keep_13 rfl ?_
    refine E_sipush (v := nI 1276) d_TM_keep_14 (by decide) ?_
    first | (with_reducible refine E_isN2 ?_; refine E_icmp_ge 45 d_TM_keep_17 rfl (nb_le (by omega) (by omega) fun h17 => ?_) (nb_nle (by omega) (by omega) fun h17 => ?_)) | refine E_icmp_ge 45 d_TM_keep_17 rfl (fun h17 => ?_) (fun h17 => ?_)
    · exfalso; omega
    first | refine E_aload_n d_TM_keep_20 rfl ?_ | refine E_aload_nN d_TM_keep_20 rfl ?_
    refine E_getR (q := 1) d_TM_keep_21 gf_TM_7 (by exact ⟨by decide, rfl⟩) (by exact hR _ rfl) ?_
    refine E_bipush (v := nI 85) d_TM_keep_24 (by decide) ?_
    refine E_iload_n d_TM_keep_26 rfl ?_
    first | (with_reducible refine E_isN2 ?_; refine E_iaddN d_TM_keep_27 ?_) | refine E_iadd d_TM_keep_27 ?_
    first | refine E_aload_n d_TM_keep_28 rfl ?_ | refine E_aload_nN d_TM_keep_28 rfl ?_
    refine E_getR (q := 1) d_TM_keep_29 gf_TM_7 (by exact ⟨by decide, rfl⟩) (by exact hR _ rfl) ?_
    refine E_sipush (v := nI 129) d_TM_keep_32 (by decide) ?_
    refine E_iload_n d_TM_keep_35 rfl ?_
    first | (with_reducible refine E_isN2 ?_; refine E_iaddN d_TM_keep_36 ?_) | refine E_iadd d_TM_keep_36 ?_
    refine E_iald d_TM_keep_37 (by exact ⟨by decide, rfl⟩) (by exact ⟨by with_reducible rfl, by omega, by decide⟩) (by exact (hF _).trans (if_neg (by omega))) ?_
    refine E_iast d_TM_keep_38 (by exact ⟨by decide, rfl⟩) (by exact ⟨by with_reducible rfl, by omega, by decide⟩) ?_
    first | (with_reducible refine E_isL1 ?_; refine E_iincN1 (m := 1) d_TM_keep_39 rfl rfl ?_) | refine E_iinc_1 d_TM_keep_39 rfl rfl ?_
    refine E_goto 13 d_TM_keep_42 rfl ?_
    refine ih (n + 1) (by omega) _ (hX.wI rfl) (fun j => ?_)
    rw [mI_w1]
    by_cases q : j = 85 + n
    · rw [if_pos q, if_pos (by omega), q, show 85 + n + 44 = 129 + n by omega]
    · rw [if_neg q, hF]
      by_cases q2 : 85 ≤ j ∧ j < 85 + n
      · rw [if_pos q2, if_pos (by omega)]
      · rw [if_neg q2, if_neg (by omega)]
theorem lp_TM_keep2 {M0 : Mem} {x : Nat} {F : Nat → Int32} (hx : 85 ≤ x ∧ x ≤ 1361) (hR0 : MR M0) (hF0 : mI M0 1 = F) {Q : Option Value → Geo → Mem → Prop} (K : ∀ M, Sx S01 M0 M → (∀ j, mI M 1 j = if x + 1 ≤ j ∧ j < x + 1 + 13 then F (5 + (j - (x + 1))) else F j) → E 0 0 0 Y_TM_keep 112 [some (.ref 0), some (.int (nI x)), none] [] GM M Q) :
    ∀ k n, n + k = 13 → ∀ M, Sx S01 M0 M → (∀ j, mI M 1 j = if x + 1 ≤ j ∧ j < x + 1 + n then F (5 + (j - (x + 1))) else F j) → E 0 0 0 Y_TM_keep 82 [some (.ref 0), some (.int (nI x)), some (.int (nI n))] [] GM M Q := by
  intro k
  induction k with
  | zero =>
    intro n hn M hX hF
    have hR := hR0.sx hX
    have hn2 : n = 13 := by omega
    subst hn2
    refine E_iload_n d_TM_keep_82 rfl ?_
    refine E_bipush (v := nI 13) d_TM_keep_83 (by decide) ?_
    first | (with_reducible refine E_isN2 ?_; refine E_icmp_ge 112 d_TM_keep_85 rfl (nb_le (by omega) (by omega) fun h85 => ?_) (nb_nle (by omega) (by omega) fun h85 => ?_)) | refine E_icmp_ge 112 d_TM_keep_85 rfl (fun h85 => ?_) (fun h85 => ?_)
    rotate_left
    · exfalso; omega
    refine E_wk ?_ (K M hX hF); exact ⟨Or.inl rfl, Or.inl rfl, Or.inr rfl, trivial⟩
  | succ k ih =>
    intro n hn M hX hF
    have hR := hR0.sx hX
    refine E_iload_n d_TM_keep_82 rfl ?_
    refine E_bipush (v := nI 13) d_TM_keep_83 (by decide) ?_
    first | (with_reducible refine E_isN2 ?_; refine E_icmp_ge 112 d_TM_keep_85 rfl (nb_le (by omega) (by omega) fun h85 => ?_) (nb_nle (by omega) (by omega) fun h85 => ?_)) | refine E_icmp_ge 112 d_TM_keep_85 rfl (fun h85 => ?_) (fun h85 => ?_)
    · exfalso; omega
    first | refine E_aload_n d_TM_keep_88 rfl ?_ | refine E_aload_nN d_TM_keep_88 rfl ?_
    refine E_getR (q := 1) d_TM_keep_89 gf_TM_7 (by exact ⟨by decide, rfl⟩) (by exact hR _ rfl) ?_
    refine E_iload_n d_TM_keep_92 rfl ?_
    refine E_iconst (v := nI 1) d_TM_keep_93 rfl ?_
    first | (with_reducible refine E_isN2 ?_; refine E_iaddN d_TM_keep_94 ?_) | refine E_iadd d_TM_keep_94 ?_
    refine E_iload_n d_TM_keep_95 rfl ?_
    first | (with_reducible refine E_isN2 ?_; refine E_iaddN d_TM_keep_96 ?_) | refine E_iadd d_TM_keep_96 ?_
    first | refine E_aload_n d_TM_keep_97 rfl ?_ | refine E_aload_nN d_TM_keep_97 rfl ?_
    refine E_getR (q := 1) d_TM_keep_98 gf_TM_7 (by exact ⟨by decide, rfl⟩) (by exact hR _ rfl) ?_
    refine E_iconst (v := nI 5) d_TM_keep_101 rfl ?_
    refine E_iload_n d_TM_keep_102 rfl ?_
    first | (with_reducible refine E_isN2 ?_; refine E_iaddN d_TM_keep_103 ?_) | refine E_iadd d_TM_keep_103 ?_
    refine E_iald d_TM_keep_104 (by exact ⟨by decide, rfl⟩) (by exact ⟨by with_reducible rfl, by omega, by decide⟩) (by exact (hF _).trans (if_neg (by omega))) ?_
    refine E_iast d_TM_keep_105 (by exact ⟨by decide, rfl⟩) (by exact ⟨by with_reducible rfl, by omega, by decide⟩) ?_
    first | (with_reducible refine E_isL2 ?_; refine E_iincN2 (m := 1) d_TM_keep_106 rfl rfl ?_) | refine E_iinc_2 d_TM_keep_106 rfl rfl ?_
    refine E_goto 82 d_TM_keep_109 rfl ?_
    refine ih (n + 1) (by omega) _ (hX.wI rfl) (fun j => ?_)
    rw [mI_w1]
    by_cases q : j = x + 1 + n
    · rw [if_pos q, if_pos (by omega), q, show x + 1 + n - (x + 1) = n by omega]
    · rw [if_neg q, hF]
      by_cases q2 : x + 1 ≤ j ∧ j < x + 1 + n
      · rw [if_pos q2, if_pos (by omega)]
      · rw [if_neg q2, if_neg (by omega)]
theorem lp_TM_keep3 {M0 : Mem} {x : Nat} {F : Nat → Int32} (hx : 85 ≤ x ∧ x ≤ 1361) (hR0 : MR M0) (hF0 : mI M0 1 = F) {Q : Option Value → Geo → Mem → Prop} (K : ∀ M, Sx S01 M0 M → (∀ j, mI M 1 j = if x + 14 ≤ j ∧ j < x + 14 + 30 then F (1405 + (j - (x + 14))) else F j) → E 0 0 0 Y_TM_keep 149 [some (.ref 0), some (.int (nI x)), none] [] GM M Q) :
    ∀ k n, n + k = 30 → ∀ M, Sx S01 M0 M → (∀ j, mI M 1 j = if x + 14 ≤ j ∧ j < x + 14 + n then F (1405 + (j - (x + 14))) else F j) → E 0 0 0 Y_TM_keep 114 [some (.ref 0), some (.int (nI x)), some (.int (nI n))] [] GM M Q := by
  intro k
  induction k with
  | zero =>
    intro n hn M hX hF
    have hR := hR0.sx hX
    have hn2 : n = 30 := by omega
    subst hn2
    refine E_iload_n d_TM_keep_114 rfl ?_
    refine E_bipush (v := nI 30) d_TM_keep_115 (by decide) ?_
    first | (with_reducible refine E_isN2 ?_; refine E_icmp_ge 149 d_TM_keep_117 rfl (nb_le (by omega) (by omega) fun h117 => ?_) (nb_nle (by omega) (by omega) fun h117 => ?_)) | refine E_icmp_ge 149 d_TM_keep_117 rfl (fun h117 => ?_) (fun h117 => ?_)
    rotate_left
    · exfalso; omega
    refine E_wk ?_ (K M hX hF); exact ⟨Or.inl rfl, Or.inl rfl, Or.inr rfl, trivial⟩
  | succ k ih =>
    intro n hn M hX hF
    have hR := hR0.sx hX
    refine E_iload_n d_TM_keep_114 rfl ?_
    refine E_bipush (v := nI 30) d_TM_keep_115 (by decide) ?_
    first | (with_reducible refine E_isN2 ?_; refine E_icmp_ge 149 d_TM_keep_117 rfl (nb_le (by omega) (by omega) fun h117 => ?_) (nb_nle (by omega) (by omega) fun h117 => ?_)) | refine E_icmp_ge 149 d_TM_keep_117 rfl (fun h117 => ?_) (fun h117 => ?_)
    · exfalso; omega
    first | refine E_aload_n d_TM_keep_120 rfl ?_ | refine E_aload_nN d_TM_keep_120 rfl ?_
    refine E_getR (q := 1) d_TM_keep_121 gf_TM_7 (by exact ⟨by decide, rfl⟩) (by exact hR _ rfl) ?_
    refine E_iload_n d_TM_keep_124 rfl ?_
    refine E_iconst (v := nI 1) d_TM_keep_125 rfl ?_
    first | (with_reducible refine E_isN2 ?_; refine E_iaddN d_TM_keep_126 ?_) | refine E_iadd d_TM_keep_126 ?_
    refine E_bipush (v := nI 13) d_TM_keep_127 (by decide) ?_
    first | (with_reducible refine E_isN2 ?_; refine E_iaddN d_TM_keep_129 ?_) | refine E_iadd d_TM_keep_129 ?_
    refine E_iload_n d_TM_keep_130 rfl ?_
    first | (with_reducible refine E_isN2 ?_; refine E_iaddN d_TM_keep_131 ?_) | refine E_iadd d_TM_keep_131 ?_
    first | refine E_aload_n d_TM_keep_132 rfl ?_ | refine E_aload_nN d_TM_keep_132 rfl ?_
    refine E_getR (q := 1) d_TM_keep_133 gf_TM_7 (by exact ⟨by decide, rfl⟩) (by exact hR _ rfl) ?_
    refine E_sipush (v := nI 1405) d_TM_keep_136 (by decide) ?_
    refine E_iload_n d_TM_keep_139 rfl ?_
    first | (with_reducible refine E_isN2 ?_; refine E_iaddN d_TM_keep_140 ?_) | refine E_iadd d_TM_keep_140 ?_
    refine E_iald d_TM_keep_141 (by exact ⟨by decide, rfl⟩) (by exact ⟨by with_reducible rfl, by omega, by decide⟩) (by exact (hF _).trans (if_neg (by omega))) ?_
    rw [show x + 1 + 13 + n = x + 14 + n by omega]
    refine E_iast d_TM_keep_142 (by exact ⟨by decide, rfl⟩) (by exact ⟨by with_reducible rfl, by omega, by decide⟩) ?_
    first | (with_reducible refine E_isL2 ?_; refine E_iincN2 (m := 1) d_TM_keep_143 rfl rfl ?_) | refine E_iinc_2 d_TM_keep_143 rfl rfl ?_
    refine E_goto 114 d_TM_keep_146 rfl ?_
    refine ih (n + 1) (by omega) _ (hX.wI rfl) (fun j => ?_)
    rw [mI_w1]
    by_cases q : j = x + 14 + n
    · rw [if_pos q, if_pos (by omega), q, show x + 14 + n - (x + 14) = n by omega]
    · rw [if_neg q, hF]
      by_cases q2 : x + 14 ≤ j ∧ j < x + 14 + n
      · rw [if_pos q2, if_pos (by omega)]
      · rw [if_neg q2, if_neg (by omega)]
theorem StepsR_snoc {l0 : List Mo} {m : Mo} {n x : Nat} {f1 fA fB fC f' : Nat → Int32} (h : StepsR l0 f1) (hl : l0.length = n) (hn : n ≤ 29) (hm : ∀ y ∈ l0, Mok y) (hmk : Mok m) (hrow : RepRow m f1 5 1405) (hx : x = 85 + 44 * n)
    (eA : ∀ j, fA j = if j = x then nI m.people else f1 j) (eB : ∀ j, fB j = if x + 1 ≤ j ∧ j < x + 1 + 13 then fA (5 + (j - (x + 1))) else fA j) (eC : ∀ j, fC j = if x + 14 ≤ j ∧ j < x + 14 + 30 then fB (1405 + (j - (x + 14))) else fB j) (e' : ∀ j, 85 ≤ j → j < 1405 → f' j = fC j) : StepsR (l0 ++ [m]) f' := by
  intro i y hy
  have lo : ∀ j, 85 ≤ j → j < x → f' j = f1 j := fun j a b => by rw [e' j a (by omega), eC, if_neg (by omega), eB, if_neg (by omega), eA, if_neg (by omega)]
  by_cases hi : i < n
  · rw [List.getElem?_append_left (by omega)] at hy
    obtain ⟨hlt, e1⟩ := List.getElem?_eq_some_iff.mp hy
    have hk := hm y (by rw [← e1]; exact List.getElem_mem hlt)
    obtain ⟨h1, h2⟩ := h i y hy
    exact ⟨(lo _ (by omega) (by omega)).trans h1, h2.cg hk.1 hk.2.2.2.2.2.2.1 (fun j a b => lo j (by omega) (by omega)) (fun j a b => lo j (by omega) (by omega))⟩
  · rw [List.getElem?_append_right (by omega)] at hy
    have hi2 : i = n := by
      have := (List.getElem?_eq_some_iff.mp hy).1
      simp at this
      omega
    rw [hi2, hl, Nat.sub_self] at hy
    have hy2 : m = y := Option.some.inj hy
    subst hy2
    rw [hi2, ← hx]
    refine ⟨?_, hrow.mv hmk.1 hmk.2.2.2.2.2.2.1 (fun i hi => ?_) (fun i hi => ?_)⟩
    · rw [e' x (by omega) (by omega), eC, if_neg (by omega), eB, if_neg (by omega), eA, if_pos rfl]
    · rw [e' _ (by omega) (by omega), eC, if_neg (by omega), eB, if_pos (by omega), eA, if_neg (by omega), show 5 + (x + 1 + i - (x + 1)) = 5 + i by omega]
    · rw [e' _ (by omega) (by omega), eC, if_pos (by omega), eB, if_neg (by omega), eA, if_neg (by omega), show 1405 + (x + 14 + i - (x + 14)) = 1405 + i by omega]
theorem StepsR_tail {l : List Mo} {f f1 : Nat → Int32} (h : StepsR l f) (hl : l.length = 30) (hm : ∀ y ∈ l, Mok y) (e : ∀ j, 85 ≤ j → j < 1361 → f1 j = f (j + 44)) : StepsR l.tail f1 := by
  intro i y hy
  have hi : i < 29 := by
    have := (List.getElem?_eq_some_iff.mp hy).1
    rw [List.length_tail, hl] at this
    exact this
  have hy2 : l[i + 1]? = some y := by rw [← hy]; cases l <;> rfl
  obtain ⟨hlt, e1⟩ := List.getElem?_eq_some_iff.mp hy2
  have hk := hm y (by rw [← e1]; exact List.getElem_mem hlt)
  obtain ⟨h1, h2⟩ := h (i + 1) y hy2
  refine ⟨?_, h2.mv hk.1 hk.2.2.2.2.2.2.1 (fun j hj => ?_) (fun j hj => ?_)⟩
  · rw [e _ (by omega) (by omega), ← h1, show 85 + 44 * i + 44 = 85 + 44 * (i + 1) by omega]
  · rw [e _ (by omega) (by omega), show 85 + 44 * i + 1 + j + 44 = 85 + 44 * (i + 1) + 1 + j by omega]
  · rw [e _ (by omega) (by omega), show 85 + 44 * i + 14 + j + 44 = 85 + 44 * (i + 1) + 14 + j by omega]
theorem Wf_keep {c : Cr} (h : Wf c) : Wf (keepS c) := Wf_ns (st := push30 c.steps c.now) h h.mo rfl (push30_le h.steps) (fun x hx => by
  rcases push30_mem hx with q | q
  · exact h.step x q
  · rw [q]; exact ⟨h.mo, Nat.le_refl _⟩)
theorem sp_TM_keepB {c : Cr} {M M1 : Mem} {l0 : List Mo} {n : Nat} (hM : HM c M) (hX : Sx S01 M M1) (hn : n ≤ 29) (hl : l0.length = n) (hst : StepsR l0 (mI M1 1)) (hmk : ∀ y ∈ l0, Mok y) (h3 : mI M1 1 3 = nI n) (hne : ∀ j, j ≠ 3 → (j < 85 ∨ 1405 ≤ j) → mI M1 1 j = mI M 1 j) (hp : push30 c.steps c.now = l0 ++ [c.now]) :
    E 0 0 0 Y_TM_keep 55 [some (.ref 0), none, none] [] GM M1 (QV GM fun M' => HM (keepS c) M' ∧ Sx S01 M M') := by
  have hR := hM.R.sx hX
  have hA := hM.A
  have hp8 := hM.w.p8
  have hwf := hM.w
  have e0 : mI M1 1 0 = nI c.now.people := (hne 0 (by omega) (by omega)).trans hA.people
  have hrow : RepRow c.now (mI M1 1) 5 1405 := hA.row.cg hp8 hwf.book (fun i a b => hne i (by omega) (by omega)) (fun i a b => hne i (by omega) (by omega))
  have K3 : ∀ M2 M3 M4, Sx S01 M M4 → (∀ j, mI M2 1 j = if j = 85 + 44 * n then nI c.now.people else mI M1 1 j) → (∀ j, mI M3 1 j = if 85 + 44 * n + 1 ≤ j ∧ j < 85 + 44 * n + 1 + 13 then mI M2 1 (5 + (j - (85 + 44 * n + 1))) else mI M2 1 j) → (∀ j, mI M4 1 j = if 85 + 44 * n + 14 ≤ j ∧ j < 85 + 44 * n + 14 + 30 then mI M3 1 (1405 + (j - (85 + 44 * n + 14))) else mI M3 1 j) →
      E 0 0 0 Y_TM_keep 149 [some (.ref 0), some (.int (nI (85 + 44 * n))), none] [] GM M4 (QV GM fun M' => HM (keepS c) M' ∧ Sx S01 M M') := by
    intro M2 M3 M4 hX4 e2 e3 e4
    have hR := hM.R.sx hX4
    have ne4 : ∀ j, j < 85 ∨ 1405 ≤ j → mI M4 1 j = mI M1 1 j := fun j a => by rw [e4, if_neg (by omega), e3, if_neg (by omega), e2, if_neg (by omega)]
    have b3 : mI M4 1 3 = nI n := (ne4 3 (by omega)).trans h3
    first | refine E_aload_n d_TM_keep_149 rfl ?_ | refine E_aload_nN d_TM_keep_149 rfl ?_
    refine E_getR (q := 1) d_TM_keep_150 gf_TM_7 (by exact ⟨by decide, rfl⟩) (by exact hR _ rfl) ?_
    refine E_iconst (v := nI 3) d_TM_keep_153 rfl ?_
    refine E_dup2 d_TM_keep_154 rfl rfl ?_
    refine E_iald d_TM_keep_155 (by exact ⟨by decide, rfl⟩) (by exact ⟨by with_reducible rfl, by omega, by decide⟩) (by exact b3) ?_
    refine E_iconst (v := nI 1) d_TM_keep_156 rfl ?_
    first | (with_reducible refine E_isN2 ?_; refine E_iaddN d_TM_keep_157 ?_) | refine E_iadd d_TM_keep_157 ?_
    refine E_iast d_TM_keep_158 (by exact ⟨by decide, rfl⟩) (by exact ⟨by with_reducible rfl, by omega, by decide⟩) ?_
    refine E_retV d_TM_keep_159 rfl ?_
    have ne' : ∀ j, j ≠ 3 → mI (wI M4 1 3 (nI (n + 1))) 1 j = mI M4 1 j := fun j q => (mI_w1 _).trans (if_neg q)
    have hne' : ∀ j, j ≠ 3 → (j < 85 ∨ 1405 ≤ j) → mI (wI M4 1 3 (nI (n + 1))) 1 j = mI M 1 j := fun j q a => (ne' j q).trans ((ne4 j a).trans (hne j q a))
    refine ⟨⟨hR, ?_, by rw [show mI (wI M4 1 3 (nI (n + 1))) 3 = mI M 3 from by funext j; rw [mI_wx (by decide), (hX4.2 3 (by unfold S01; decide)).1]]; exact hM.T, Wf_keep hwf⟩, hX4.wI rfl⟩
    refine RepA_ns (m := c.now) (st := push30 c.steps c.now) hA hwf rfl (hA.row.cg hp8 hwf.book (fun i a b => hne' i (by omega) (by omega)) (fun i a b => hne' i (by omega) (by omega))) ?_ ?_ (fun i a b _ => hne' i b (by omega))
    · rw [mI_w1, if_pos rfl, hp, List.length_append, hl]; rfl
    · rw [hp]; exact StepsR_snoc hst hl hn hmk hwf.mo hrow rfl e2 e3 e4 (fun j a b => ne' j (by omega))
  have K2 : ∀ M2 M3, Sx S01 M M3 → (∀ j, mI M2 1 j = if j = 85 + 44 * n then nI c.now.people else mI M1 1 j) → (∀ j, mI M3 1 j = if 85 + 44 * n + 1 ≤ j ∧ j < 85 + 44 * n + 1 + 13 then mI M2 1 (5 + (j - (85 + 44 * n + 1))) else mI M2 1 j) → E 0 0 0 Y_TM_keep 112 [some (.ref 0), some (.int (nI (85 + 44 * n))), none] [] GM M3 (QV GM fun M' => HM (keepS c) M' ∧ Sx S01 M M') := by
    intro M2 M3 hX3 e2 e3
    refine E_iconst (v := nI 0) d_TM_keep_112 rfl ?_
    refine E_istore_2 d_TM_keep_113 rfl ?_
    exact lp_TM_keep3 (x := 85 + 44 * n) ⟨by omega, by omega⟩ (hM.R.sx hX3) rfl (fun M4 h4 e4 => K3 M2 M3 M4 (hX3.tr h4) e2 e3 e4) 30 0 (by decide) M3 Sx.rf (fun j => by rw [if_neg (by omega)])
  refine E_bipush (v := nI 85) d_TM_keep_55 (by decide) ?_
  refine E_bipush (v := nI 44) d_TM_keep_57 (by decide) ?_
  first | refine E_aload_n d_TM_keep_59 rfl ?_ | refine E_aload_nN d_TM_keep_59 rfl ?_
  refine E_getR (q := 1) d_TM_keep_60 gf_TM_7 (by exact ⟨by decide, rfl⟩) (by exact hR _ rfl) ?_
  refine E_iconst (v := nI 3) d_TM_keep_63 rfl ?_
  refine E_iald d_TM_keep_64 (by exact ⟨by decide, rfl⟩) (by exact ⟨by with_reducible rfl, by omega, by decide⟩) (by exact h3) ?_
  first | (with_reducible refine E_isN2 ?_; refine E_imulN d_TM_keep_65 ?_) | refine E_imul d_TM_keep_65 ?_
  first | (with_reducible refine E_isN2 ?_; refine E_iaddN d_TM_keep_66 ?_) | refine E_iadd d_TM_keep_66 ?_
  refine E_istore_1 d_TM_keep_67 rfl ?_
  first | refine E_aload_n d_TM_keep_68 rfl ?_ | refine E_aload_nN d_TM_keep_68 rfl ?_
  refine E_getR (q := 1) d_TM_keep_69 gf_TM_7 (by exact ⟨by decide, rfl⟩) (by exact hR _ rfl) ?_
  refine E_iload_n d_TM_keep_72 rfl ?_
  first | refine E_aload_n d_TM_keep_73 rfl ?_ | refine E_aload_nN d_TM_keep_73 rfl ?_
  refine E_getR (q := 1) d_TM_keep_74 gf_TM_7 (by exact ⟨by decide, rfl⟩) (by exact hR _ rfl) ?_
  refine E_iconst (v := nI 0) d_TM_keep_77 rfl ?_
  refine E_iald d_TM_keep_78 (by exact ⟨by decide, rfl⟩) (by exact ⟨by with_reducible rfl, by omega, by decide⟩) (by exact e0) ?_
  refine E_iast d_TM_keep_79 (by exact ⟨by decide, rfl⟩) (by exact ⟨by with_reducible rfl, by omega, by decide⟩) ?_
  refine E_iconst (v := nI 0) d_TM_keep_80 rfl ?_
  refine E_istore_2 d_TM_keep_81 rfl ?_
  exact lp_TM_keep2 (x := 85 + 44 * n) ⟨by omega, by omega⟩ (hM.R.sx (hX.wI rfl)) rfl (fun M3 hX3 e3 => K2 _ M3 ((hX.wI rfl).tr hX3) (fun j => mI_w1 j) e3) 13 0 (by decide) _ Sx.rf (fun j => by rw [if_neg (by omega)])
theorem sp_TM_keep {c : Cr} {M : Mem} (hM : HM c M) : E 0 0 0 Y_TM_keep 0 [some (.ref 0), none, none] [] GM M (QV GM fun M' => HM (keepS c) M' ∧ Sx S01 M M') := by
  have hR := hM.R
  have hA := hM.A
  have hwf := hM.w
  have h30 := hM.w.steps
  have e3 := hA.steps
  have hmk : ∀ y ∈ c.steps, Mok y := fun y hy => (hwf.step y hy).1
  by_cases q : c.steps.length = 30
  · have K1 : ∀ M1, Sx S01 M M1 → (∀ j, mI M1 1 j = if 85 ≤ j ∧ j < 1361 then mI M 1 (j + 44) else mI M 1 j) → E 0 0 0 Y_TM_keep 45 [some (.ref 0), none, none] [] GM M1 (QV GM fun M' => HM (keepS c) M' ∧ Sx S01 M M') := by
      intro M1 hX1 hF
      have hR := hM.R.sx hX1
      have b3 : mI M1 1 3 = nI 30 := by rw [hF, if_neg (by omega), e3, q]
      first | refine E_aload_n d_TM_keep_45 rfl ?_ | refine E_aload_nN d_TM_keep_45 rfl ?_
      refine E_getR (q := 1) d_TM_keep_46 gf_TM_7 (by exact ⟨by decide, rfl⟩) (by exact hR _ rfl) ?_
      refine E_iconst (v := nI 3) d_TM_keep_49 rfl ?_
      refine E_dup2 d_TM_keep_50 rfl rfl ?_
      refine E_iald d_TM_keep_51 (by exact ⟨by decide, rfl⟩) (by exact ⟨by with_reducible rfl, by omega, by decide⟩) (by exact b3) ?_
      refine E_iconst (v := nI 1) d_TM_keep_52 rfl ?_
      first | (with_reducible refine E_isN2 ?_; refine E_isubN d_TM_keep_53 (by omega) ?_) | refine E_isub d_TM_keep_53 ?_
      refine E_iast d_TM_keep_54 (by exact ⟨by decide, rfl⟩) (by exact ⟨by with_reducible rfl, by omega, by decide⟩) ?_
      refine sp_TM_keepB (n := 29) (l0 := c.steps.tail) hM (hX1.wI rfl) (by decide) (by rw [List.length_tail, q]) (StepsR_tail hA.stepsR q hmk (fun j a b => ?_)) (fun y hy => hmk y (List.mem_of_mem_tail hy)) ((mI_w1 _).trans (if_pos rfl)) (fun j a b => ?_) (by unfold push30; rw [if_pos q])
      · rw [mI_w1, if_neg (by omega), hF, if_pos (by omega)]
      · rw [mI_w1, if_neg a, hF, if_neg (by omega)]
    first | refine E_aload_n d_TM_keep_0 rfl ?_ | refine E_aload_nN d_TM_keep_0 rfl ?_
    refine E_getR (q := 1) d_TM_keep_1 gf_TM_7 (by exact ⟨by decide, rfl⟩) (by exact hR _ rfl) ?_
    refine E_iconst (v := nI 3) d_TM_keep_4 rfl ?_
    refine E_iald d_TM_keep_5 (by exact ⟨by decide, rfl⟩) (by exact ⟨by with_reducible rfl, by omega, by decide⟩) (by exact e3) ?_
    refine E_bipush (v := nI 30) d_TM_keep_6 (by decide) ?_
    first | (with_reducible refine E_isN2 ?_; refine E_icmp_ne 55 d_TM_keep_8 rfl (nb_ne fun h8 => ?_) (nb_eq (by omega) (by omega) fun h8 => ?_)) | refine E_icmp_ne 55 d_TM_keep_8 rfl (fun h8 => ?_) (fun h8 => ?_)
    · exfalso; exact h8 q
    refine E_iconst (v := nI 0) d_TM_keep_11 rfl ?_
    refine E_istore_1 d_TM_keep_12 rfl ?_
    exact lp_TM_keep1 hR rfl K1 1276 0 (by decide) M Sx.rf (fun j => by rw [if_neg (by omega)])
  · have K := sp_TM_keepB (n := c.steps.length) (l0 := c.steps) hM Sx.rf (by omega) rfl hA.stepsR hmk e3 (fun _ _ _ => rfl) (by unfold push30; rw [if_neg q])
    first | refine E_aload_n d_TM_keep_0 rfl ?_ | refine E_aload_nN d_TM_keep_0 rfl ?_
    refine E_getR (q := 1) d_TM_keep_1 gf_TM_7 (by exact ⟨by decide, rfl⟩) (by exact hR _ rfl) ?_
    refine E_iconst (v := nI 3) d_TM_keep_4 rfl ?_
    refine E_iald d_TM_keep_5 (by exact ⟨by decide, rfl⟩) (by exact ⟨by with_reducible rfl, by omega, by decide⟩) (by exact e3) ?_
    refine E_bipush (v := nI 30) d_TM_keep_6 (by decide) ?_
    first | (with_reducible refine E_isN2 ?_; refine E_icmp_ne 55 d_TM_keep_8 rfl (nb_ne fun h8 => ?_) (nb_eq (by omega) (by omega) fun h8 => ?_)) | refine E_icmp_ne 55 d_TM_keep_8 rfl (fun h8 => ?_) (fun h8 => ?_)
    rotate_left
    · exfalso; exact q h8
    exact K
