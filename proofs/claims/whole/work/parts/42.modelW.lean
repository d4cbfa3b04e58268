def undoM (c : Cr) (m : Mo) : Mo := (fun p => if p < m.people then m.lean p else c.begun p, m.book, c.now.people, m.answers, m.figure, m.round, m.x)
def lastS (c : Cr) : Mo := c.steps.getD (c.steps.length - 1) c.now
def undoS (c : Cr) : Cr := Cr.mk (undoM c (lastS c)) c.sort c.begun c.hears (c.steps.take (c.steps.length - 1)) c.texts c.ruling c.parties c.saids c.villages
def st_undo (c : Cr) : Cr := if c.steps.length = 0 then c else undoS c
def ans_undo (c : Cr) : Int32 := if c.steps.length = 0 then -1 else nI (c.steps.length - 1)
theorem lp_TM_undo1 {M0 : Mem} {x : Nat} {F : Nat → Int32} (hx : 85 ≤ x ∧ x ≤ 1361) (hR0 : MR M0) (hF0 : mI M0 1 = F) {Q : Option Value → Geo → Mem → Prop} (K : ∀ M, Sx S01 M0 M → (∀ j, mI M 1 j = if 5 ≤ j ∧ j < 5 + 13 then F (x + 1 + (j - 5)) else F j) → E 0 0 0 Y_TM_undo 66 [some (.ref 0), some (.int (nI x)), none] [] GM M Q) :
    ∀ k n, n + k = 13 → ∀ M, Sx S01 M0 M → (∀ j, mI M 1 j = if 5 ≤ j ∧ j < 5 + n then F (x + 1 + (j - 5)) else F j) → E 0 0 0 Y_TM_undo 36 [some (.ref 0), some (.int (nI x)), some (.int (nI n))] [] GM M Q := by
  intro k
  induction k with
  | zero =>
    intro n hn M hX hF
    have hR := hR0.sx hX
    have hn2 : n = 13 := by omega
    subst hn2
    refine E_iload_n d_TM_undo_36 rfl ?_
    refine E_bipush (v := nI 13) d_TM_undo_37 (by decide) ?_
    first | (with_reducible refine E_isN2 ?_; refine E_icmp_ge 66 d_TM_undo_39 rfl (nb_le (by omega) (by omega) fun h39 => ?_) (nb_nle (by omega) (by omega) fun h39 => ?_)) | refine E_icmp_ge 66 d_TM_undo_39 rfl (fun h39 => ?_) (fun h39 => ?_)
    rotate_left
    · exfalso; omega
    refine E_wk ?_ (K M hX hF); exact ⟨Or.inl rfl, Or.inl rfl, Or.inr rfl, trivial⟩
  | succ k ih =>
    intro n hn M hX hF
    have hR := hR0.sx hX
    refine E_iload_n d_TM_undo_36 rfl ?_
    refine E_bipush (v := nI 13) d_TM_undo_37 (by decide) ?_
    first | (with_reducible refine E_isN2 ?_; refine E_icmp_ge 66 d_TM_undo_39 rfl (nb_le (by omega) (by omega) fun h39 => ?_) (nb_nle (by omega) (by omega) fun h39 => ?_)) | refine E_icmp_ge 66 d_TM_undo_39 rfl (fun h39 => ?_) (fun h39 => ?_)
    · exfalso; omega
    first | refine E_aload_n d_TM_undo_42 rfl ?_ | refine E_aload_nN d_TM_undo_42 rfl ?_
    refine E_getR (q := 1) d_TM_undo_43 gf_TM_7 (by exact ⟨by decide, rfl⟩) (by exact hR _ rfl) ?_
    refine E_iconst (v := nI 5) d_TM_undo_46 rfl ?_
    refine E_iload_n d_TM_undo_47 rfl ?_
    first | (with_reducible refine E_isN2 ?_; refine E_iaddN d_TM_undo_48 ?_) | refine E_iadd d_TM_undo_48 ?_
    first | refine E_aload_n d_TM_undo_49 rfl ?_ | refine E_aload_nN d_TM_undo_49 rfl ?_
    refine E_getR (q := 1) d_TM_undo_50 gf_TM_7 (by exact ⟨by decide, rfl⟩) (by exact hR _ rfl) ?_
    refine E_iload_n d_TM_undo_53 rfl ?_
    refine E_iconst (v := nI 1) d_TM_undo_54 rfl ?_
    first | (with_reducible refine E_isN2 ?_; refine E_iaddN d_TM_undo_55 ?_) | refine E_iadd d_TM_undo_55 ?_
    refine E_iload_n d_TM_undo_56 rfl ?_
    first | (with_reducible refine E_isN2 ?_; refine E_iaddN d_TM_undo_57 ?_) | refine E_iadd d_TM_undo_57 ?_
    refine E_iald d_TM_undo_58 (by exact ⟨by decide, rfl⟩) (by exact ⟨by with_reducible rfl, by omega, by decide⟩) (by exact (hF _).trans (if_neg (by omega))) ?_
    refine E_iast d_TM_undo_59 (by exact ⟨by decide, rfl⟩) (by exact ⟨by with_reducible rfl, by omega, by decide⟩) ?_
    first | (with_reducible refine E_isL2 ?_; refine E_iincN2 (m := 1) d_TM_undo_60 rfl rfl ?_) | refine E_iinc_2 d_TM_undo_60 rfl rfl ?_
    refine E_goto 36 d_TM_undo_63 rfl ?_
    refine ih (n + 1) (by omega) _ (hX.wI rfl) (fun j => ?_)
    rw [mI_w1]
    by_cases q : j = 5 + n
    · rw [if_pos q, if_pos (by omega), q, show 5 + n - 5 = n by omega]
    · rw [if_neg q, hF]
      by_cases q2 : 5 ≤ j ∧ j < 5 + n
      · rw [if_pos q2, if_pos (by omega)]
      · rw [if_neg q2, if_neg (by omega)]
theorem lp_TM_undo2 {M0 : Mem} {x P mp : Nat} {F : Nat → Int32} (hP : P ≤ 8) (hm : mp ≤ P) (hR0 : MR M0) (hF0 : mI M0 1 = F) (h0 : F 0 = nI P) {Q : Option Value → Geo → Mem → Prop} (K : ∀ M, Sx S01 M0 M → (∀ j, mI M 1 j = if 10 + mp ≤ j ∧ j < 10 + P then F (26 + (j - 10)) else F j) → E 0 0 0 Y_TM_undo 107 [some (.ref 0), some (.int (nI x)), none] [] GM M Q) :
    ∀ k n, n + k = P → mp ≤ n → ∀ M, Sx S01 M0 M → (∀ j, mI M 1 j = if 10 + mp ≤ j ∧ j < 10 + n then F (26 + (j - 10)) else F j) → E 0 0 0 Y_TM_undo 73 [some (.ref 0), some (.int (nI x)), some (.int (nI n))] [] GM M Q := by
  intro k
  induction k with
  | zero =>
    intro n hn hmn M hX hF
    have hR := hR0.sx hX
    have hn2 : n = P := by omega
    subst hn2
    have e0 : mI M 1 0 = nI n := (hF 0).trans ((if_neg (by omega)).trans h0)
    refine E_iload_n d_TM_undo_73 rfl ?_
    first | refine E_aload_n d_TM_undo_74 rfl ?_ | refine E_aload_nN d_TM_undo_74 rfl ?_
    refine E_getR (q := 1) d_TM_undo_75 gf_TM_7 (by exact ⟨by decide, rfl⟩) (by exact hR _ rfl) ?_
    refine E_iconst (v := nI 0) d_TM_undo_78 rfl ?_
    refine E_iald d_TM_undo_79 (by exact ⟨by decide, rfl⟩) (by exact ⟨by with_reducible rfl, by omega, by decide⟩) (by exact e0) ?_
    first | (with_reducible refine E_isN2 ?_; refine E_icmp_ge 107 d_TM_undo_80 rfl (nb_le (by omega) (by omega) fun h80 => ?_) (nb_nle (by omega) (by omega) fun h80 => ?_)) | refine E_icmp_ge 107 d_TM_undo_80 rfl (fun h80 => ?_) (fun h80 => ?_)
    rotate_left
    · exfalso; omega
    refine E_wk ?_ (K M hX hF); exact ⟨Or.inl rfl, Or.inl rfl, Or.inr rfl, trivial⟩
  | succ k ih =>
    intro n hn hmn M hX hF
    have hR := hR0.sx hX
    have e0 : mI M 1 0 = nI P := (hF 0).trans ((if_neg (by omega)).trans h0)
    refine E_iload_n d_TM_undo_73 rfl ?_
    first | refine E_aload_n d_TM_undo_74 rfl ?_ | refine E_aload_nN d_TM_undo_74 rfl ?_
    refine E_getR (q := 1) d_TM_undo_75 gf_TM_7 (by exact ⟨by decide, rfl⟩) (by exact hR _ rfl) ?_
    refine E_iconst (v := nI 0) d_TM_undo_78 rfl ?_
    refine E_iald d_TM_undo_79 (by exact ⟨by decide, rfl⟩) (by exact ⟨by with_reducible rfl, by omega, by decide⟩) (by exact e0) ?_
    first | (with_reducible refine E_isN2 ?_; refine E_icmp_ge 107 d_TM_undo_80 rfl (nb_le (by omega) (by omega) fun h80 => ?_) (nb_nle (by omega) (by omega) fun h80 => ?_)) | refine E_icmp_ge 107 d_TM_undo_80 rfl (fun h80 => ?_) (fun h80 => ?_)
    · exfalso; omega
    first | refine E_aload_n d_TM_undo_83 rfl ?_ | refine E_aload_nN d_TM_undo_83 rfl ?_
    refine E_getR (q := 1) d_TM_undo_84 gf_TM_7 (by exact ⟨by decide, rfl⟩) (by exact hR _ rfl) ?_
    refine E_bipush (v := nI 10) d_TM_undo_87 (by decide) ?_
    refine E_iload_n d_TM_undo_89 rfl ?_
    first | (with_reducible refine E_isN2 ?_; refine E_iaddN d_TM_undo_90 ?_) | refine E_iadd d_TM_undo_90 ?_
    first | refine E_aload_n d_TM_undo_91 rfl ?_ | refine E_aload_nN d_TM_undo_91 rfl ?_
    refine E_getR (q := 1) d_TM_undo_92 gf_TM_7 (by exact ⟨by decide, rfl⟩) (by exact hR _ rfl) ?_
    refine E_bipush (v := nI 26) d_TM_undo_95 (by decide) ?_
    refine E_iload_n d_TM_undo_97 rfl ?_
    first | (with_reducible refine E_isN2 ?_; refine E_iaddN d_TM_undo_98 ?_) | refine E_iadd d_TM_undo_98 ?_
    refine E_iald d_TM_undo_99 (by exact ⟨by decide, rfl⟩) (by exact ⟨by with_reducible rfl, by omega, by decide⟩) (by exact (hF _).trans (if_neg (by omega))) ?_
    refine E_iast d_TM_undo_100 (by exact ⟨by decide, rfl⟩) (by exact ⟨by with_reducible rfl, by omega, by decide⟩) ?_
    first | (with_reducible refine E_isL2 ?_; refine E_iincN2 (m := 1) d_TM_undo_101 rfl rfl ?_) | refine E_iinc_2 d_TM_undo_101 rfl rfl ?_
    refine E_goto 73 d_TM_undo_104 rfl ?_
    refine ih (n + 1) (by omega) (by omega) _ (hX.wI rfl) (fun j => ?_)
    rw [mI_w1]
    by_cases q : j = 10 + n
    · rw [if_pos q, if_pos (by omega), q, show 10 + n - 10 = n by omega]
    · rw [if_neg q, hF]
      by_cases q2 : 10 + mp ≤ j ∧ j < 10 + n
      · rw [if_pos q2, if_pos (by omega)]
      · rw [if_neg q2, if_neg (by omega)]
theorem lp_TM_undo3 {M0 : Mem} {x : Nat} {F : Nat → Int32} (hx : 85 ≤ x ∧ x ≤ 1361) (hR0 : MR M0) (hF0 : mI M0 1 = F) {Q : Option Value → Geo → Mem → Prop} (K : ∀ M, Sx S01 M0 M → (∀ j, mI M 1 j = if 1405 ≤ j ∧ j < 1405 + 30 then F (x + 14 + (j - 1405)) else F j) → E 0 0 0 Y_TM_undo 144 [some (.ref 0), some (.int (nI x)), none] [] GM M Q) :
    ∀ k n, n + k = 30 → ∀ M, Sx S01 M0 M → (∀ j, mI M 1 j = if 1405 ≤ j ∧ j < 1405 + n then F (x + 14 + (j - 1405)) else F j) → E 0 0 0 Y_TM_undo 109 [some (.ref 0), some (.int (nI x)), some (.int (nI n))] [] GM M Q := by
  intro k
  induction k with
  | zero =>
    intro n hn M hX hF
    have hR := hR0.sx hX
    have hn2 : n = 30 := by omega
    subst hn2
    refine E_iload_n d_TM_undo_109 rfl ?_
    refine E_bipush (v := nI 30) d_TM_undo_110 (by decide) ?_
    first | (with_reducible refine E_isN2 ?_; refine E_icmp_ge 144 d_TM_undo_112 rfl (nb_le (by omega) (by omega) fun h112 => ?_) (nb_nle (by omega) (by omega) fun h112 => ?_)) | refine E_icmp_ge 144 d_TM_undo_112 rfl (fun h112 => ?_) (fun h112 => ?_)
    rotate_left
    · exfalso; omega
    refine E_wk ?_ (K M hX hF); exact ⟨Or.inl rfl, Or.inl rfl, Or.inr rfl, trivial⟩
  | succ k ih =>
    intro n hn M hX hF
    have hR := hR0.sx hX
    refine E_iload_n d_TM_undo_109 rfl ?_
    refine E_bipush (v := nI 30) d_TM_undo_110 (by decide) ?_
    first | (with_reducible refine E_isN2 ?_; refine E_icmp_ge 144 d_TM_undo_112 rfl (nb_le (by omega) (by omega) fun h112 => ?_) (nb_nle (by omega) (by omega) fun h112 => ?_)) | refine E_icmp_ge 144 d_TM_undo_112 rfl (fun h112 => ?_) (fun h112 => ?_)
    · exfalso; omega
    first | refine E_aload_n d_TM_undo_115 rfl ?_ | refine E_aload_nN d_TM_undo_115 rfl ?_
    refine E_getR (q := 1) d_TM_undo_116 gf_TM_7 (by exact ⟨by decide, rfl⟩) (by exact hR _ rfl) ?_
    refine E_sipush (v := nI 1405) d_TM_undo_119 (by decide) ?_
    refine E_iload_n d_TM_undo_122 rfl ?_
    first | (with_reducible refine E_isN2 ?_; refine E_iaddN d_TM_undo_123 ?_) | refine E_iadd d_TM_undo_123 ?_
    first | refine E_aload_n d_TM_undo_124 rfl ?_ | refine E_aload_nN d_TM_undo_124 rfl ?_
    refine E_getR (q := 1) d_TM_undo_125 gf_TM_7 (by exact ⟨by decide, rfl⟩) (by exact hR _ rfl) ?_
    refine E_iload_n d_TM_undo_128 rfl ?_
    refine E_iconst (v := nI 1) d_TM_undo_129 rfl ?_
    first | (with_reducible refine E_isN2 ?_; refine E_iaddN d_TM_undo_130 ?_) | refine E_iadd d_TM_undo_130 ?_
    refine E_bipush (v := nI 13) d_TM_undo_131 (by decide) ?_
    first | (with_reducible refine E_isN2 ?_; refine E_iaddN d_TM_undo_133 ?_) | refine E_iadd d_TM_undo_133 ?_
    refine E_iload_n d_TM_undo_134 rfl ?_
    first | (with_reducible refine E_isN2 ?_; refine E_iaddN d_TM_undo_135 ?_) | refine E_iadd d_TM_undo_135 ?_
    rw [show x + 1 + 13 + n = x + 14 + n by omega]
    refine E_iald d_TM_undo_136 (by exact ⟨by decide, rfl⟩) (by exact ⟨by with_reducible rfl, by omega, by decide⟩) (by exact (hF _).trans (if_neg (by omega))) ?_
    refine E_iast d_TM_undo_137 (by exact ⟨by decide, rfl⟩) (by exact ⟨by with_reducible rfl, by omega, by decide⟩) ?_
    first | (with_reducible refine E_isL2 ?_; refine E_iincN2 (m := 1) d_TM_undo_138 rfl rfl ?_) | refine E_iinc_2 d_TM_undo_138 rfl rfl ?_
    refine E_goto 109 d_TM_undo_141 rfl ?_
    refine ih (n + 1) (by omega) _ (hX.wI rfl) (fun j => ?_)
    rw [mI_w1]
    by_cases q : j = 1405 + n
    · rw [if_pos q, if_pos (by omega), q, show 1405 + n - 1405 = n by omega]
    · rw [if_neg q, hF]
      by_cases q2 : 1405 ≤ j ∧ j < 1405 + n
      · rw [if_pos q2, if_pos (by omega)]
      · rw [if_neg q2, if_neg (by omega)]
theorem take_getElem? {α : Type} {l : List α} {n i : Nat} {x : α} (h : (l.take n)[i]? = some x) : i < n ∧ l[i]? = some x := by
  rw [List.getElem?_take] at h
  by_cases q : i < n
  · rw [if_pos q] at h; exact ⟨q, h⟩
  · rw [if_neg q] at h; exact absurd h (by simp)
theorem Mok_undo {c : Cr} {m : Mo} (hw : Wf c) (h : Mok m) (hp : m.people ≤ c.now.people) : Mok (undoM c m) := by
  obtain ⟨h1, h2, h3, h4, h5, h6, h7, h8⟩ := h
  refine ⟨hw.p8, fun p => ?_, Nat.lt_of_lt_of_le h3 (Nat.pow_le_pow_right (by decide) hp), h4, h5, h6, h7, h8⟩
  show (if p < m.people then m.lean p else c.begun p) ≤ 9
  split
  · exact h2 p
  · exact hw.begun9 p
theorem Wf_undo {c : Cr} (h : Wf c) (hl : c.steps.length ≠ 0) : Wf (undoS c) := by
  have hmem : lastS c ∈ c.steps := getD_mem (by omega)
  have hs := h.step _ hmem
  exact Wf_ns h (Mok_undo h hs.1 hs.2) rfl (by have := h.steps; rw [List.length_take]; omega) (fun x hx => h.step x (List.mem_of_mem_take hx))
theorem sp_TM_undo {c : Cr} {M : Mem} (hM : HM c M) : E 0 0 0 Y_TM_undo 0 [some (.ref 0), none, none] [] GM M (QI GM fun r M' => r = ans_undo c ∧ HM (st_undo c) M' ∧ Sx S1 M M') := by
  have hR := hM.R
  have hA := hM.A
  have hwf := hM.w
  have hp8 := hwf.p8
  have h30 := hwf.steps
  have e3 := hA.steps
  by_cases h0 : c.steps.length = 0
  · first | refine E_aload_n d_TM_undo_0 rfl ?_ | refine E_aload_nN d_TM_undo_0 rfl ?_
    refine E_getR (q := 1) d_TM_undo_1 gf_TM_7 (by exact ⟨by decide, rfl⟩) (by exact hR _ rfl) ?_
    refine E_iconst (v := nI 3) d_TM_undo_4 rfl ?_
    refine E_iald d_TM_undo_5 (by exact ⟨by decide, rfl⟩) (by exact ⟨by with_reducible rfl, by omega, by decide⟩) (by exact e3) ?_
    first | (with_reducible refine E_isP ?_; refine E_if_ne 11 d_TM_undo_6 rfl (pb_1 fun h6 => ?_) (pb_0 fun h6 => ?_)) | (with_reducible refine E_isN1 ?_; refine E_if_ne 11 d_TM_undo_6 rfl (nz_ne fun h6 => ?_) (nz_eq (by omega) fun h6 => ?_)) | refine E_if_ne 11 d_TM_undo_6 rfl (fun h6 => ?_) (fun h6 => ?_)
    · exfalso; exact h6 h0
    refine E_iconst (v := (-1)) d_TM_undo_9 rfl ?_
    refine E_retI d_TM_undo_10 rfl ?_
    exact ⟨by rw [ans_undo, if_pos h0], by rw [st_undo, if_pos h0]; exact hM, Sx.rf⟩
  · obtain ⟨n, hn⟩ : ∃ n, c.steps.length = n + 1 := ⟨c.steps.length - 1, by omega⟩
    have hlast : lastS c = c.steps.getD n c.now := by rw [lastS, hn, Nat.add_sub_cancel]
    have hmem : lastS c ∈ c.steps := getD_mem (by omega)
    have hs := hwf.step _ hmem
    have hstep := hA.step (show n < c.steps.length by omega)
    rw [← hlast] at hstep
    have e3 : mI M 1 3 = nI (n + 1) := by rw [← hn]; exact e3
    have K3 : ∀ M1 M2 M3 M4, Sx S01 M M4 → (∀ j, mI M1 1 j = if j = 3 then nI n else mI M 1 j) → (∀ j, mI M2 1 j = if 5 ≤ j ∧ j < 5 + 13 then mI M1 1 (85 + 44 * n + 1 + (j - 5)) else mI M1 1 j) → (∀ j, mI M3 1 j = if 10 + (lastS c).people ≤ j ∧ j < 10 + c.now.people then mI M2 1 (26 + (j - 10)) else mI M2 1 j) → (∀ j, mI M4 1 j = if 1405 ≤ j ∧ j < 1405 + 30 then mI M3 1 (85 + 44 * n + 14 + (j - 1405)) else mI M3 1 j) →
        E 0 0 0 Y_TM_undo 144 [some (.ref 0), some (.int (nI (85 + 44 * n))), none] [] GM M4 (QI GM fun r M' => r = ans_undo c ∧ HM (st_undo c) M' ∧ Sx S1 M M') := by
      intro M1 M2 M3 M4 hX4 f1 f2 f3 f4
      have hR := hM.R.sx hX4
      have ne4 : ∀ j, (j < 5 ∨ 18 ≤ j) → j < 1405 → j ≠ 3 → mI M4 1 j = mI M 1 j := fun j a b d => by rw [f4, if_neg (by omega), f3, if_neg (by omega), f2, if_neg (by omega), f1, if_neg d]
      have lo : ∀ j, j < 5 → mI M4 1 (5 + j) = mI M 1 (85 + 44 * n + 1 + j) := fun j hj => by rw [f4, if_neg (by omega), f3, if_neg (by omega), f2, if_pos (by omega), f1, if_neg (by omega), show 5 + j - 5 = j by omega]
      have b3 : mI M4 1 3 = nI n := by rw [f4, if_neg (by omega), f3, if_neg (by omega), f2, if_neg (by omega), f1, if_pos rfl]
      obtain ⟨r0, r1, r2, r3, r4, r5, r6⟩ := hstep.2
      have hb30 := hs.1.2.2.2.2.2.2.1
      have hmp := hs.2
      have hA' : RepA (undoS c) (mI M4 1) := by
        refine RepA_ns (m := undoM c (lastS c)) (st := c.steps.take (c.steps.length - 1)) hA hwf rfl ⟨(lo 0 (by omega)).trans r0, (lo 1 (by omega)).trans r1, (lo 2 (by omega)).trans r2, (lo 3 (by omega)).trans r3, (lo 4 (by omega)).trans r4, fun p hp => ?_, fun i hi => ?_⟩ ?_ ?_ (fun i a b d => ne4 i d (by omega) b)
        · have hp2 : p < c.now.people := hp
          show mI M4 1 (5 + 5 + p) = nI (if p < (lastS c).people then (lastS c).lean p else c.begun p)
          by_cases q : p < (lastS c).people
          · rw [if_pos q, f4, if_neg (by omega), f3, if_neg (by omega), f2, if_pos (by omega), f1, if_neg (by omega), ← r5 p q, show 85 + 44 * n + 1 + (5 + 5 + p - 5) = 85 + 44 * n + 1 + 5 + p by omega]
          · rw [if_neg q, f4, if_neg (by omega), f3, if_pos (by omega), f2, if_neg (by omega), f1, if_neg (by omega), show 26 + (5 + 5 + p - 10) = 26 + p by omega]
            exact hA.begun hp2
        · have hi2 : i < (lastS c).book.length := hi
          rw [f4, if_pos (by omega), f3, if_neg (by omega), f2, if_neg (by omega), f1, if_neg (by omega), show 1405 + i - 1405 = i by omega]
          exact r6 i hi2
        · rw [b3, List.length_take, hn]
          exact congrArg nI (by omega)
        · intro i y hy
          rw [hn, Nat.add_sub_cancel] at hy
          obtain ⟨hi, hy2⟩ := take_getElem? hy
          have hyk := (hwf.step y (List.mem_of_getElem? hy2)).1
          obtain ⟨g1, g2⟩ := hA.stepsR i y hy2
          exact ⟨(ne4 _ (by omega) (by omega) (by omega)).trans g1, g2.cg hyk.1 hyk.2.2.2.2.2.2.1 (fun j a b => ne4 j (by omega) (by omega) (by omega)) (fun j a b => ne4 j (by omega) (by omega) (by omega))⟩
      have hT' : mI M4 3 = mI M 3 := (hX4.2 3 (by unfold S01; decide)).1
      first | refine E_aload_n d_TM_undo_144 rfl ?_ | refine E_aload_nN d_TM_undo_144 rfl ?_
      refine E_getR (q := 1) d_TM_undo_145 gf_TM_7 (by exact ⟨by decide, rfl⟩) (by exact hR _ rfl) ?_
      refine E_iconst (v := nI 3) d_TM_undo_148 rfl ?_
      refine E_iald d_TM_undo_149 (by exact ⟨by decide, rfl⟩) (by exact ⟨by with_reducible rfl, by omega, by decide⟩) (by exact b3) ?_
      refine E_retI d_TM_undo_150 rfl ?_
      refine ⟨by rw [ans_undo, if_neg h0, hn, Nat.add_sub_cancel], ?_, hX4.wk fun _ => S01.s⟩
      rw [st_undo, if_neg h0]
      exact ⟨hR, hA', by rw [hT']; exact hM.T, Wf_undo hwf h0⟩
    have K2 : ∀ M1 M2 M3, Sx S01 M M3 → (∀ j, mI M1 1 j = if j = 3 then nI n else mI M 1 j) → (∀ j, mI M2 1 j = if 5 ≤ j ∧ j < 5 + 13 then mI M1 1 (85 + 44 * n + 1 + (j - 5)) else mI M1 1 j) → (∀ j, mI M3 1 j = if 10 + (lastS c).people ≤ j ∧ j < 10 + c.now.people then mI M2 1 (26 + (j - 10)) else mI M2 1 j) →
        E 0 0 0 Y_TM_undo 107 [some (.ref 0), some (.int (nI (85 + 44 * n))), none] [] GM M3 (QI GM fun r M' => r = ans_undo c ∧ HM (st_undo c) M' ∧ Sx S1 M M') := by
      intro M1 M2 M3 hX3 f1 f2 f3
      refine E_iconst (v := nI 0) d_TM_undo_107 rfl ?_
      refine E_istore_2 d_TM_undo_108 rfl ?_
      exact lp_TM_undo3 (x := 85 + 44 * n) ⟨by omega, by omega⟩ (hM.R.sx hX3) rfl (fun M4 hX4 f4 => K3 M1 M2 M3 M4 (hX3.tr hX4) f1 f2 f3 f4) 30 0 (by decide) M3 Sx.rf (fun j => by rw [if_neg (by omega)])
    have K1 : ∀ M1 M2, Sx S01 M M2 → (∀ j, mI M1 1 j = if j = 3 then nI n else mI M 1 j) → (∀ j, mI M2 1 j = if 5 ≤ j ∧ j < 5 + 13 then mI M1 1 (85 + 44 * n + 1 + (j - 5)) else mI M1 1 j) →
        E 0 0 0 Y_TM_undo 66 [some (.ref 0), some (.int (nI (85 + 44 * n))), none] [] GM M2 (QI GM fun r M' => r = ans_undo c ∧ HM (st_undo c) M' ∧ Sx S1 M M') := by
      intro M1 M2 hX2 f1 f2
      have hR := hM.R.sx hX2
      have ex : mI M2 1 (85 + 44 * n) = nI (lastS c).people := by rw [f2, if_neg (by omega), f1, if_neg (by omega)]; exact hstep.1
      have e0 : mI M2 1 0 = nI c.now.people := by rw [f2, if_neg (by omega), f1, if_neg (by omega)]; exact hA.people
      first | refine E_aload_n d_TM_undo_66 rfl ?_ | refine E_aload_nN d_TM_undo_66 rfl ?_
      refine E_getR (q := 1) d_TM_undo_67 gf_TM_7 (by exact ⟨by decide, rfl⟩) (by exact hR _ rfl) ?_
      refine E_iload_n d_TM_undo_70 rfl ?_
      refine E_iald d_TM_undo_71 (by exact ⟨by decide, rfl⟩) (by exact ⟨by with_reducible rfl, by omega, by decide⟩) (by exact ex) ?_
      refine E_istore_2 d_TM_undo_72 rfl ?_
      exact lp_TM_undo2 (P := c.now.people) (mp := (lastS c).people) hp8 hs.2 hR rfl e0 (fun M3 hX3 f3 => K2 M1 M2 M3 (hX2.tr hX3) f1 f2 f3) (c.now.people - (lastS c).people) (lastS c).people (by have := hs.2; omega) (Nat.le_refl _) M2 Sx.rf (fun j => by rw [if_neg (by omega)])
    first | refine E_aload_n d_TM_undo_0 rfl ?_ | refine E_aload_nN d_TM_undo_0 rfl ?_
    refine E_getR (q := 1) d_TM_undo_1 gf_TM_7 (by exact ⟨by decide, rfl⟩) (by exact hR _ rfl) ?_
    refine E_iconst (v := nI 3) d_TM_undo_4 rfl ?_
    refine E_iald d_TM_undo_5 (by exact ⟨by decide, rfl⟩) (by exact ⟨by with_reducible rfl, by omega, by decide⟩) (by exact e3) ?_
    first | (with_reducible refine E_isP ?_; refine E_if_ne 11 d_TM_undo_6 rfl (pb_1 fun h6 => ?_) (pb_0 fun h6 => ?_)) | (with_reducible refine E_isN1 ?_; refine E_if_ne 11 d_TM_undo_6 rfl (nz_ne fun h6 => ?_) (nz_eq (by omega) fun h6 => ?_)) | refine E_if_ne 11 d_TM_undo_6 rfl (fun h6 => ?_) (fun h6 => ?_)
    rotate_left
    · exfalso; omega
    first | refine E_aload_n d_TM_undo_11 rfl ?_ | refine E_aload_nN d_TM_undo_11 rfl ?_
    refine E_getR (q := 1) d_TM_undo_12 gf_TM_7 (by exact ⟨by decide, rfl⟩) (by exact hR _ rfl) ?_
    refine E_iconst (v := nI 3) d_TM_undo_15 rfl ?_
    refine E_dup2 d_TM_undo_16 rfl rfl ?_
    refine E_iald d_TM_undo_17 (by exact ⟨by decide, rfl⟩) (by exact ⟨by with_reducible rfl, by omega, by decide⟩) (by exact e3) ?_
    refine E_iconst (v := nI 1) d_TM_undo_18 rfl ?_
    first | (with_reducible refine E_isN2 ?_; refine E_isubN d_TM_undo_19 (by omega) ?_) | refine E_isub d_TM_undo_19 ?_
    rw [Nat.add_sub_cancel]
    refine E_iast d_TM_undo_20 (by exact ⟨by decide, rfl⟩) (by exact ⟨by with_reducible rfl, by omega, by decide⟩) ?_
    refine E_bipush (v := nI 85) d_TM_undo_21 (by decide) ?_
    refine E_bipush (v := nI 44) d_TM_undo_23 (by decide) ?_
    first | refine E_aload_n d_TM_undo_25 rfl ?_ | refine E_aload_nN d_TM_undo_25 rfl ?_
    refine E_getR (q := 1) d_TM_undo_26 gf_TM_7 (by exact ⟨by decide, rfl⟩) (by exact hR _ rfl) ?_
    refine E_iconst (v := nI 3) d_TM_undo_29 rfl ?_
    refine E_iald d_TM_undo_30 (by exact ⟨by decide, rfl⟩) (by exact ⟨by with_reducible rfl, by omega, by decide⟩) (by exact (mI_w1 _).trans (if_pos rfl)) ?_
    first | (with_reducible refine E_isN2 ?_; refine E_imulN d_TM_undo_31 ?_) | refine E_imul d_TM_undo_31 ?_
    first | (with_reducible refine E_isN2 ?_; refine E_iaddN d_TM_undo_32 ?_) | refine E_iadd d_TM_undo_32 ?_
    refine E_istore_1 d_TM_undo_33 rfl ?_
    refine E_iconst (v := nI 0) d_TM_undo_34 rfl ?_
    refine E_istore_2 d_TM_undo_35 rfl ?_
    exact lp_TM_undo1 (x := 85 + 44 * n) ⟨by omega, by omega⟩ (hM.R.sx (Sx.rf.wI (P := S01) rfl)) rfl (fun M2 hX2 f2 => K1 _ M2 ((Sx.rf.wI (P := S01) rfl).tr hX2) (fun j => mI_w1 j) f2) 13 0 (by decide) _ Sx.rf (fun j => by rw [if_neg (by omega)])
