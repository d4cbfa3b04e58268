section CMr
variable {G G' : Geo} {M M' : Mem} {l : List Nat} {c : Cr}
theorem RepTxC.ext {x : Tx} {a : Nat} (h : RepTxC x a G M) (hx : Ext G G') (e : ∀ k, 234 ≤ k → k < G.1 → mI M' k = mI M k ∧ mR M' k = mR M k) : RepTxC x a G' M' := by
  obtain ⟨h1, h2, h3, h4, h5, h6, h7, k, h8, h9, h10, h11, h12⟩ := h
  have e0 := e a h1 h2.1
  have e1 := (e (a + 1) (by omega) h3.1).1
  have e2 := (e (a + 2) (by omega) h4.1).1
  have e3 := (e (a + 3) (by omega) h5.1).1
  have e4 := (e (a + 4) (by omega) h9.1).1
  have e5 := (e (a + 5) (by omega) h10.1).1
  refine ⟨h1, hx.sh h2, hx.sh h3, hx.sh h4, hx.sh h5, fun j hj => ?_, fun i hi => ?_, k, h8, hx.sh h9, hx.sh h10, ?_, ?_⟩
  · rw [e0.2]; exact h6 j hj
  · rw [e1, e2, e3]; exact h7 i hi
  · revert h11
    cases x.says with
    | none => intro h11; show mI M' a 5 = -1; rw [e0.1]; exact h11
    | some q => intro h11; show ∃ b, _; rw [e0.1, e4, e5]; exact h11
  · revert h12
    cases x.sways with
    | none => intro h12; show mI M' a 7 = -1; rw [e0.1]; exact h12
    | some q => intro h12; show ∃ b, _; rw [e0.1, e4, e5]; exact h12
theorem HC.ext {b : Nat} (h : HC c b G M) (hx : Ext G G') (e : ∀ k, (b ≤ k ∧ k < b + 104) ∨ (234 ≤ k ∧ k < G.1) → mI M' k = mI M k ∧ mR M' k = mR M k) : HC c b G' M' := by
  have ei : ∀ k, k < 104 → mI M' (b + k) = mI M (b + k) := fun k hk => (e (b + k) (by omega)).1
  have e0 : mI M' b = mI M b := ei 0 (by omega)
  obtain ⟨h1, h2, h3, h4, ⟨fs, h5, h6, h7⟩, h8, h9, h10, h11, h12, h13, h14, h15, h16, h17⟩ := h
  refine ⟨h1.cg (ei 1 (by omega)) (ei 2 (by omega)) (ei 3 (by omega)), ?_, ?_, ?_, ⟨fs, h5, ?_, fun i m hi => ?_⟩, ?_, ?_, fun t ht => ?_, ?_, ?_, ?_, ?_, ?_, ?_, h17⟩
  · rw [ei 4 (by omega)]; exact h2
  · rw [ei 5 (by omega)]; exact h3
  · rw [ei 6 (by omega)]; exact h4
  · rw [e0]; exact h6
  · have hlt : (fs + i) % 30 < 30 := Nat.mod_lt _ (by decide)
    refine (h7 i m hi).cg ?_ ?_ ?_
    · exact (e _ (by omega)).1
    · exact (e _ (by omega)).1
    · exact (e _ (by omega)).1
  · rw [e0]; exact h8
  · rw [e0]; exact h9
  · obtain ⟨a, q1, q2⟩ := h10 t ht
    exact ⟨a, by rw [(e (b + 8) (by omega)).2]; exact q1, q2.ext hx fun k k1 k2 => e k (Or.inr ⟨k1, k2⟩)⟩
  · rw [e0]; exact h11
  · rw [e0]; exact h12
  · rw [ei 9 (by omega), ei 10 (by omega)]; exact h13
  · rw [e0]; exact h14
  · rw [ei 11 (by omega), ei 12 (by omega)]; exact h15
  · rw [ei 13 (by omega)]; exact h16
theorem HC.grow {x : Tx} {a : Nat} (h : HC c 1 G M) (hw : Wf (addT c x)) (hx : Ext G G') (e : ∀ k, (2 ≤ k ∧ k < 105 ∧ k ≠ 9) ∨ (234 ≤ k ∧ k < G.1) → mI M' k = mI M k ∧ mR M' k = mR M k) (h1' : ∀ j, j ≠ 8 → mI M' 1 j = mI M 1 j) (h8' : mI M' 1 8 = nI (c.texts.length + 1))
    (h9' : ∀ j, mR M' 9 j = if j = c.texts.length then some a else mR M 9 j) (hT : RepTxC x a G' M') : HC (addT c x) 1 G' M' := by
  have ei : ∀ k, 1 ≤ k → k < 104 → k ≠ 8 → mI M' (1 + k) = mI M (1 + k) := fun k k1 hk k8 => (e (1 + k) (by omega)).1
  obtain ⟨h1, h2, h3, h4, ⟨fs, h5, h6, h7⟩, h8, h9, h10, h11, h12, h13, h14, h15, h16, h17⟩ := h
  have hl : (c.texts ++ [x]).length = c.texts.length + 1 := by rw [List.length_append]; rfl
  refine ⟨h1.cg (ei 1 (by omega) (by omega) (by omega)) (ei 2 (by omega) (by omega) (by omega)) (ei 3 (by omega) (by omega) (by omega)), ?_, ?_, ?_, ⟨fs, h5, ?_, fun i m hi => ?_⟩, ?_, ?_, fun t ht => ?_, ?_, ?_, ?_, ?_, ?_, ?_, hw⟩
  · rw [ei 4 (by omega) (by omega) (by omega)]; exact h2
  · rw [ei 5 (by omega) (by omega) (by omega)]; exact h3
  · rw [ei 6 (by omega) (by omega) (by omega)]; exact h4
  · rw [h1' 5 (by decide)]; exact h6
  · have hlt : (fs + i) % 30 < 30 := Nat.mod_lt _ (by decide)
    refine (h7 i m hi).cg ?_ ?_ ?_
    · exact (e _ (by omega)).1
    · exact (e _ (by omega)).1
    · exact (e _ (by omega)).1
  · rw [h1' 6 (by decide)]; exact h8
  · rw [h8']; exact congrArg nI hl.symm
  · have ht : t < (c.texts ++ [x]).length := ht
    show ∃ a, mR M' 9 t = some a ∧ RepTxC ((c.texts ++ [x]).getD t ([], none, none)) a G' M'
    rw [getD_snoc]
    by_cases z : t < c.texts.length
    · obtain ⟨a', q1, q2⟩ := h10 t z
      rw [if_pos z]
      exact ⟨a', by rw [h9', if_neg (by omega)]; exact q1, q2.ext hx fun k k1 k2 => e k (Or.inr ⟨k1, k2⟩)⟩
    · have et : t = c.texts.length := by omega
      rw [if_neg z, if_pos et]
      exact ⟨a, by rw [h9', if_pos et], hT⟩
  · rw [h1' 9 (by decide)]; exact h11
  · rw [h1' 12 (by decide)]; exact h12
  · rw [ei 9 (by omega) (by omega) (by omega), ei 10 (by omega) (by omega) (by omega)]; exact h13
  · rw [h1' 15 (by decide)]; exact h14
  · rw [ei 11 (by omega) (by omega) (by omega), ei 12 (by omega) (by omega) (by omega)]; exact h15
  · rw [ei 13 (by omega) (by omega) (by omega)]; exact h16
theorem lwA.law {q : Option (Cd × Cd)} {s s' b a : Nat} (h : lwA q s b M) (e : mI M' a s' = mI M 225 s) (e1 : mI M' a (s' + 1) = mI M 225 (s + 1)) (hc : ∀ i, i < b → mI M' (a + 4) i = mI M 229 i ∧ mI M' (a + 5) i = mI M 230 i) : LawC q a s' b M' := by
  cases q with
  | none => exact e.trans h
  | some q =>
    obtain ⟨b0, h1, h2, h4, h5, h6⟩ := h
    exact ⟨b0, e.trans h1, e1.trans h2, h4, h5, fun i hi => ⟨(hc _ (by omega)).1.trans (h6 i hi).1, (hc _ (by omega)).2.trans (h6 i hi).2⟩⟩
theorem md_tx {t : CT} {k b : Nat} {v : Option Value} (hG : 234 ≤ G.1) (h3 : l.length ≤ 300) (hC : CuSt l t k b M) (hM : Mde t.cl.length b (mI M 225 8) (mI M 225 9) (mI M 225 10) (mI M 225 11) G M v G' M') : RepTxC t G.1 G' M' := by
  obtain ⟨⟨sw, hs⟩, c1, c2, c3, c4, c5, c6⟩ := hC
  obtain ⟨-, ⟨s1, s2, s3, s4, s5⟩, m1, m2, m3, m4, m5⟩ := hM
  have hv := hs.v.le
  have z : ∀ t', 1 ≤ t' → t' ≤ 3 → Sh G' (G.1 + t') (1, t.cl.length) ∧ ∀ j, j < t.cl.length → mI M' (G.1 + t') j = mI M (225 + t') j := fun t' a b => by
    have := s5 t' a (by omega)
    rw [show szT t.cl.length _ t' = t.cl.length from if_pos b] at this
    exact this
  have y : ∀ t', 4 ≤ t' → t' ≤ 5 → Sh G' (G.1 + t') (1, b) ∧ ∀ j, j < b → mI M' (G.1 + t') j = mI M (225 + t') j := fun t' a a2 => by
    have := s5 t' (by omega) (by omega)
    rw [show szT t.cl.length b t' = b from if_neg (by omega)] at this
    exact this
  have hc : ∀ i, i < b → mI M' (G.1 + 4) i = mI M 229 i ∧ mI M' (G.1 + 5) i = mI M 230 i := fun i hi => ⟨(y 4 (by decide) (by decide)).2 i hi, (y 5 (by decide) (by decide)).2 i hi⟩
  refine ⟨hG, s4, (z 1 (by decide) (by decide)).1, (z 2 (by decide) (by decide)).1, (z 3 (by decide) (by decide)).1, m1, fun i hi => ?_, b, by omega, (y 4 (by decide) (by decide)).1, (y 5 (by decide) (by decide)).1, c5.law m2 m3 hc, c6.law m4 m5 hc⟩
  obtain ⟨g1, g2⟩ := c4 i hi
  refine ⟨((z 1 (by decide) (by decide)).2 i hi).trans g1, fun q => ⟨((z 2 (by decide) (by decide)).2 i hi).trans (g2 q).1, fun q2 => ((z 3 (by decide) (by decide)).2 i hi).trans ((g2 q).2 q2)⟩⟩
theorem sp_Cr_addText2 {a n : Nat} (hG : GC G) (hR : mR M 1 7 = some 9) (h8 : mI M 1 8 = nI n) (hn : n < 4) (ha : Sh G a (0, 7)) : E 0 0 0 Y_Cr_addText 0 [some (.ref 1), some (.ref a)] [] G M (QI G fun r M' => r = nI n ∧ M' = wI (wR M 9 n (some a)) 1 8 (nI (n + 1))) := by
  have e8 : mI (wR M 9 n (some a)) 1 8 = nI n := h8
  first | refine E_aload_n d_Cr_addText_0 rfl ?_ | refine E_aload_nN d_Cr_addText_0 rfl ?_
  refine E_getI d_Cr_addText_1 gf_Cr_75 (by exact hG.s (by decide) rfl) (by exact h8) ?_
  first | (with_reducible refine E_isN1 ?_; refine E_if_lt 19 d_Cr_addText_4 rfl (nz_lt (by omega) fun h4 => ?_) (nz_nlt (by omega) fun h4 => ?_)) | refine E_if_lt 19 d_Cr_addText_4 rfl (fun h4 => ?_) (fun h4 => ?_)
  · exfalso; omega
  first | refine E_aload_n d_Cr_addText_7 rfl ?_ | refine E_aload_nN d_Cr_addText_7 rfl ?_
  refine E_getI d_Cr_addText_8 gf_Cr_75 (by exact hG.s (by decide) rfl) (by exact h8) ?_
  first | refine E_aload_n d_Cr_addText_11 rfl ?_ | refine E_aload_nN d_Cr_addText_11 rfl ?_
  refine E_getR d_Cr_addText_12 gf_Cr_34 (by exact hG.s (by decide) rfl) (by exact hR) ?_
  refine E_alen d_Cr_addText_15 (by exact hG.s (by decide) rfl) (by decide) rfl ?_
  first | (with_reducible refine E_isN2 ?_; refine E_icmp_lt 21 d_Cr_addText_16 rfl (nb_lt (by omega) (by omega) fun h16 => ?_) (nb_nlt (by omega) (by omega) fun h16 => ?_)) | refine E_icmp_lt 21 d_Cr_addText_16 rfl (fun h16 => ?_) (fun h16 => ?_)
  rotate_left
  · exfalso; omega
  first | refine E_aload_n d_Cr_addText_21 rfl ?_ | refine E_aload_nN d_Cr_addText_21 rfl ?_
  refine E_getR d_Cr_addText_22 gf_Cr_34 (by exact hG.s (by decide) rfl) (by exact hR) ?_
  first | refine E_aload_n d_Cr_addText_25 rfl ?_ | refine E_aload_nN d_Cr_addText_25 rfl ?_
  refine E_getI d_Cr_addText_26 gf_Cr_75 (by exact hG.s (by decide) rfl) (by exact h8) ?_
  first | refine E_aload_n d_Cr_addText_29 rfl ?_ | refine E_aload_nN d_Cr_addText_29 rfl ?_
  refine E_aastT d_Cr_addText_30 (t := 5) (n := 4) (hG.s (k := 9) (by decide) rfl) (Or.inr ⟨rfl, rfl⟩) ⟨by with_reducible rfl, by omega, by decide⟩ ha ?_
  first | refine E_aload_n d_Cr_addText_31 rfl ?_ | refine E_aload_nN d_Cr_addText_31 rfl ?_
  refine E_dup d_Cr_addText_32 rfl ?_
  refine E_getI d_Cr_addText_33 gf_Cr_75 (by exact hG.s (by decide) rfl) (by exact e8) ?_
  refine E_iconst (v := nI 1) d_Cr_addText_36 rfl ?_
  first | (with_reducible refine E_isN2 ?_; refine E_iaddN d_Cr_addText_37 ?_) | refine E_iadd d_Cr_addText_37 ?_
  refine E_putI d_Cr_addText_38 gf_Cr_75 (by exact hG.s (by decide) rfl) rfl rfl ?_
  first | refine E_aload_n d_Cr_addText_41 rfl ?_ | refine E_aload_nN d_Cr_addText_41 rfl ?_
  refine E_getI d_Cr_addText_42 gf_Cr_75 (by exact hG.s (by decide) rfl) (by rw [mI_wa, if_pos rfl]) ?_
  refine E_iconst (v := nI 1) d_Cr_addText_45 rfl ?_
  first | (with_reducible refine E_isN2 ?_; refine E_isubN d_Cr_addText_46 (by omega) ?_) | refine E_isub d_Cr_addText_46 ?_
  refine E_retI d_Cr_addText_47 rfl ?_
  exact ⟨rfl, rfl⟩
end CMr
