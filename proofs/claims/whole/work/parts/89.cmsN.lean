section CMn
variable {G : Geo} {M : Mem}
def TapeC (l : List Nat) (M : Mem) : Prop := l.length ≤ 300 ∧ mI M 220 1 = nI l.length ∧ (∀ i, i < l.length → mI M 221 i = nI (l.getD i 0)) ∧ ∀ b ∈ l, b < 256
def STp (a : Nat) : Prop := a = 220 ∨ a = 221
theorem TapeC_put {l : List Nat} {b : Nat} (h : TapeC l M) (hl : l.length < 300) (hb : b < 256) : TapeC (l ++ [b]) (wI (wI M 221 l.length (nI b)) 220 1 (nI (l.length + 1))) ∧ Sc STp M (wI (wI M 221 l.length (nI b)) 220 1 (nI (l.length + 1))) := by
  obtain ⟨h1, h2, h3, h4⟩ := h
  refine ⟨⟨by rw [List.length_append]; show l.length + 1 ≤ 300; omega, by rw [mI_wI, if_pos ⟨rfl, rfl⟩, List.length_append]; rfl, fun i hi => ?_, fun x hx => ?_⟩, (Sc.rf.wI (Or.inr rfl)).wI (Or.inl rfl)⟩
  · have hi2 : i < l.length + 1 := by simpa using hi
    rw [mI_wx (by decide), getD_snoc, mI_wI]
    by_cases q : i < l.length
    · rw [if_pos q, if_neg (by omega)]
      exact h3 i q
    · rw [if_neg q, if_pos (by omega), if_pos (by omega)]
  · rcases List.mem_append.mp hx with q | q
    · exact h4 x q
    · rw [List.mem_singleton.mp q]; exact hb
theorem lp_Ta_four {M0 : Mem} {l : List Nat} {v : Int32} {s : Nat} (hG : GC G) (hs : s < 32) (hl : l.length < 300) {Q : Option Value → Geo → Mem → Prop} (K : ∀ M, RC M → TapeC (l ++ [bt v s]) M → Sc STp M0 M → E 1 0 0 Y_Ta_addFour 3 [some (.ref 220), some (.int v), some (.int (nI s + Int32.ofInt (-8)))] [] G M Q) :
    ∀ M, RC M → TapeC l M → Sc STp M0 M → E 1 0 0 Y_Ta_addFour 3 [some (.ref 220), some (.int v), some (.int (nI s))] [] G M Q := by
  intro M hR hT hX
  have e4 := hT.2.1
  obtain ⟨t1, t2⟩ := TapeC_put hT hl (bt_lt v s)
  have e5 : mI (wI M 221 l.length (nI (bt v s))) 220 1 = nI l.length := (mI_wx (by decide)).trans e4
  have hR2 := hR.sc t2
  have hp := sp_TP_put (M := M) (v := nI (bt v s)) (hG.s (k := 221) (by decide) rfl) (by decide) (show l.length < 300 from hl)
  have k1 := K _ hR2 t1 (hX.tr t2)
  refine E_iload_n d_Ta_addFour_3 rfl ?_
  first | (with_reducible refine E_isN1 ?_; refine E_if_lt 41 d_Ta_addFour_4 rfl (nz_lt (by omega) fun h4 => ?_) (nz_nlt (by omega) fun h4 => ?_)) | refine E_if_lt 41 d_Ta_addFour_4 rfl (fun h4 => ?_) (fun h4 => ?_)
  · exfalso; exact absurd h4 (Nat.not_lt_zero s)
  first | refine E_aload_n d_Ta_addFour_7 rfl ?_ | refine E_aload_nN d_Ta_addFour_7 rfl ?_
  refine E_getR d_Ta_addFour_8 gf_Ta_9 (by first | exact hG.s (by decide) rfl) (by first | exact hR.o rfl) ?_
  first | refine E_aload_n d_Ta_addFour_11 rfl ?_ | refine E_aload_nN d_Ta_addFour_11 rfl ?_
  refine E_getI d_Ta_addFour_12 gf_Ta_24 (by first | exact hG.s (by decide) rfl) (by first | exact e5 | exact e4) ?_
  refine E_iload_n d_Ta_addFour_15 rfl ?_
  refine E_iload_n d_Ta_addFour_16 rfl ?_
  first | (with_reducible refine E_isN2 ?_; refine E_ishrN d_Ta_addFour_17 (by omega) (by omega) ?_) | refine E_ishr d_Ta_addFour_17 ?_
  refine E_sipush (v := nI 255) d_Ta_addFour_18 (by decide) ?_
  first | (with_reducible refine E_isN2 ?_; refine E_iandN d_Ta_addFour_21 ?_) | refine E_iand d_Ta_addFour_21 ?_
  rw [bt_eq]
  refine E_SN3 (hp) d_Ta_addFour_22 nl_Ta_28 cb_TP_put cs_TP_put ⟨by decide, by decide⟩ rfl (Nat.le_of_ble_eq_true rfl) (Nat.le_of_ble_eq_true rfl) (kV fun M1 hc => ?_)
  subst hc
  first | refine E_aload_n d_Ta_addFour_25 rfl ?_ | refine E_aload_nN d_Ta_addFour_25 rfl ?_
  refine E_dup d_Ta_addFour_26 rfl ?_
  refine E_getI d_Ta_addFour_27 gf_Ta_24 (by first | exact hG.s (by decide) rfl) (by first | exact e5 | exact e4) ?_
  refine E_iconst (v := nI 1) d_Ta_addFour_30 rfl ?_
  first | (with_reducible refine E_isN2 ?_; refine E_iaddN d_Ta_addFour_31 ?_) | refine E_iadd d_Ta_addFour_31 ?_
  refine E_putI d_Ta_addFour_32 gf_Ta_24 (by first | exact hG.s (by decide) rfl) rfl rfl ?_
  first | (with_reducible refine E_isL2 ?_; refine E_iincD2 (m := 8) d_Ta_addFour_35 (by decide) (by omega) rfl ?_) | refine E_iinc_2 d_Ta_addFour_35 rfl rfl ?_
  refine E_goto 3 d_Ta_addFour_38 rfl ?_
  first | exact k1 | (rw [← pk_sub (by omega), Int32.sub_eq_add_neg]; exact k1)
theorem sp_Ta_addFour {l : List Nat} (hG : GC G) (hR : RC M) (hT : TapeC l M) (hl : l.length + 4 ≤ 300) (v : Int32) : E 1 0 0 Y_Ta_addFour 0 [some (.ref 220), some (.int v), none] [] G M (QV G fun M' => RC M' ∧ TapeC (l ++ fourB v) M' ∧ Sc STp M M') := by
  have K4 : ∀ M', RC M' → TapeC (l ++ [bt v 24] ++ [bt v 16] ++ [bt v 8] ++ [bt v 0]) M' → Sc STp M M' → E 1 0 0 Y_Ta_addFour 3 [some (.ref 220), some (.int v), some (.int (nI 0 + Int32.ofInt (-8)))] [] G M' (QV G fun M' => RC M' ∧ TapeC (l ++ fourB v) M' ∧ Sc STp M M') := by
    intro M' hR hT hX
    have e : l ++ [bt v 24] ++ [bt v 16] ++ [bt v 8] ++ [bt v 0] = l ++ fourB v := by simp [fourB]
    rw [e] at hT
    rw [show nI 0 + Int32.ofInt (-8) = -8 from by decide]
    refine E_iload_n d_Ta_addFour_3 rfl ?_
    first | (with_reducible refine E_isN1 ?_; refine E_if_lt 41 d_Ta_addFour_4 rfl (nz_lt (by omega) fun h4 => ?_) (nz_nlt (by omega) fun h4 => ?_)) | refine E_if_lt 41 d_Ta_addFour_4 rfl (fun h4 => ?_) (fun h4 => ?_)
    rotate_left
    · exfalso; exact h4 (by decide)
    refine E_retV d_Ta_addFour_41 rfl ?_
    exact ⟨hR, hT, hX⟩
  have K3 : ∀ M', RC M' → TapeC (l ++ [bt v 24] ++ [bt v 16] ++ [bt v 8]) M' → Sc STp M M' → E 1 0 0 Y_Ta_addFour 3 [some (.ref 220), some (.int v), some (.int (nI 8 + Int32.ofInt (-8)))] [] G M' (QV G fun M' => RC M' ∧ TapeC (l ++ fourB v) M' ∧ Sc STp M M') := fun M' hR hT hX => by
    rw [show nI 8 + Int32.ofInt (-8) = nI 0 from by decide]
    exact lp_Ta_four hG (by decide) (by simp; omega) K4 M' hR hT hX
  have K2 : ∀ M', RC M' → TapeC (l ++ [bt v 24] ++ [bt v 16]) M' → Sc STp M M' → E 1 0 0 Y_Ta_addFour 3 [some (.ref 220), some (.int v), some (.int (nI 16 + Int32.ofInt (-8)))] [] G M' (QV G fun M' => RC M' ∧ TapeC (l ++ fourB v) M' ∧ Sc STp M M') := fun M' hR hT hX => by
    rw [show nI 16 + Int32.ofInt (-8) = nI 8 from by decide]
    exact lp_Ta_four hG (by decide) (by simp; omega) K3 M' hR hT hX
  have K1 : ∀ M', RC M' → TapeC (l ++ [bt v 24]) M' → Sc STp M M' → E 1 0 0 Y_Ta_addFour 3 [some (.ref 220), some (.int v), some (.int (nI 24 + Int32.ofInt (-8)))] [] G M' (QV G fun M' => RC M' ∧ TapeC (l ++ fourB v) M' ∧ Sc STp M M') := fun M' hR hT hX => by
    rw [show nI 24 + Int32.ofInt (-8) = nI 16 from by decide]
    exact lp_Ta_four hG (by decide) (by simp; omega) K2 M' hR hT hX
  refine E_bipush (v := nI 24) d_Ta_addFour_0 (by decide) ?_
  refine E_istore_2 d_Ta_addFour_2 rfl ?_
  exact lp_Ta_four hG (by decide) (by omega) K1 M hR hT Sc.rf
end CMn
