theorem sp_TM_clauseOf {c : Cr} {M : Mem} {t kind : Nat} (hM : HM c M) (ht : t < c.texts.length) (hk8 : kind < 100) : E 0 0 0 Y_TM_clauseOf 0 [some (.ref 0), some (.int (nI t)), some (.int (nI kind)), none] [] GM M (QI GM fun r M' => r = pM (clA (txAt c t) kind (txAt c t).clauses.length 0) ∧ M' = M) := by
  refine E_iconst (v := nI 0) d_TM_clauseOf_0 rfl ?_
  refine E_istore_3 d_TM_clauseOf_1 rfl ?_
  exact lp_TM_clauseOf hM ht hk8 (txAt c t).clauses.length 0 (Nat.zero_add _) rfl
theorem sp_TM_clauseOf0 {c : Cr} {M : Mem} {kind : Nat} (hM : HM c M) : E 0 0 0 Y_TM_clauseOf 0 [some (.ref 0), some (.int (-1)), some (.int (nI kind)), none] [] GM M (QI GM fun r M' => r = -1 ∧ M' = M) := by
  refine E_iconst (v := nI 0) d_TM_clauseOf_0 rfl ?_
  refine E_istore_3 d_TM_clauseOf_1 rfl ?_
  refine E_iload_n d_TM_clauseOf_2 rfl ?_
  first | (with_reducible refine E_isN1 ?_; refine E_if_lt 48 d_TM_clauseOf_3 rfl (nz_lt (by omega) fun h3 => ?_) (nz_nlt (by omega) fun h3 => ?_)) | refine E_if_lt 48 d_TM_clauseOf_3 rfl (fun h3 => ?_) (fun h3 => ?_)
  rotate_left
  · exfalso; exact h3 (by decide)
  refine E_iconst (v := (-1)) d_TM_clauseOf_48 rfl ?_
  refine E_retI d_TM_clauseOf_49 rfl ?_
  exact ⟨rfl, rfl⟩
def HNm (nm : Nat → Int) (M : Mem) : Prop := ∀ i, i < 8 → mI M 6 i = iI (nm i)
def SZ (a : Nat) : Prop := a = 7 ∨ a = 8
theorem SZ.y {a : Nat} (h : SZ a) : SY a := Or.inr h
theorem HNm.sx {nm : Nat → Int} {M M' : Mem} (h : HNm nm M) (g : Sx SZ M M') : HNm nm M' := fun i hi => by rw [(g.2 6 (by unfold SZ; decide)).1]; exact h i hi
theorem sp_TM_name {c : Cr} {M : Mem} {p f y : Nat} (hM : HM c M) (hp : p < c.now.people) (hf : f ≤ 8) (hy : y ≤ 1) : E 1 0 0 Y_TM_name 0 [some (.ref 0), some (.int (nI p)), some (.int (nI f)), some (.int (nI y))] [] GM M (QV GM fun M' => HNm (nmOf c c.now p f y) M' ∧ Sx SY M M') := by
  have hR := hM.R
  have hA := hM.A
  have hp8 := hM.w.p8
  have hl9 := hM.w.lean9 p
  have hh : c.hears p &&& c.now.answers < 512 := Nat.lt_of_le_of_lt Nat.and_le_left (by have := hM.w.hears8 p; omega)
  first | refine E_aload_n d_TM_name_0 rfl ?_ | refine E_aload_nN d_TM_name_0 rfl ?_
  refine E_getR (q := 6) d_TM_name_1 gf_TM_32 (by exact ⟨by decide, rfl⟩) (by exact hR _ rfl) ?_
  refine E_iconst (v := nI 0) d_TM_name_4 rfl ?_
  first | refine E_aload_n d_TM_name_5 rfl ?_ | refine E_aload_nN d_TM_name_5 rfl ?_
  refine E_getR (q := 1) d_TM_name_6 gf_TM_7 (by exact ⟨by decide, rfl⟩) (by exact hR _ rfl) ?_
  refine E_iconst (v := nI 5) d_TM_name_9 rfl ?_
  refine E_iald d_TM_name_10 (by exact ⟨by decide, rfl⟩) (by exact ⟨by with_reducible rfl, by omega, by decide⟩) (by first | exact hA.people | exact hA.figure | exact hA.answers | exact hA.round | exact hA.lean (by omega) | exact hA.sort (by omega) | exact hA.hears (by omega) | rfl) ?_
  refine E_iast d_TM_name_11 (by exact ⟨by decide, rfl⟩) (by exact ⟨by with_reducible rfl, by omega, by decide⟩) ?_
  first | refine E_aload_n d_TM_name_12 rfl ?_ | refine E_aload_nN d_TM_name_12 rfl ?_
  refine E_getR (q := 6) d_TM_name_13 gf_TM_32 (by exact ⟨by decide, rfl⟩) (by exact hR _ rfl) ?_
  refine E_iconst (v := nI 1) d_TM_name_16 rfl ?_
  refine E_iload_n d_TM_name_17 rfl ?_
  refine E_iast d_TM_name_18 (by exact ⟨by decide, rfl⟩) (by exact ⟨by with_reducible rfl, by omega, by decide⟩) ?_
  first | refine E_aload_n d_TM_name_19 rfl ?_ | refine E_aload_nN d_TM_name_19 rfl ?_
  refine E_getR (q := 6) d_TM_name_20 gf_TM_32 (by exact ⟨by decide, rfl⟩) (by exact hR _ rfl) ?_
  refine E_iconst (v := nI 2) d_TM_name_23 rfl ?_
  first | refine E_aload_n d_TM_name_24 rfl ?_ | refine E_aload_nN d_TM_name_24 rfl ?_
  refine E_getR (q := 1) d_TM_name_25 gf_TM_7 (by exact ⟨by decide, rfl⟩) (by exact hR _ rfl) ?_
  refine E_bipush (v := nI 10) d_TM_name_28 (by decide) ?_
  refine E_iload_n d_TM_name_30 rfl ?_
  first | (with_reducible refine E_isN2 ?_; refine E_iaddN d_TM_name_31 ?_) | refine E_iadd d_TM_name_31 ?_
  refine E_iald d_TM_name_32 (by exact ⟨by decide, rfl⟩) (by exact ⟨by with_reducible rfl, by omega, by decide⟩) (by first | exact hA.people | exact hA.figure | exact hA.answers | exact hA.round | exact hA.lean (by omega) | exact hA.sort (by omega) | exact hA.hears (by omega) | rfl) ?_
  refine E_iast d_TM_name_33 (by exact ⟨by decide, rfl⟩) (by exact ⟨by with_reducible rfl, by omega, by decide⟩) ?_
  first | refine E_aload_n d_TM_name_34 rfl ?_ | refine E_aload_nN d_TM_name_34 rfl ?_
  refine E_getR (q := 6) d_TM_name_35 gf_TM_32 (by exact ⟨by decide, rfl⟩) (by exact hR _ rfl) ?_
  refine E_iconst (v := nI 3) d_TM_name_38 rfl ?_
  first | refine E_aload_n d_TM_name_39 rfl ?_ | refine E_aload_nN d_TM_name_39 rfl ?_
  refine E_getR (q := 1) d_TM_name_40 gf_TM_7 (by exact ⟨by decide, rfl⟩) (by exact hR _ rfl) ?_
  refine E_bipush (v := nI 18) d_TM_name_43 (by decide) ?_
  refine E_iload_n d_TM_name_45 rfl ?_
  first | (with_reducible refine E_isN2 ?_; refine E_iaddN d_TM_name_46 ?_) | refine E_iadd d_TM_name_46 ?_
  refine E_iald d_TM_name_47 (by exact ⟨by decide, rfl⟩) (by exact ⟨by with_reducible rfl, by omega, by decide⟩) (by first | exact hA.people | exact hA.figure | exact hA.answers | exact hA.round | exact hA.lean (by omega) | exact hA.sort (by omega) | exact hA.hears (by omega) | rfl) ?_
  refine E_iast d_TM_name_48 (by exact ⟨by decide, rfl⟩) (by exact ⟨by with_reducible rfl, by omega, by decide⟩) ?_
  first | refine E_aload_n d_TM_name_49 rfl ?_ | refine E_aload_nN d_TM_name_49 rfl ?_
  refine E_getR (q := 6) d_TM_name_50 gf_TM_32 (by exact ⟨by decide, rfl⟩) (by exact hR _ rfl) ?_
  refine E_iconst (v := nI 4) d_TM_name_53 rfl ?_
  first | refine E_aload_n d_TM_name_54 rfl ?_ | refine E_aload_nN d_TM_name_54 rfl ?_
  refine E_getR (q := 1) d_TM_name_55 gf_TM_7 (by exact ⟨by decide, rfl⟩) (by exact hR _ rfl) ?_
  refine E_iconst (v := nI 0) d_TM_name_58 rfl ?_
  refine E_iald d_TM_name_59 (by exact ⟨by decide, rfl⟩) (by exact ⟨by with_reducible rfl, by omega, by decide⟩) (by first | exact hA.people | exact hA.figure | exact hA.answers | exact hA.round | exact hA.lean (by omega) | exact hA.sort (by omega) | exact hA.hears (by omega) | rfl) ?_
  refine E_iast d_TM_name_60 (by exact ⟨by decide, rfl⟩) (by exact ⟨by with_reducible rfl, by omega, by decide⟩) ?_
  first | refine E_aload_n d_TM_name_61 rfl ?_ | refine E_aload_nN d_TM_name_61 rfl ?_
  refine E_getR (q := 6) d_TM_name_62 gf_TM_32 (by exact ⟨by decide, rfl⟩) (by exact hR _ rfl) ?_
  refine E_iconst (v := nI 5) d_TM_name_65 rfl ?_
  first | refine E_aload_n d_TM_name_66 rfl ?_ | refine E_aload_nN d_TM_name_66 rfl ?_
  refine E_getR (q := 1) d_TM_name_67 gf_TM_7 (by exact ⟨by decide, rfl⟩) (by exact hR _ rfl) ?_
  refine E_bipush (v := nI 34) d_TM_name_70 (by decide) ?_
  refine E_iload_n d_TM_name_72 rfl ?_
  first | (with_reducible refine E_isN2 ?_; refine E_iaddN d_TM_name_73 ?_) | refine E_iadd d_TM_name_73 ?_
  refine E_iald d_TM_name_74 (by exact ⟨by decide, rfl⟩) (by exact ⟨by with_reducible rfl, by omega, by decide⟩) (by first | exact hA.people | exact hA.figure | exact hA.answers | exact hA.round | exact hA.lean (by omega) | exact hA.sort (by omega) | exact hA.hears (by omega) | rfl) ?_
  first | refine E_aload_n d_TM_name_75 rfl ?_ | refine E_aload_nN d_TM_name_75 rfl ?_
  refine E_getR (q := 1) d_TM_name_76 gf_TM_7 (by exact ⟨by decide, rfl⟩) (by exact hR _ rfl) ?_
  refine E_bipush (v := nI 9) d_TM_name_79 (by decide) ?_
  refine E_iald d_TM_name_81 (by exact ⟨by decide, rfl⟩) (by exact ⟨by with_reducible rfl, by omega, by decide⟩) (by first | exact hA.people | exact hA.figure | exact hA.answers | exact hA.round | exact hA.lean (by omega) | exact hA.sort (by omega) | exact hA.hears (by omega) | rfl) ?_
  first | (with_reducible refine E_isN2 ?_; refine E_iandN d_TM_name_82 ?_) | refine E_iand d_TM_name_82 ?_
  refine E_S1 (sp_TM_bits _ hh) d_TM_name_83 ml_TM_267 cb_TM_bits cs_TM_bits ⟨by decide, by decide⟩ rfl (Nat.le_of_ble_eq_true rfl) (Nat.le_of_ble_eq_true rfl) (kI fun r1 M1 hc => ?_)
  obtain ⟨rfl, rfl⟩ := hc
  refine E_iast d_TM_name_86 (by exact ⟨by decide, rfl⟩) (by exact ⟨by with_reducible rfl, by omega, by decide⟩) ?_
  first | refine E_aload_n d_TM_name_87 rfl ?_ | refine E_aload_nN d_TM_name_87 rfl ?_
  refine E_getR (q := 6) d_TM_name_88 gf_TM_32 (by exact ⟨by decide, rfl⟩) (by exact hR _ rfl) ?_
  refine E_bipush (v := nI 6) d_TM_name_91 (by decide) ?_
  refine E_iload_n d_TM_name_93 rfl ?_
  refine E_iast d_TM_name_94 (by exact ⟨by decide, rfl⟩) (by exact ⟨by with_reducible rfl, by omega, by decide⟩) ?_
  first | refine E_aload_n d_TM_name_95 rfl ?_ | refine E_aload_nN d_TM_name_95 rfl ?_
  refine E_getR (q := 6) d_TM_name_96 gf_TM_32 (by exact ⟨by decide, rfl⟩) (by exact hR _ rfl) ?_
  refine E_bipush (v := nI 7) d_TM_name_99 (by decide) ?_
  refine E_iload_n d_TM_name_101 rfl ?_
  refine E_iast d_TM_name_102 (by exact ⟨by decide, rfl⟩) (by exact ⟨by with_reducible rfl, by omega, by decide⟩) ?_
  refine E_retV d_TM_name_103 rfl ?_
  refine ⟨fun i hi => ?_, ?_⟩
  · have h8 : i = 0 ∨ i = 1 ∨ i = 2 ∨ i = 3 ∨ i = 4 ∨ i = 5 ∨ i = 6 ∨ i = 7 := by omega
    rcases h8 with rfl | rfl | rfl | rfl | rfl | rfl | rfl | rfl <;> exact nI_iI _
  · repeat (first | exact Sx.rf | refine Sx.wI ?_ (Or.inl rfl))
def VR : List Int → Mem → Prop
  | [], _ => True
  | v :: l, M => mL M 7 l.length = iL v ∧ zM v ∧ VR l M
def BR : List Bool → Mem → Prop
  | [], _ => True
  | b :: l, M => mI M 8 l.length = pI (b = true) ∧ BR l M
theorem VR.upL {l : List Int} {M : Mem} (h : VR l M) {j : Nat} {x : Int64} (hj : l.length ≤ j) : VR l (wL M 7 j x) := by
  induction l with
  | nil => exact trivial
  | cons v l ih =>
    have hj2 : l.length + 1 ≤ j := hj
    refine ⟨?_, h.2.1, ih h.2.2 (by omega)⟩
    rw [mL_wL, if_neg (fun q => by have := q.2; omega)]
    exact h.1
theorem VR.push {l : List Int} {M : Mem} (h : VR l M) {v : Int} (hv : zM v) : VR (v :: l) (wL M 7 l.length (iL v)) := ⟨by rw [mL_wL, if_pos ⟨rfl, rfl⟩], hv, h.upL (Nat.le_refl _)⟩
theorem VR.upI {l : List Int} {M : Mem} (h : VR l M) {j : Nat} {x : Int32} : VR l (wI M 8 j x) := by
  induction l with
  | nil => exact trivial
  | cons v l ih => exact ⟨h.1, h.2.1, ih h.2.2⟩
theorem BR.upI {l : List Bool} {M : Mem} (h : BR l M) {j : Nat} {x : Int32} (hj : l.length ≤ j) : BR l (wI M 8 j x) := by
  induction l with
  | nil => exact trivial
  | cons v l ih =>
    have hj2 : l.length + 1 ≤ j := hj
    refine ⟨?_, ih h.2 (by omega)⟩
    rw [mI_wI, if_neg (fun q => by have := q.2; omega)]
    exact h.1
theorem BR.push {l : List Bool} {M : Mem} (h : BR l M) {b : Bool} {x : Int32} (hx : x = pI (b = true)) : BR (b :: l) (wI M 8 l.length x) := ⟨by rw [mI_wI, if_pos ⟨rfl, rfl⟩, hx], h.upI (Nat.le_refl _)⟩
theorem BR.upL {l : List Bool} {M : Mem} (h : BR l M) {j : Nat} {x : Int64} : BR l (wL M 7 j x) := by
  induction l with
  | nil => exact trivial
  | cons v l ih => exact ⟨h.1, ih h.2⟩
theorem clip_zM (z : Int) : zM (clip z) := by
  unfold clip zM
  split
  · omega
  · split <;> omega
theorem twoBy_zM (o : Nat) (x y : Int) : zM (twoBy o x y) := by
  unfold twoBy
  split
  · exact clip_zM _
  · split
    · exact clip_zM _
    · split
      · exact clip_zM _
      · split
        · exact ⟨by decide, by decide⟩
        · exact clip_zM _
theorem oneBy_zM {c : Cr} (h : Wf c) {o : Nat} {v : Int} (hv : zM v) : zM (oneBy c.now o v) := by
  have h1 := hv.1
  have h2 := hv.2
  unfold oneBy zM
  split
  · omega
  · split
    · omega
    · split
      · have := h.lean9 v.toNat; omega
      · split <;> omega
