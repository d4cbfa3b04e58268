section MQb
variable {M M0 : Mem} {l : List Nat} {k t s w0 : Nat} {p : List Nat} {cm : Cd}
def JP (j : Nat) : Prop := (7 ≤ j ∧ j ≤ 10) ∨ j = 13 ∨ (16 ≤ j ∧ j ≤ 18)
def AP (a : Nat) : Prop := a = 3 ∨ a = 5
def EmS (l : List Nat) (t s w0 : Nat) (M0 : Mem) (cm : Cd) (M : Mem) : Prop :=
  MR M ∧ TapeM l M ∧ mI M 0 12 = nI (681 * t) ∧ mI M 0 13 = nI (w0 + cm.length) ∧ mI M 0 14 = nI s ∧ RepCode cm (mI M 3) (681 * t + 73 + 2 * w0) ∧ (∀ i, i < 681 * t + 73 + 2 * w0 ∨ 681 * t + 681 ≤ i → mI M 3 i = mI M0 3 i) ∧ Fx JP AP M0 M ∧ t ≤ 3 ∧ s ≤ 1
theorem Fo.fx {J A : Nat → Prop} {M1 : Mem} (h : Fo 0 J A M M1) : Fx J A M M1 := ⟨h.1, h.2.1, h.2.2.1, fun a _ => by rw [h.2.2.2]⟩
theorem EmS.R (h : EmS l t s w0 M0 cm M) : MR M := h.1
theorem EmS.T (h : EmS l t s w0 M0 cm M) : TapeM l M := h.2.1
theorem EmS.fx (h : EmS l t s w0 M0 cm M) : Fx JP AP M0 M := h.2.2.2.2.2.2.2.1
theorem EmS.cg {J A : Nat → Prop} {M1 : Mem} (h : EmS l t s w0 M0 cm M) (g : Fx J A M M1) (hJ : ∀ j, J j → JP j ∧ j ≠ 13) (hA : ∀ a, A a → a = 5) : EmS l t s w0 M0 cm M1 := by
  obtain ⟨h1, h2, h3, h4, h5, h6, h7, h8, h9⟩ := h
  have e3 : mI M1 3 = mI M 3 := g.2.1 3 (by decide) (fun q => by have := hA 3 q; omega)
  have ej : ∀ j, j = 12 ∨ j = 13 ∨ j = 14 → mI M1 0 j = mI M 0 j := fun j hj => g.2.2.1 j (fun q => by have := hJ j q; unfold JP at this; omega)
  exact ⟨h1.fx g, h2.fx g (fun q => by have := hJ 4 q; unfold JP at this; omega) (fun q => by have := hA 4 q; omega), (ej 12 (by omega)).trans h3, (ej 13 (by omega)).trans h4, (ej 14 (by omega)).trans h5, by rw [e3]; exact h6, fun i hi => by rw [e3]; exact h7 i hi, h8.tr (g.wk (fun j q => (hJ j q).1) (fun a q => Or.inr (hA a q))), h9⟩
theorem TKM.fo {J A : Nat → Prop} {M1 : Mem} (h : TKM l k M) (g : Fo 0 J A M M1) (hJ : ∀ j, J j → 11 ≤ j) : TKM l k M1 := by
  obtain ⟨h8, h7, t, n, w, h9, h10, h11, hT⟩ := h
  have ej : ∀ j, j < 11 → mI M1 0 j = mI M 0 j := fun j hj => g.2.2.1 j (fun q => by have := hJ j q; omega)
  exact ⟨(ej 8 (by decide)).trans h8, (ej 7 (by decide)).trans h7, t, n, w, (ej 9 (by decide)).trans h9, (ej 10 (by decide)).trans h10, by rw [g.2.2.2]; exact h11, hT⟩
abbrev J13 (j : Nat) : Prop := j = 13
abbrev A3' (a : Nat) : Prop := a = 3
theorem sp_TM_emit (h : EmS l t s w0 M0 cm M) (hw : w0 + cm.length < 304) (o v : Nat) : E 0 0 0 Y_TM_emit 0 [some (.ref 0), some (.int (nI o)), some (.int (nI v))] [] GM M (QV GM fun M' => EmS l t s w0 M0 (cm ++ [(o, v)]) M' ∧ Fo 0 J13 A3' M M') := by
  obtain ⟨hR, h2, h3, h4, h5, h6, h7, h8, ht, hs⟩ := h
  have ei : 681 * t + 73 + 2 * (w0 + cm.length) = 681 * t + 73 + 2 * w0 + 2 * cm.length := by omega
  have e4 : mI (wI M 3 (681 * t + 73 + 2 * (w0 + cm.length)) (nI o)) 0 = mI M 0 := mI_ne (by decide)
  have e5 : mI (wI (wI M 3 (681 * t + 73 + 2 * (w0 + cm.length)) (nI o)) 3 (681 * t + 73 + 2 * (w0 + cm.length) + 1) (nI v)) 0 = mI M 0 := (mI_ne (by decide)).trans e4
  have X : Fo 0 J13 A3' M (wI (wI (wI M 3 (681 * t + 73 + 2 * (w0 + cm.length)) (nI o)) 3 (681 * t + 73 + 2 * (w0 + cm.length) + 1) (nI v)) 0 13 (nI (w0 + cm.length + 1))) := ((Fo.rf.wJ (b := 3) (by decide) (show A3' 3 from rfl)).wJ (b := 3) (by decide) (show A3' 3 from rfl)).wI (show J13 13 from rfl)
  have e3 : ∀ i, mI (wI (wI (wI M 3 (681 * t + 73 + 2 * (w0 + cm.length)) (nI o)) 3 (681 * t + 73 + 2 * (w0 + cm.length) + 1) (nI v)) 0 13 (nI (w0 + cm.length + 1))) 3 i = if i = 681 * t + 73 + 2 * (w0 + cm.length) + 1 then nI v else if i = 681 * t + 73 + 2 * (w0 + cm.length) then nI o else mI M 3 i := fun i => by rw [mI_wx (by decide), mI_wa, mI_wa]
  have ej : ∀ j, j ≠ 13 → mI (wI (wI (wI M 3 (681 * t + 73 + 2 * (w0 + cm.length)) (nI o)) 3 (681 * t + 73 + 2 * (w0 + cm.length) + 1) (nI v)) 0 13 (nI (w0 + cm.length + 1))) 0 j = mI M 0 j := fun j hj => X.2.2.1 j hj
  have hl : (cm ++ [(o, v)]).length = cm.length + 1 := by rw [List.length_append]; rfl
  have ok : EmS l t s w0 M0 (cm ++ [(o, v)]) (wI (wI (wI M 3 (681 * t + 73 + 2 * (w0 + cm.length)) (nI o)) 3 (681 * t + 73 + 2 * (w0 + cm.length) + 1) (nI v)) 0 13 (nI (w0 + cm.length + 1))) := by
    refine ⟨hR.fx X.fx, h2.fx X.fx (by decide) (by decide), (ej 12 (by decide)).trans h3, by rw [mI_wa, if_pos rfl, hl]; rfl, (ej 14 (by decide)).trans h5, fun i hi => ?_, fun i hi => ?_, h8.tr (X.fx.wk (fun j q => Or.inr (Or.inl q)) (fun a q => Or.inl q)), ht, hs⟩
    · rw [hl] at hi
      rw [e3, e3, getD_snoc]
      by_cases q : i < cm.length
      · rw [if_pos q, if_neg (by omega), if_neg (by omega), if_neg (by omega), if_neg (by omega)]
        exact h6 i q
      · have e : i = cm.length := by omega
        rw [if_neg q, if_pos e, if_neg (by omega), if_pos (by omega), if_pos (by omega)]
        exact ⟨rfl, rfl⟩
    · rw [e3, if_neg (by omega), if_neg (by omega)]
      exact h7 i hi
  first | refine E_aload_n d_TM_emit_0 rfl ?_ | refine E_aload_nN d_TM_emit_0 rfl ?_
  refine E_getR (q := 3) d_TM_emit_1 gf_TM_16 (by exact ⟨by decide, rfl⟩) (by exact hR _ rfl) ?_
  first | refine E_aload_n d_TM_emit_4 rfl ?_ | refine E_aload_nN d_TM_emit_4 rfl ?_
  refine E_getI d_TM_emit_5 gf_TM_132 (by exact ⟨by decide, rfl⟩) (by exact h3) ?_
  refine E_bipush (v := nI 73) d_TM_emit_8 (by decide) ?_
  first | (with_reducible refine E_isN2 ?_; refine E_iaddN d_TM_emit_10 ?_) | refine E_iadd d_TM_emit_10 ?_
  refine E_iconst (v := nI 2) d_TM_emit_11 rfl ?_
  first | refine E_aload_n d_TM_emit_12 rfl ?_ | refine E_aload_nN d_TM_emit_12 rfl ?_
  refine E_getI d_TM_emit_13 gf_TM_135 (by exact ⟨by decide, rfl⟩) (by exact h4) ?_
  first | (with_reducible refine E_isN2 ?_; refine E_imulN d_TM_emit_16 ?_) | refine E_imul d_TM_emit_16 ?_
  first | (with_reducible refine E_isN2 ?_; refine E_iaddN d_TM_emit_17 ?_) | refine E_iadd d_TM_emit_17 ?_
  refine E_iload_n d_TM_emit_18 rfl ?_
  refine E_iast d_TM_emit_19 (by exact ⟨by decide, rfl⟩) (by exact ⟨by with_reducible rfl, by omega, by decide⟩) ?_
  first | refine E_aload_n d_TM_emit_20 rfl ?_ | refine E_aload_nN d_TM_emit_20 rfl ?_
  refine E_getR (q := 3) d_TM_emit_21 gf_TM_16 (by exact ⟨by decide, rfl⟩) (by exact hR _ rfl) ?_
  first | refine E_aload_n d_TM_emit_24 rfl ?_ | refine E_aload_nN d_TM_emit_24 rfl ?_
  refine E_getI d_TM_emit_25 gf_TM_132 (by exact ⟨by decide, rfl⟩) (by exact (congrFun e4 12).trans h3) ?_
  refine E_bipush (v := nI 73) d_TM_emit_28 (by decide) ?_
  first | (with_reducible refine E_isN2 ?_; refine E_iaddN d_TM_emit_30 ?_) | refine E_iadd d_TM_emit_30 ?_
  refine E_iconst (v := nI 2) d_TM_emit_31 rfl ?_
  first | refine E_aload_n d_TM_emit_32 rfl ?_ | refine E_aload_nN d_TM_emit_32 rfl ?_
  refine E_getI d_TM_emit_33 gf_TM_135 (by exact ⟨by decide, rfl⟩) (by exact (congrFun e4 13).trans h4) ?_
  first | (with_reducible refine E_isN2 ?_; refine E_imulN d_TM_emit_36 ?_) | refine E_imul d_TM_emit_36 ?_
  first | (with_reducible refine E_isN2 ?_; refine E_iaddN d_TM_emit_37 ?_) | refine E_iadd d_TM_emit_37 ?_
  refine E_iconst (v := nI 1) d_TM_emit_38 rfl ?_
  first | (with_reducible refine E_isN2 ?_; refine E_iaddN d_TM_emit_39 ?_) | refine E_iadd d_TM_emit_39 ?_
  refine E_iload_n d_TM_emit_40 rfl ?_
  refine E_iast d_TM_emit_41 (by exact ⟨by decide, rfl⟩) (by exact ⟨by with_reducible rfl, by omega, by decide⟩) ?_
  first | refine E_aload_n d_TM_emit_42 rfl ?_ | refine E_aload_nN d_TM_emit_42 rfl ?_
  refine E_dup d_TM_emit_43 rfl ?_
  refine E_getI d_TM_emit_44 gf_TM_135 (by exact ⟨by decide, rfl⟩) (by exact (congrFun e5 13).trans h4) ?_
  refine E_iconst (v := nI 1) d_TM_emit_47 rfl ?_
  first | (with_reducible refine E_isN2 ?_; refine E_iaddN d_TM_emit_48 ?_) | refine E_iadd d_TM_emit_48 ?_
  refine E_putI d_TM_emit_49 gf_TM_135 (by exact ⟨by decide, rfl⟩) rfl rfl ?_
  refine E_retV d_TM_emit_52 rfl ?_
  exact ⟨ok, X⟩
def PlA (M : Mem) : List Nat → Prop
  | [] => True
  | o :: p => mI M 5 p.length = nI o ∧ o < 100 ∧ PlA M p
theorem PlA.cg {M1 : Mem} (e : mI M1 5 = mI M 5) : ∀ p, PlA M p → PlA M1 p := by
  intro p
  induction p with
  | nil => exact fun h => h
  | cons o p ih => exact fun h => ⟨by rw [e]; exact h.1, h.2.1, ih h.2.2⟩
theorem PlA.ov {i : Nat} {v : Int32} : ∀ p : List Nat, p.length ≤ i → PlA M p → PlA (wI M 5 i v) p := by
  intro p
  induction p with
  | nil => exact fun _ h => h
  | cons o p ih =>
    intro hi h
    have hi : p.length + 1 ≤ i := hi
    exact ⟨by rw [mI_wa, if_neg (by omega)]; exact h.1, h.2.1, ih (by omega) h.2.2⟩
theorem PlA.psh {i o : Nat} (hi : i = p.length) (ho : o < 100) (h : PlA M p) : PlA (wI M 5 i (nI o)) (o :: p) := ⟨by rw [mI_wa, if_pos hi.symm], ho, h.ov p (Nat.le_of_eq hi.symm)⟩
def PS (M : Mem) (p : List Nat) : Prop := PlA M p ∧ mI M 0 16 = nI p.length ∧ mI M 0 17 = nI (mpN p)
theorem PS.fo {J A : Nat → Prop} {M1 : Mem} (h : PS M p) (g : Fx J A M M1) (h16 : ¬ J 16) (h17 : ¬ J 17) (h5 : ¬ A 5) : PS M1 p := ⟨PlA.cg (g.2.1 5 (by decide) h5) p h.1, (g.2.2.1 16 h16).trans h.2.1, (g.2.2.1 17 h17).trans h.2.2⟩
theorem wE_sub1 (n : Nat) : nI n - nI 1 = wE n := by
  cases n with
  | zero => decide
  | succ n => rw [pk_sub (show 1 ≤ n + 1 by omega)]; rfl
theorem wE_dec (n : Nat) : nI n + Int32.ofInt (-1) = wE n := by
  rw [← wE_sub1, Int32.sub_eq_add_neg]
  rfl
theorem mpR_10 (o : Nat) : mpR o < 10 := by
  unfold mpR
  repeat' split
  all_goals omega
theorem mpR_01 {o : Nat} (h : ¬ 40 ≤ o) : 1 ≤ mpR o := by
  unfold mpR
  rw [if_neg h]
  repeat' split
  all_goals omega
theorem lp_TM_openAt (hR : MR M) : ∀ q : List Nat, PlA M q → q.length ≤ 155 → E 0 0 0 Y_TM_openAt 7 [some (.ref 0), some (.int (wE q.length))] [] GM M (QI GM fun r M' => r = wE (mpL q).length ∧ M' = M) := by
  intro q
  induction q with
  | nil =>
    intro _ _
    refine E_iload_n d_TM_openAt_7 rfl ?_
    first | (with_reducible refine E_isN1 ?_; refine E_if_lt 28 d_TM_openAt_8 rfl (nz_lt (by omega) fun h8 => ?_) (nz_nlt (by omega) fun h8 => ?_)) | refine E_if_lt 28 d_TM_openAt_8 rfl (fun h8 => ?_) (fun h8 => ?_)
    rotate_left
    · exfalso; exact absurd (show (-1 : Int32) < 0 by decide) h8
    refine E_iload_n d_TM_openAt_28 rfl ?_
    refine E_retI d_TM_openAt_29 rfl ?_
    exact ⟨rfl, rfl⟩
  | cons o q ih =>
    intro hp hq
    have hq : q.length + 1 ≤ 155 := hq
    have h1 := hp.1
    have h100 := hp.2.1
    show E 0 0 0 Y_TM_openAt 7 [some (.ref 0), some (.int (nI q.length))] [] GM M _
    refine E_iload_n d_TM_openAt_7 rfl ?_
    first | (with_reducible refine E_isN1 ?_; refine E_if_lt 28 d_TM_openAt_8 rfl (nz_lt (by omega) fun h8 => ?_) (nz_nlt (by omega) fun h8 => ?_)) | refine E_if_lt 28 d_TM_openAt_8 rfl (fun h8 => ?_) (fun h8 => ?_)
    · exfalso; exact absurd h8 (Nat.not_lt_zero _)
    first | refine E_aload_n d_TM_openAt_11 rfl ?_ | refine E_aload_nN d_TM_openAt_11 rfl ?_
    refine E_getR (q := 5) d_TM_openAt_12 gf_TM_29 (by exact ⟨by decide, rfl⟩) (by exact hR _ rfl) ?_
    refine E_iload_n d_TM_openAt_15 rfl ?_
    refine E_iald d_TM_openAt_16 (by exact ⟨by decide, rfl⟩) (by exact ⟨by with_reducible rfl, by omega, by decide⟩) (by exact h1) ?_
    refine E_bipush (v := nI 40) d_TM_openAt_17 (by decide) ?_
    first | (with_reducible refine E_isN2 ?_; refine E_icmp_ge 28 d_TM_openAt_19 rfl (nb_le (by omega) (by omega) fun h19 => ?_) (nb_nle (by omega) (by omega) fun h19 => ?_)) | refine E_icmp_ge 28 d_TM_openAt_19 rfl (fun h19 => ?_) (fun h19 => ?_)
    · refine E_iload_n d_TM_openAt_28 rfl ?_
      refine E_retI d_TM_openAt_29 rfl ?_
      exact ⟨by rw [mpL, if_pos h19]; rfl, rfl⟩
    · first | (with_reducible refine E_isL1 ?_; refine E_iincD1 (m := 1) d_TM_openAt_22 (by decide) (by omega) rfl ?_) | refine E_iinc_1 d_TM_openAt_22 rfl rfl ?_
      refine E_goto 7 d_TM_openAt_25 rfl ?_
      rw [mpL, if_neg (by omega), wE_dec]; exact ih hp.2.2 (by omega)
theorem sp_TM_openAt (hR : MR M) (h : PS M p) (hq : p.length ≤ 155) : E 0 0 0 Y_TM_openAt 0 [some (.ref 0), none] [] GM M (QI GM fun r M' => r = wE (mpL p).length ∧ M' = M) := by
  have h16 := h.2.1
  first | refine E_aload_n d_TM_openAt_0 rfl ?_ | refine E_aload_nN d_TM_openAt_0 rfl ?_
  refine E_getI d_TM_openAt_1 gf_TM_145 (by exact ⟨by decide, rfl⟩) (by exact h16) ?_
  refine E_iconst (v := nI 1) d_TM_openAt_4 rfl ?_
  first | (with_reducible refine E_isN2 ?_; refine E_isubN d_TM_openAt_5 (by omega) ?_) | refine E_isub d_TM_openAt_5 ?_
  try rw [wE_sub1]
  refine E_istore_1 d_TM_openAt_6 rfl ?_
  exact lp_TM_openAt hR p h.1 hq
theorem mpL_at : ∀ p : List Nat, PlA M p → ∀ o q, mpL p = o :: q → mI M 5 q.length = nI o ∧ o < 100 ∧ 40 ≤ o ∧ q.length < p.length := by
  intro p
  induction p with
  | nil => intro _ o q h; cases h
  | cons x p ih =>
    intro hp o q h
    rw [mpL] at h
    by_cases c : 40 ≤ x
    · rw [if_pos c] at h
      injection h with e1 e2
      subst e1
      subst e2
      exact ⟨hp.1, hp.2.1, c, Nat.lt_succ_self _⟩
    · rw [if_neg c] at h
      obtain ⟨a, b, d, e⟩ := ih hp.2.2 o q h
      exact ⟨a, b, d, Nat.lt_succ_of_lt e⟩
def wO (n : Nat) : Int32 := if n = 0 then -1 else nI n
theorem sp_TM_openNow (hR : MR M) (h : PS M p) (hq : p.length ≤ 155) : E 1 0 0 Y_TM_openNow 0 [some (.ref 0)] [] GM M (QI GM fun r M' => r = wO (mpO p) ∧ M' = M) := by
  have sp := sp_TM_openAt hR h hq
  unfold mpO
  cases hL : mpL p with
  | nil =>
    rw [hL] at sp
    first | refine E_aload_n d_TM_openNow_0 rfl ?_ | refine E_aload_nN d_TM_openNow_0 rfl ?_
    refine E_V0 (sp) d_TM_openNow_1 ml_TM_158 cb_TM_openAt cv_TM_openAt (by exact ⟨by decide, rfl⟩) ⟨by decide, rfl⟩ ⟨by decide, by decide⟩ rfl (Nat.le_of_ble_eq_true rfl) (Nat.le_of_ble_eq_true rfl) (kI fun r1 M1 hc => ?_)
    obtain ⟨rfl, rfl⟩ := hc
    first | (with_reducible refine E_isN1 ?_; refine E_if_ge 11 d_TM_openNow_4 rfl (nz_ge (by omega) fun h4 => ?_) (nz_nge (by omega) fun h4 => ?_)) | refine E_if_ge 11 d_TM_openNow_4 rfl (fun h4 => ?_) (fun h4 => ?_)
    · exfalso; exact absurd h4 (by decide)
    refine E_iconst (v := (-1)) d_TM_openNow_7 rfl ?_
    refine E_goto 20 d_TM_openNow_8 rfl ?_
    refine E_retI d_TM_openNow_20 rfl ?_
    exact ⟨rfl, rfl⟩
  | cons o q =>
    rw [hL] at sp
    obtain ⟨a, b, d, e⟩ := mpL_at p h.1 o q hL
    have sp' : E 0 0 0 Y_TM_openAt 0 [some (.ref 0), none] [] GM M (QI GM fun r M' => r = nI q.length ∧ M' = M) := sp
    have fin : nI o = wO ((o :: q).headD 0) := (if_neg (by show ¬ o = 0; omega)).symm
    first | refine E_aload_n d_TM_openNow_0 rfl ?_ | refine E_aload_nN d_TM_openNow_0 rfl ?_
    refine E_V0 (sp') d_TM_openNow_1 ml_TM_158 cb_TM_openAt cv_TM_openAt (by exact ⟨by decide, rfl⟩) ⟨by decide, rfl⟩ ⟨by decide, by decide⟩ rfl (Nat.le_of_ble_eq_true rfl) (Nat.le_of_ble_eq_true rfl) (kI fun r1 M1 hc => ?_)
    obtain ⟨rfl, rfl⟩ := hc
    first | (with_reducible refine E_isN1 ?_; refine E_if_ge 11 d_TM_openNow_4 rfl (nz_ge (by omega) fun h4 => ?_) (nz_nge (by omega) fun h4 => ?_)) | refine E_if_ge 11 d_TM_openNow_4 rfl (fun h4 => ?_) (fun h4 => ?_)
    rotate_left
    · exfalso; omega
    first | refine E_aload_n d_TM_openNow_11 rfl ?_ | refine E_aload_nN d_TM_openNow_11 rfl ?_
    refine E_getR (q := 5) d_TM_openNow_12 gf_TM_29 (by exact ⟨by decide, rfl⟩) (by exact hR _ rfl) ?_
    first | refine E_aload_n d_TM_openNow_15 rfl ?_ | refine E_aload_nN d_TM_openNow_15 rfl ?_
    refine E_V0 (sp') d_TM_openNow_16 ml_TM_158 cb_TM_openAt cv_TM_openAt (by exact ⟨by decide, rfl⟩) ⟨by decide, rfl⟩ ⟨by decide, by decide⟩ rfl (Nat.le_of_ble_eq_true rfl) (Nat.le_of_ble_eq_true rfl) (kI fun r1 M1 hc => ?_)
    obtain ⟨rfl, rfl⟩ := hc
    refine E_iald d_TM_openNow_19 (by exact ⟨by decide, rfl⟩) (by exact ⟨by with_reducible rfl, by omega, by decide⟩) (by exact a) ?_
    refine E_retI d_TM_openNow_20 rfl ?_
    exact ⟨fin, rfl⟩
theorem lp_TM_isCompared (hR : MR M) : ∀ q : List Nat, PlA M q → q.length ≤ 155 → E 1 0 0 Y_TM_isCompared 7 [some (.ref 0), some (.int (wE q.length))] [] GM M (QI GM fun r M' => r = pI (mpC q = true) ∧ M' = M) := by
  intro q
  induction q with
  | nil =>
    intro _ _
    refine E_iload_n d_TM_isCompared_7 rfl ?_
    first | (with_reducible refine E_isN1 ?_; refine E_if_lt 30 d_TM_isCompared_8 rfl (nz_lt (by omega) fun h8 => ?_) (nz_nlt (by omega) fun h8 => ?_)) | refine E_if_lt 30 d_TM_isCompared_8 rfl (fun h8 => ?_) (fun h8 => ?_)
    rotate_left
    · exfalso; exact absurd (show (-1 : Int32) < 0 by decide) h8
    refine E_iload_n d_TM_isCompared_30 rfl ?_
    first | (with_reducible refine E_isN1 ?_; refine E_if_lt 51 d_TM_isCompared_31 rfl (nz_lt (by omega) fun h31 => ?_) (nz_nlt (by omega) fun h31 => ?_)) | refine E_if_lt 51 d_TM_isCompared_31 rfl (fun h31 => ?_) (fun h31 => ?_)
    rotate_left
    · exfalso; exact absurd (show (-1 : Int32) < 0 by decide) h31
    refine E_iconst (v := nI 0) d_TM_isCompared_51 rfl ?_
    refine E_retZ d_TM_isCompared_52 rfl (by first | exact pI_01 _ | decide) ?_
    exact ⟨rfl, rfl⟩
  | cons o q ih =>
    intro hp hq
    have hq : q.length + 1 ≤ 155 := hq
    have h1 := hp.1
    have h100 := hp.2.1
    have hr4 : mpR o < 10 := mpR_10 o
    show E 1 0 0 Y_TM_isCompared 7 [some (.ref 0), some (.int (nI q.length))] [] GM M _
    refine E_iload_n d_TM_isCompared_7 rfl ?_
    first | (with_reducible refine E_isN1 ?_; refine E_if_lt 30 d_TM_isCompared_8 rfl (nz_lt (by omega) fun h8 => ?_) (nz_nlt (by omega) fun h8 => ?_)) | refine E_if_lt 30 d_TM_isCompared_8 rfl (fun h8 => ?_) (fun h8 => ?_)
    · exfalso; exact absurd h8 (Nat.not_lt_zero _)
    first | refine E_aload_n d_TM_isCompared_11 rfl ?_ | refine E_aload_nN d_TM_isCompared_11 rfl ?_
    refine E_getR (q := 5) d_TM_isCompared_12 gf_TM_29 (by exact ⟨by decide, rfl⟩) (by exact hR _ rfl) ?_
    refine E_iload_n d_TM_isCompared_15 rfl ?_
    refine E_iald d_TM_isCompared_16 (by exact ⟨by decide, rfl⟩) (by exact ⟨by with_reducible rfl, by omega, by decide⟩) (by exact h1) ?_
    refine E_S1 (sp_TM_rank h100) d_TM_isCompared_17 ml_TM_148 cb_TM_rank cs_TM_rank ⟨by decide, by decide⟩ rfl (Nat.le_of_ble_eq_true rfl) (Nat.le_of_ble_eq_true rfl) (kI fun r1 M1 hc => ?_)
    obtain ⟨rfl, rfl⟩ := hc
    refine E_iconst (v := nI 4) d_TM_isCompared_20 rfl ?_
    first | (with_reducible refine E_isN2 ?_; refine E_icmp_le 30 d_TM_isCompared_21 rfl (nb_le (by omega) (by omega) fun h21 => ?_) (nb_nle (by omega) (by omega) fun h21 => ?_)) | refine E_icmp_le 30 d_TM_isCompared_21 rfl (fun h21 => ?_) (fun h21 => ?_)
    · refine E_iload_n d_TM_isCompared_30 rfl ?_
      first | (with_reducible refine E_isN1 ?_; refine E_if_lt 51 d_TM_isCompared_31 rfl (nz_lt (by omega) fun h31 => ?_) (nz_nlt (by omega) fun h31 => ?_)) | refine E_if_lt 51 d_TM_isCompared_31 rfl (fun h31 => ?_) (fun h31 => ?_)
      · exfalso; exact absurd h31 (Nat.not_lt_zero _)
      first | refine E_aload_n d_TM_isCompared_34 rfl ?_ | refine E_aload_nN d_TM_isCompared_34 rfl ?_
      refine E_getR (q := 5) d_TM_isCompared_35 gf_TM_29 (by exact ⟨by decide, rfl⟩) (by exact hR _ rfl) ?_
      refine E_iload_n d_TM_isCompared_38 rfl ?_
      refine E_iald d_TM_isCompared_39 (by exact ⟨by decide, rfl⟩) (by exact ⟨by with_reducible rfl, by omega, by decide⟩) (by exact h1) ?_
      refine E_S1 (sp_TM_rank h100) d_TM_isCompared_40 ml_TM_148 cb_TM_rank cs_TM_rank ⟨by decide, by decide⟩ rfl (Nat.le_of_ble_eq_true rfl) (Nat.le_of_ble_eq_true rfl) (kI fun r1 M1 hc => ?_)
      obtain ⟨rfl, rfl⟩ := hc
      refine E_iconst (v := nI 4) d_TM_isCompared_43 rfl ?_
      first | (with_reducible refine E_isN2 ?_; refine E_icmp_ne 51 d_TM_isCompared_44 rfl (nb_ne fun h44 => ?_) (nb_eq (by omega) (by omega) fun h44 => ?_)) | refine E_icmp_ne 51 d_TM_isCompared_44 rfl (fun h44 => ?_) (fun h44 => ?_)
      · refine E_iconst (v := nI 0) d_TM_isCompared_51 rfl ?_
        refine E_retZ d_TM_isCompared_52 rfl (by first | exact pI_01 _ | decide) ?_
        first | exact ⟨(pI_t (by rw [mpC, if_neg (by omega)]; exact decide_eq_true h44)).symm, rfl⟩ | exact ⟨(pI_f (by rw [mpC, if_neg (by omega)]; exact fun z => h44 (of_decide_eq_true z))).symm, rfl⟩
      · refine E_iconst (v := nI 1) d_TM_isCompared_47 rfl ?_
        refine E_goto 52 d_TM_isCompared_48 rfl ?_
        refine E_retZ d_TM_isCompared_52 rfl (by first | exact pI_01 _ | decide) ?_
        first | exact ⟨(pI_t (by rw [mpC, if_neg (by omega)]; exact decide_eq_true h44)).symm, rfl⟩ | exact ⟨(pI_f (by rw [mpC, if_neg (by omega)]; exact fun z => h44 (of_decide_eq_true z))).symm, rfl⟩
    · first | (with_reducible refine E_isL1 ?_; refine E_iincD1 (m := 1) d_TM_isCompared_24 (by decide) (by omega) rfl ?_) | refine E_iinc_1 d_TM_isCompared_24 rfl rfl ?_
      refine E_goto 7 d_TM_isCompared_27 rfl ?_
      rw [mpC, if_pos (by omega), wE_dec]; exact ih hp.2.2 (by omega)
theorem sp_TM_isCompared (hR : MR M) (h : PS M p) (hq : p.length ≤ 155) : E 1 0 0 Y_TM_isCompared 0 [some (.ref 0), none] [] GM M (QI GM fun r M' => r = pI (mpC p = true) ∧ M' = M) := by
  have h16 := h.2.1
  first | refine E_aload_n d_TM_isCompared_0 rfl ?_ | refine E_aload_nN d_TM_isCompared_0 rfl ?_
  refine E_getI d_TM_isCompared_1 gf_TM_145 (by exact ⟨by decide, rfl⟩) (by exact h16) ?_
  refine E_iconst (v := nI 1) d_TM_isCompared_4 rfl ?_
  first | (with_reducible refine E_isN2 ?_; refine E_isubN d_TM_isCompared_5 (by omega) ?_) | refine E_isub d_TM_isCompared_5 ?_
  try rw [wE_sub1]
  refine E_istore_1 d_TM_isCompared_6 rfl ?_
  exact lp_TM_isCompared hR p h.1 hq
theorem sp_TM_isAskAhead (hR : MR M) (h : PS M p) (hq : p.length ≤ 155) : E 2 0 0 Y_TM_isAskAhead 0 [some (.ref 0)] [] GM M (QI GM fun r M' => r = pI (mpO p = 41 ∧ mpH p ≤ 3) ∧ M' = M) := by
  have sn := sp_TM_openNow hR h hq
  by_cases q : mpO p = 41
  · rw [q] at sn
    have sn' : E 1 0 0 Y_TM_openNow 0 [some (.ref 0)] [] GM M (QI GM fun r M' => r = nI 41 ∧ M' = M) := sn
    cases p with
    | nil => exact absurd q (by decide)
    | cons o p =>
      obtain ⟨⟨p1, p2, p3⟩, p4, p5⟩ := h
      have p4 : mI M 0 16 = nI (p.length + 1) := p4
      have hq : p.length + 1 ≤ 155 := hq
      have hr4 : mpR o < 10 := mpR_10 o
      have hr0 : 40 ≤ o → mpR o = 0 := fun z => if_pos z
      have hr1 : ¬ 40 ≤ o → 1 ≤ mpR o := mpR_01
      have g1 : mpH (o :: p) = mpR o := rfl
      first | refine E_aload_n d_TM_isAskAhead_0 rfl ?_ | refine E_aload_nN d_TM_isAskAhead_0 rfl ?_
      refine E_V0 (sn') d_TM_isAskAhead_1 ml_TM_162 cb_TM_openNow cv_TM_openNow (by exact ⟨by decide, rfl⟩) ⟨by decide, rfl⟩ ⟨by decide, by decide⟩ rfl (Nat.le_of_ble_eq_true rfl) (Nat.le_of_ble_eq_true rfl) (kI fun r1 M1 hc => ?_)
      obtain ⟨rfl, rfl⟩ := hc
      refine E_bipush (v := nI 41) d_TM_isAskAhead_4 (by decide) ?_
      first | (with_reducible refine E_isN2 ?_; refine E_icmp_ne 51 d_TM_isAskAhead_6 rfl (nb_ne fun h6 => ?_) (nb_eq (by omega) (by omega) fun h6 => ?_)) | refine E_icmp_ne 51 d_TM_isAskAhead_6 rfl (fun h6 => ?_) (fun h6 => ?_)
      · exfalso; exact h6 rfl
      first | refine E_aload_n d_TM_isAskAhead_9 rfl ?_ | refine E_aload_nN d_TM_isAskAhead_9 rfl ?_
      refine E_getR (q := 5) d_TM_isAskAhead_10 gf_TM_29 (by exact ⟨by decide, rfl⟩) (by exact hR _ rfl) ?_
      first | refine E_aload_n d_TM_isAskAhead_13 rfl ?_ | refine E_aload_nN d_TM_isAskAhead_13 rfl ?_
      refine E_getI d_TM_isAskAhead_14 gf_TM_145 (by exact ⟨by decide, rfl⟩) (by exact p4) ?_
      refine E_iconst (v := nI 1) d_TM_isAskAhead_17 rfl ?_
      first | (with_reducible refine E_isN2 ?_; refine E_isubN d_TM_isAskAhead_18 (by omega) ?_) | refine E_isub d_TM_isAskAhead_18 ?_
      refine E_iald d_TM_isAskAhead_19 (by exact ⟨by decide, rfl⟩) (by exact ⟨by with_reducible rfl, by omega, by decide⟩) (by exact p1) ?_
      refine E_bipush (v := nI 40) d_TM_isAskAhead_20 (by decide) ?_
      first | (with_reducible refine E_isN2 ?_; refine E_icmp_ge 47 d_TM_isAskAhead_22 rfl (nb_le (by omega) (by omega) fun h22 => ?_) (nb_nle (by omega) (by omega) fun h22 => ?_)) | refine E_icmp_ge 47 d_TM_isAskAhead_22 rfl (fun h22 => ?_) (fun h22 => ?_)
      · refine E_iconst (v := nI 1) d_TM_isAskAhead_47 rfl ?_
        refine E_goto 52 d_TM_isAskAhead_48 rfl ?_
        refine E_retZ d_TM_isAskAhead_52 rfl (by first | exact pI_01 _ | decide) ?_
        first | exact ⟨(pI_t ⟨q, by rw [g1, hr0 h22]; decide⟩).symm, rfl⟩ | exact ⟨(pI_t ⟨q, (nI_leI (by omega) (by decide)).mp h44.2⟩).symm, rfl⟩ | exact ⟨(pI_f (fun z => h44 ⟨(nI_leI (by decide) (by omega)).mpr (hr1 (by omega)), (nI_leI (by omega) (by decide)).mpr z.2⟩)).symm, rfl⟩
      · first | refine E_aload_n d_TM_isAskAhead_25 rfl ?_ | refine E_aload_nN d_TM_isAskAhead_25 rfl ?_
        refine E_getR (q := 5) d_TM_isAskAhead_26 gf_TM_29 (by exact ⟨by decide, rfl⟩) (by exact hR _ rfl) ?_
        first | refine E_aload_n d_TM_isAskAhead_29 rfl ?_ | refine E_aload_nN d_TM_isAskAhead_29 rfl ?_
        refine E_getI d_TM_isAskAhead_30 gf_TM_145 (by exact ⟨by decide, rfl⟩) (by exact p4) ?_
        refine E_iconst (v := nI 1) d_TM_isAskAhead_33 rfl ?_
        first | (with_reducible refine E_isN2 ?_; refine E_isubN d_TM_isAskAhead_34 (by omega) ?_) | refine E_isub d_TM_isAskAhead_34 ?_
        refine E_iald d_TM_isAskAhead_35 (by exact ⟨by decide, rfl⟩) (by exact ⟨by with_reducible rfl, by omega, by decide⟩) (by exact p1) ?_
        refine E_S1 (sp_TM_rank p2) d_TM_isAskAhead_36 ml_TM_148 cb_TM_rank cs_TM_rank ⟨by decide, by decide⟩ rfl (Nat.le_of_ble_eq_true rfl) (Nat.le_of_ble_eq_true rfl) (kI fun r1 M1 hc => ?_)
        obtain ⟨rfl, rfl⟩ := hc
        refine E_iconst (v := nI 1) d_TM_isAskAhead_39 rfl ?_
        refine E_iconst (v := nI 3) d_TM_isAskAhead_40 rfl ?_
        refine E_S3 (sp_TM_isIn _ _ _) d_TM_isAskAhead_41 ml_TM_69 cb_TM_isIn cs_TM_isIn ⟨by decide, by decide⟩ rfl (Nat.le_of_ble_eq_true rfl) (Nat.le_of_ble_eq_true rfl) (kI fun r1 M1 hc => ?_)
        obtain ⟨rfl, rfl⟩ := hc
        first | (with_reducible refine E_isP ?_; refine E_if_eq 51 d_TM_isAskAhead_44 rfl (pb_0 fun h44 => ?_) (pb_1 fun h44 => ?_)) | (with_reducible refine E_isN1 ?_; refine E_if_eq 51 d_TM_isAskAhead_44 rfl (nz_eq (by omega) fun h44 => ?_) (nz_ne fun h44 => ?_)) | refine E_if_eq 51 d_TM_isAskAhead_44 rfl (fun h44 => ?_) (fun h44 => ?_)
        · refine E_iconst (v := nI 0) d_TM_isAskAhead_51 rfl ?_
          refine E_retZ d_TM_isAskAhead_52 rfl (by first | exact pI_01 _ | decide) ?_
          first | exact ⟨(pI_t ⟨q, by rw [g1, hr0 h22]; decide⟩).symm, rfl⟩ | exact ⟨(pI_t ⟨q, (nI_leI (by omega) (by decide)).mp h44.2⟩).symm, rfl⟩ | exact ⟨(pI_f (fun z => h44 ⟨(nI_leI (by decide) (by omega)).mpr (hr1 (by omega)), (nI_leI (by omega) (by decide)).mpr z.2⟩)).symm, rfl⟩
        · refine E_iconst (v := nI 1) d_TM_isAskAhead_47 rfl ?_
          refine E_goto 52 d_TM_isAskAhead_48 rfl ?_
          refine E_retZ d_TM_isAskAhead_52 rfl (by first | exact pI_01 _ | decide) ?_
          first | exact ⟨(pI_t ⟨q, by rw [g1, hr0 h22]; decide⟩).symm, rfl⟩ | exact ⟨(pI_t ⟨q, (nI_leI (by omega) (by decide)).mp h44.2⟩).symm, rfl⟩ | exact ⟨(pI_f (fun z => h44 ⟨(nI_leI (by decide) (by omega)).mpr (hr1 (by omega)), (nI_leI (by omega) (by decide)).mpr z.2⟩)).symm, rfl⟩
  · have ho : ¬ wO (mpO p) = nI 41 := fun z => q (by
      unfold wO at z
      by_cases c : mpO p = 0
      · rw [if_pos c] at z; exact absurd z (by decide)
      · rw [if_neg c] at z
        unfold mpO at z c ⊢
        cases hL : mpL p with
        | nil => rw [hL] at c; exact absurd rfl c
        | cons o q2 =>
          rw [hL] at z
          obtain ⟨a, b, d, e⟩ := mpL_at p h.1 o q2 hL
          exact nI_inj (by show o < _; omega) (by decide) z)
    first | refine E_aload_n d_TM_isAskAhead_0 rfl ?_ | refine E_aload_nN d_TM_isAskAhead_0 rfl ?_
    refine E_V0 (sn) d_TM_isAskAhead_1 ml_TM_162 cb_TM_openNow cv_TM_openNow (by exact ⟨by decide, rfl⟩) ⟨by decide, rfl⟩ ⟨by decide, by decide⟩ rfl (Nat.le_of_ble_eq_true rfl) (Nat.le_of_ble_eq_true rfl) (kI fun r1 M1 hc => ?_)
    obtain ⟨rfl, rfl⟩ := hc
    refine E_bipush (v := nI 41) d_TM_isAskAhead_4 (by decide) ?_
    first | (with_reducible refine E_isN2 ?_; refine E_icmp_ne 51 d_TM_isAskAhead_6 rfl (nb_ne fun h6 => ?_) (nb_eq (by omega) (by omega) fun h6 => ?_)) | refine E_icmp_ne 51 d_TM_isAskAhead_6 rfl (fun h6 => ?_) (fun h6 => ?_)
    rotate_left
    · exfalso; exact ho h6
    refine E_iconst (v := nI 0) d_TM_isAskAhead_51 rfl ?_
    refine E_retZ d_TM_isAskAhead_52 rfl (by first | exact pI_01 _ | decide) ?_
    exact ⟨(pI_f (fun z => q z.1)).symm, rfl⟩
end MQb
