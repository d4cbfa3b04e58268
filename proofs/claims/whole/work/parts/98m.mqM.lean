section MQm
variable {M M0 : Mem} {l : List Nat} {k t s w0 : Nat} {c : Cr}
def addT (c : Cr) (x : Tx) : Cr := (c.now, c.sort, c.begun, c.hears, c.steps, c.texts ++ [x], c.ruling, c.parties, c.saids, c.villages)
theorem Wf.addT (h : Wf c) (h4 : c.texts.length < 4) {x : Tx} (hx : WTx x) : Wf (addT c x) := by
  have hl : (c.texts ++ [x]).length = c.texts.length + 1 := by rw [List.length_append]; rfl
  refine ⟨h.mo, h.sort3, h.begun9, h.hears, fun p hp => h.hears0 hp, h.steps, h.step, by show (c.texts ++ [x]).length ≤ 4; omega, fun t ht => ?_, h.parties, h.party, h.saids, h.said, h.village, fun y hy => ?_⟩
  · have := h.ruling t ht
    show t < (c.texts ++ [x]).length
    omega
  · rcases List.mem_append.mp hy with q | q
    · exact h.text y q
    · rw [List.mem_singleton.mp q]; exact hx
theorem lwM.rep {q : Option (Cd × Cd)} {t x w : Nat} {g : Nat → Int32} (h : lwM q t x w g) (hw : w ≤ 304) : RepLaw q g t x := by
  obtain ⟨r, i0, a, b, c, d, e⟩ := h
  exact ⟨r, i0, a, b, c, by omega, e⟩
theorem clM.rep {tt : CT} {t w : Nat} {g : Nat → Int32} (h : clM tt t w g) (hw : w ≤ 304) (hn : g (681 * t) = nI tt.cl.length) : RepTx tt g t := ⟨hn, fun k hk => by
  obtain ⟨h1, h2, h3, h4⟩ := h k hk
  exact ⟨h1, fun z => (h2 z).rep hw, fun z => (h3 z).rep hw, h4⟩⟩
theorem RepTx.cg {x : Tx} {g g' : Nat → Int32} {t : Nat} (h : RepTx x g t) (h24 : x.clauses.length ≤ 24) (e : ∀ i, 681 * t ≤ i → i < 681 * t + 681 → g' i = g i) : RepTx x g' t := by
  obtain ⟨h1, h2⟩ := h
  have lc : ∀ q k, k < x.clauses.length → RepLaw q g t (681 * t + 1 + 3 * k) → RepLaw q g' t (681 * t + 1 + 3 * k) := fun q k hk hl => by
    obtain ⟨r, i0, a, b, c, d, f⟩ := hl
    refine ⟨r, i0, a, (e _ (by omega) (by omega)).trans b, (e _ (by omega) (by omega)).trans c, d, fun i hi => ?_⟩
    exact ⟨(e _ (by omega) (by omega)).trans (f i hi).1, (e _ (by omega) (by omega)).trans (f i hi).2⟩
  refine ⟨(e _ (by omega) (by omega)).trans h1, fun k hk => ?_⟩
  obtain ⟨a1, a2, a3, a4⟩ := h2 k hk
  exact ⟨(e _ (by omega) (by omega)).trans a1, fun z => lc _ k hk (a2 z), fun z => lc _ k hk (a3 z), fun z => ⟨(e _ (by omega) (by omega)).trans (a4 z).1, fun y => (e _ (by omega) (by omega)).trans ((a4 z).2 y)⟩⟩
theorem getD_text (h : Wf c) {t : Nat} (ht : t < c.texts.length) : WTx (c.texts.getD t ([], none, none)) := h.text _ (getD_mem ht)
def ans_text (c : Cr) (l : List Nat) : Int32 := if c.texts.length = 4 then -1 else if (prs l).f ≠ 0 then -1 else nI c.texts.length
def st_text (c : Cr) (l : List Nat) : Cr := if c.texts.length = 4 then c else if (prs l).f ≠ 0 then c else addT c (prs l).t
def fp_text (l : List Nat) : Int32 := if (prs l).f ≠ 0 then nI (PP l (prs l).k) else -1
def TXo (c : Cr) (l : List Nat) (M M' : Mem) : Prop :=
  (c.texts.length = 4 → M' = M) ∧ (c.texts.length ≠ 4 → HM (st_text c l) M' ∧ mI M' 0 5 = nI (prs l).f ∧ mI M' 0 6 = fp_text l ∧ TapeM [] M' ∧ NW M' ∧ mI M' 0 23 = mI M 0 23 ∧ mI M' 2 = mI M 2 ∧ mR M' = mR M ∧ ∀ i, i < 681 * c.texts.length → mI M' 3 i = mI M 3 i)
theorem tx_end (hM : HM c M) (h4 : c.texts.length < 4) (hT : TapeM l M) {M1 : Mem} {f : Nat} (hf : f = (prs l).f) (hX : Fx JT AP M M1) (h3 : ∀ i, i < 681 * c.texts.length ∨ 681 * c.texts.length + 681 ≤ i → mI M1 3 i = mI M 3 i) (hK : TKM l (prs l).k M1) {v : Int32} (hv : v = fp_text l)
    (hf0 : (prs l).f = 0 → RepTx (prs l).t (mI M1 3) c.texts.length) : ∀ M2, M2 = (if f ≠ 0 then wI (wI (wI M1 0 5 (nI f)) 0 6 v) 0 4 (nI 0) else wI (wI (wI (wI M1 0 5 (nI f)) 0 6 v) 0 4 (nI 0)) 1 1 (nI (c.texts.length + 1))) → TXo c l M M2 := by
  intro M2 e2
  refine ⟨fun z => by omega, fun _ => ?_⟩
  have hR1 := hM.R.fx hX
  have j5 : mI M1 0 5 = mI M 0 5 := hX.2.2.1 5 (by unfold JT JP; omega)
  have a1 : mI M1 1 = mI M 1 := hX.2.1 1 (by decide) (by unfold AP; omega)
  have a2 : mI M1 2 = mI M 2 := hX.2.1 2 (by decide) (by unfold AP; omega)
  have a4 : mI M1 4 = mI M 4 := hX.2.1 4 (by decide) (by unfold AP; omega)
  have j23 : mI M1 0 23 = mI M 0 23 := hX.2.2.1 23 (by unfold JT JP; omega)
  have ht : ∀ t, t < c.texts.length → RepTx (c.texts.getD t ([], none, none)) (mI M1 3) t := fun t ht => (hM.T t ht).cg (getD_text hM.w ht).1 (fun i i1 i2 => h3 i (by omega))
  have tp : TapeM [] M2 → True := fun _ => trivial
  obtain ⟨N, W, n1, n2, n3, n4⟩ := hK.nw
  by_cases q : f ≠ 0
  · rw [if_pos q] at e2
    have qf : (prs l).f ≠ 0 := by rw [← hf]; exact q
    have es : st_text c l = c := by unfold st_text; rw [if_neg (by omega), if_pos qf]
    have b : ∀ a, a ≠ 0 → mI M2 a = mI M1 a := fun a ha => by rw [e2, mI_ne ha, mI_ne ha, mI_ne ha]
    rw [es]
    refine ⟨⟨by rw [e2]; exact hR1, by rw [b 1 (by decide), a1]; exact hM.A, fun t y => by rw [b 3 (by decide)]; exact ht t y, hM.w⟩, ?_, ?_, ⟨by decide, ?_, fun i hi => absurd hi (Nat.not_lt_zero i), fun x hx => absurd hx List.not_mem_nil⟩, ⟨N, W, n1, n2, ?_, by rw [e2]; exact n4⟩, ?_, by rw [b 2 (by decide), a2], by rw [e2]; exact hX.1, fun i hi => by rw [b 3 (by decide)]; exact h3 i (Or.inl hi)⟩
    · rw [e2]; simp [mI_wI, hf]
    · rw [e2]; simp [mI_wI, hv]
    · rw [e2]; simp [mI_wI]
    · rw [e2]; simp [mI_wI, n3]
    · rw [e2]; simp [mI_wI, j23]
  · rw [if_neg q] at e2
    have q := Decidable.not_not.mp q
    have qf : (prs l).f = 0 := by rw [← hf]; exact q
    have es : st_text c l = addT c (prs l).t := by unfold st_text; rw [if_neg (by omega), if_neg (fun z => z qf)]
    have b : ∀ a, a ≠ 0 → a ≠ 1 → mI M2 a = mI M1 a := fun a ha h1 => by rw [e2, mI_ne h1, mI_ne ha, mI_ne ha, mI_ne ha]
    have b1 : ∀ j, mI M2 1 j = if j = 1 then nI (c.texts.length + 1) else mI M 1 j := fun j => by rw [e2, mI_wa, mI_ne (by decide), mI_ne (by decide), mI_ne (by decide), a1]
    have hl : (c.texts ++ [(prs l).t]).length = c.texts.length + 1 := by rw [List.length_append]; rfl
    have tok := TOK.prs qf
    rw [es]
    refine ⟨⟨by rw [e2]; exact hR1, ?_, fun t y => ?_, hM.w.addT h4 tok.1⟩, ?_, ?_, ⟨by decide, ?_, fun i hi => absurd hi (Nat.not_lt_zero i), fun x hx => absurd hx List.not_mem_nil⟩, ⟨N, W, n1, n2, ?_, by rw [e2]; exact n4⟩, ?_, by rw [b 2 (by decide) (by decide), a2], by rw [e2]; exact hX.1, fun i hi => by rw [b 3 (by decide) (by decide)]; exact h3 i (Or.inl hi)⟩
    · have hA := hM.A
      have hs := hM.w.steps
      have hsa := hM.w.saids
      have hpa := hM.w.parties
      exact RepA_hd hA hM.w rfl rfl rfl rfl (by rw [b1, if_pos rfl]; exact congrArg nI hl.symm) (by rw [b1, if_neg (by decide)]; exact hA.ruling) (by rw [b1, if_neg (by decide)]; exact hA.saids) (by rw [b1, if_neg (by decide)]; exact hA.parties)
        (fun p hp => by rw [b1, if_neg (by omega)]; exact hA.hears hp) (fun i hi => by rw [b1, if_neg (by omega), b1, if_neg (by omega)]; exact hA.said hi) (fun v hv => by rw [b1, if_neg (by omega)]; exact hA.village hv) (fun i hi => by rw [b1, if_neg (by omega), b1, if_neg (by omega)]; exact hA.party hi) (fun i h1 _ _ _ => by rw [b1, if_neg h1])
    · have y : t < (c.texts ++ [(prs l).t]).length := y
      show RepTx ((c.texts ++ [(prs l).t]).getD t ([], none, none)) _ t
      rw [b 3 (by decide) (by decide), getD_snoc]
      by_cases z : t < c.texts.length
      · rw [if_pos z]; exact ht t z
      · have et : t = c.texts.length := by omega
        rw [if_neg z, if_pos et, et]
        exact hf0 qf
    · rw [e2]; simp [mI_wI, hf]
    · rw [e2]; simp [mI_wI, hv]
    · rw [e2]; simp [mI_wI]
    · rw [e2]; simp [mI_wI, n3]
    · rw [e2]; simp [mI_wI, j23]
theorem e45 {x y z : Int32} : mI (wI (wI (wI M 0 5 x) 0 6 y) 0 4 z) 0 5 = x := by rw [mI_wa, if_neg (by decide), mI_wa, if_neg (by decide), mI_wa, if_pos rfl]
theorem sp_TM_text (hM : HM c M) (hT : TapeM l M) (hN : NW M) : E 12 0 0 Y_TM_text 0 [some (.ref 0)] [] GM M (QI GM fun r M' => r = ans_text c l ∧ TXo c l M M') := by
  have hR := hM.R
  have h1 := hM.A.texts
  have h5 := hM.w.texts
  by_cases c4 : c.texts.length = 4
  · have e : ans_text c l = -1 := if_pos c4
    have ok : TXo c l M M := ⟨fun _ => rfl, fun z => absurd c4 z⟩
    rw [e]
    first | refine E_aload_n d_TM_text_0 rfl ?_ | refine E_aload_nN d_TM_text_0 rfl ?_
    refine E_getR (q := 1) d_TM_text_1 gf_TM_7 (by exact ⟨by decide, rfl⟩) (by exact hR _ rfl) ?_
    refine E_iconst (v := nI 1) d_TM_text_4 rfl ?_
    refine E_iald d_TM_text_5 (by exact ⟨by decide, rfl⟩) (by exact ⟨by with_reducible rfl, by omega, by decide⟩) (by exact h1) ?_
    refine E_iconst (v := nI 4) d_TM_text_6 rfl ?_
    first | (with_reducible refine E_isN2 ?_; refine E_icmp_ne 12 d_TM_text_7 rfl (nb_ne fun h7 => ?_) (nb_eq (by omega) (by omega) fun h7 => ?_)) | refine E_icmp_ne 12 d_TM_text_7 rfl (fun h7 => ?_) (fun h7 => ?_)
    · exfalso; omega
    refine E_iconst (v := (-1)) d_TM_text_10 rfl ?_
    refine E_retI d_TM_text_11 rfl ?_
    exact ⟨rfl, ok⟩
  · have h4 : c.texts.length < 4 := by omega
    have rt := sp_TM_readText (t := c.texts.length) hR hT (by omega) h1 hN
    have f6 := prs_f6 (l := l)
    have hr1 : ∀ M1, Fx JT AP M M1 → MR M1 ∧ mI M1 1 1 = nI c.texts.length := fun M1 hx => ⟨hR.fx hx, by rw [hx.2.1 1 (by decide) (by unfold AP; omega)]; exact h1⟩
    by_cases q : (prs l).f ≠ 0
    · have e : ans_text c l = -1 := by unfold ans_text; rw [if_neg c4, if_pos q]
      have rt1 : E 11 0 0 Y_TM_readText 0 [some (.ref 0), none] [] GM M (QI GM fun r M' => r = nI (prs l).f ∧ FT l c.texts.length M (prs l).k M') := E_mono rt (fun _ _ _ y => by obtain ⟨a, r, b, z1, z2, z3⟩ := y; exact ⟨a, r, b, z1, z3 q⟩)
      have fin := fun M1 (h : FT l c.texts.length M (prs l).k M1) => tx_end (f := (prs l).f) (v := nI (PP l (prs l).k)) hM h4 hT rfl h.2.2 h.2.1 h.1 (by unfold fp_text; rw [if_pos q]) (fun z => absurd z q) _ (if_pos q).symm
      have f8 : ∀ M1 v, FT l c.texts.length M (prs l).k M1 → mI (wI M1 0 5 v) 0 8 = nI (PP l (prs l).k) := fun M1 v h => by rw [mI_wa, if_neg (by decide)]; exact h.1.1
      rw [e]
      generalize PP l (prs l).k = pl at *
      generalize (prs l).f = f at *
      first | refine E_aload_n d_TM_text_0 rfl ?_ | refine E_aload_nN d_TM_text_0 rfl ?_
      refine E_getR (q := 1) d_TM_text_1 gf_TM_7 (by exact ⟨by decide, rfl⟩) (by first | exact hR _ rfl | exact (hr1 _ hF.2.2).1 _ rfl) ?_
      refine E_iconst (v := nI 1) d_TM_text_4 rfl ?_
      refine E_iald d_TM_text_5 (by exact ⟨by decide, rfl⟩) (by exact ⟨by with_reducible rfl, by omega, by decide⟩) (by exact h1) ?_
      refine E_iconst (v := nI 4) d_TM_text_6 rfl ?_
      first | (with_reducible refine E_isN2 ?_; refine E_icmp_ne 12 d_TM_text_7 rfl (nb_ne fun h7 => ?_) (nb_eq (by omega) (by omega) fun h7 => ?_)) | refine E_icmp_ne 12 d_TM_text_7 rfl (fun h7 => ?_) (fun h7 => ?_)
      rotate_left
      · exfalso; omega
      first | refine E_aload_n d_TM_text_12 rfl ?_ | refine E_aload_nN d_TM_text_12 rfl ?_
      first | refine E_aload_n d_TM_text_13 rfl ?_ | refine E_aload_nN d_TM_text_13 rfl ?_
      refine E_V0 (rt1) d_TM_text_14 ml_TM_240 cb_TM_readText cv_TM_readText (by exact ⟨by decide, rfl⟩) ⟨by decide, rfl⟩ ⟨by decide, by decide⟩ rfl (Nat.le_of_ble_eq_true rfl) (Nat.le_of_ble_eq_true rfl) (kI fun r1 M1 hc => ?_)
      obtain ⟨rfl, hF⟩ := hc
      refine E_putI d_TM_text_17 gf_TM_22 (by exact ⟨by decide, rfl⟩) rfl rfl ?_
      first | refine E_aload_n d_TM_text_20 rfl ?_ | refine E_aload_nN d_TM_text_20 rfl ?_
      first | refine E_aload_n d_TM_text_21 rfl ?_ | refine E_aload_nN d_TM_text_21 rfl ?_
      refine E_getI d_TM_text_22 gf_TM_22 (by exact ⟨by decide, rfl⟩) (by rw [mI_wa, if_pos rfl]) ?_
      first | (with_reducible refine E_isP ?_; refine E_if_ne 32 d_TM_text_25 rfl (pb_1 fun h25 => ?_) (pb_0 fun h25 => ?_)) | (with_reducible refine E_isN1 ?_; refine E_if_ne 32 d_TM_text_25 rfl (nz_ne fun h25 => ?_) (nz_eq (by omega) fun h25 => ?_)) | refine E_if_ne 32 d_TM_text_25 rfl (fun h25 => ?_) (fun h25 => ?_)
      rotate_left
      · exfalso; omega
      first | refine E_aload_n d_TM_text_32 rfl ?_ | refine E_aload_nN d_TM_text_32 rfl ?_
      refine E_getI d_TM_text_33 gf_TM_91 (by exact ⟨by decide, rfl⟩) (by exact f8 _ _ hF) ?_
      refine E_putI d_TM_text_36 gf_TM_26 (by exact ⟨by decide, rfl⟩) rfl rfl ?_
      first | refine E_aload_n d_TM_text_39 rfl ?_ | refine E_aload_nN d_TM_text_39 rfl ?_
      refine E_iconst (v := nI 0) d_TM_text_40 rfl ?_
      refine E_putI d_TM_text_41 gf_TM_77 (by exact ⟨by decide, rfl⟩) rfl rfl ?_
      first | refine E_aload_n d_TM_text_44 rfl ?_ | refine E_aload_nN d_TM_text_44 rfl ?_
      refine E_getI d_TM_text_45 gf_TM_22 (by exact ⟨by decide, rfl⟩) (by exact e45) ?_
      first | (with_reducible refine E_isP ?_; refine E_if_eq 53 d_TM_text_48 rfl (pb_0 fun h48 => ?_) (pb_1 fun h48 => ?_)) | (with_reducible refine E_isN1 ?_; refine E_if_eq 53 d_TM_text_48 rfl (nz_eq (by omega) fun h48 => ?_) (nz_ne fun h48 => ?_)) | refine E_if_eq 53 d_TM_text_48 rfl (fun h48 => ?_) (fun h48 => ?_)
      · exfalso; omega
      refine E_iconst (v := (-1)) d_TM_text_51 rfl ?_
      refine E_retI d_TM_text_52 rfl ?_
      exact ⟨rfl, fin _ hF⟩
    · have q := Decidable.not_not.mp q
      have e : ans_text c l = nI c.texts.length := by unfold ans_text; rw [if_neg c4, if_neg (fun z => z q)]
      have rt1 : E 11 0 0 Y_TM_readText 0 [some (.ref 0), none] [] GM M (QI GM fun r M' => r = nI 0 ∧ ∃ w', TS l c.texts.length M (prs l).k (prs l).t w' M') := E_mono rt (fun _ _ _ y => by obtain ⟨a, r, b, z1, z2, z3⟩ := y; exact ⟨a, r, b, by rw [z1, q], z2 q⟩)
      have fin := fun M1 w (h : TS l c.texts.length M (prs l).k (prs l).t w M1) => tx_end (f := 0) (v := -1) hM h4 hT q.symm h.2.2.2.2.2.2.2.2.2.2.2.2.1 h.2.2.2.2.2.2.2.2.2.2.2.1 h.2.2.1 (by unfold fp_text; rw [if_neg (fun z => z q)]) (fun _ => h.2.2.2.2.2.2.2.2.2.2.1.rep (by have := h.2.2.2.2.2.2.1; have := h.2.2.2.1.le; have := hT.1; omega) h.2.2.2.2.2.2.2.2.1) _ (if_neg (fun z : (0 : Nat) ≠ 0 => z rfl)).symm
      have g1 : ∀ M1 w, TS l c.texts.length M (prs l).k (prs l).t w M1 → mI (wI (wI (wI M1 0 5 (nI 0)) 0 6 (-1)) 0 4 (nI 0)) 1 1 = nI c.texts.length := fun M1 w h => by rw [mI_ne (by decide), mI_ne (by decide), mI_ne (by decide)]; exact (hr1 _ h.2.2.2.2.2.2.2.2.2.2.2.2.1).2
      rw [e]
      first | refine E_aload_n d_TM_text_0 rfl ?_ | refine E_aload_nN d_TM_text_0 rfl ?_
      refine E_getR (q := 1) d_TM_text_1 gf_TM_7 (by exact ⟨by decide, rfl⟩) (by first | exact hR _ rfl | exact hF.1 _ rfl) ?_
      refine E_iconst (v := nI 1) d_TM_text_4 rfl ?_
      refine E_iald d_TM_text_5 (by exact ⟨by decide, rfl⟩) (by exact ⟨by with_reducible rfl, by omega, by decide⟩) (by exact h1) ?_
      refine E_iconst (v := nI 4) d_TM_text_6 rfl ?_
      first | (with_reducible refine E_isN2 ?_; refine E_icmp_ne 12 d_TM_text_7 rfl (nb_ne fun h7 => ?_) (nb_eq (by omega) (by omega) fun h7 => ?_)) | refine E_icmp_ne 12 d_TM_text_7 rfl (fun h7 => ?_) (fun h7 => ?_)
      rotate_left
      · exfalso; omega
      first | refine E_aload_n d_TM_text_12 rfl ?_ | refine E_aload_nN d_TM_text_12 rfl ?_
      first | refine E_aload_n d_TM_text_13 rfl ?_ | refine E_aload_nN d_TM_text_13 rfl ?_
      refine E_V0 (rt1) d_TM_text_14 ml_TM_240 cb_TM_readText cv_TM_readText (by exact ⟨by decide, rfl⟩) ⟨by decide, rfl⟩ ⟨by decide, by decide⟩ rfl (Nat.le_of_ble_eq_true rfl) (Nat.le_of_ble_eq_true rfl) (kI fun r1 M1 hc => ?_)
      obtain ⟨rfl, w, hF⟩ := hc
      refine E_putI d_TM_text_17 gf_TM_22 (by exact ⟨by decide, rfl⟩) rfl rfl ?_
      first | refine E_aload_n d_TM_text_20 rfl ?_ | refine E_aload_nN d_TM_text_20 rfl ?_
      first | refine E_aload_n d_TM_text_21 rfl ?_ | refine E_aload_nN d_TM_text_21 rfl ?_
      refine E_getI d_TM_text_22 gf_TM_22 (by exact ⟨by decide, rfl⟩) (by rw [mI_wa, if_pos rfl]) ?_
      first | (with_reducible refine E_isP ?_; refine E_if_ne 32 d_TM_text_25 rfl (pb_1 fun h25 => ?_) (pb_0 fun h25 => ?_)) | (with_reducible refine E_isN1 ?_; refine E_if_ne 32 d_TM_text_25 rfl (nz_ne fun h25 => ?_) (nz_eq (by omega) fun h25 => ?_)) | refine E_if_ne 32 d_TM_text_25 rfl (fun h25 => ?_) (fun h25 => ?_)
      · exfalso; omega
      refine E_iconst (v := (-1)) d_TM_text_28 rfl ?_
      refine E_goto 36 d_TM_text_29 rfl ?_
      refine E_putI d_TM_text_36 gf_TM_26 (by exact ⟨by decide, rfl⟩) rfl rfl ?_
      first | refine E_aload_n d_TM_text_39 rfl ?_ | refine E_aload_nN d_TM_text_39 rfl ?_
      refine E_iconst (v := nI 0) d_TM_text_40 rfl ?_
      refine E_putI d_TM_text_41 gf_TM_77 (by exact ⟨by decide, rfl⟩) rfl rfl ?_
      first | refine E_aload_n d_TM_text_44 rfl ?_ | refine E_aload_nN d_TM_text_44 rfl ?_
      refine E_getI d_TM_text_45 gf_TM_22 (by exact ⟨by decide, rfl⟩) (by exact e45) ?_
      first | (with_reducible refine E_isP ?_; refine E_if_eq 53 d_TM_text_48 rfl (pb_0 fun h48 => ?_) (pb_1 fun h48 => ?_)) | (with_reducible refine E_isN1 ?_; refine E_if_eq 53 d_TM_text_48 rfl (nz_eq (by omega) fun h48 => ?_) (nz_ne fun h48 => ?_)) | refine E_if_eq 53 d_TM_text_48 rfl (fun h48 => ?_) (fun h48 => ?_)
      rotate_left
      · exfalso; omega
      first | refine E_aload_n d_TM_text_53 rfl ?_ | refine E_aload_nN d_TM_text_53 rfl ?_
      refine E_getR (q := 1) d_TM_text_54 gf_TM_7 (by exact ⟨by decide, rfl⟩) (by first | exact hR _ rfl | exact hF.1 _ rfl) ?_
      refine E_iconst (v := nI 1) d_TM_text_57 rfl ?_
      refine E_dup2 d_TM_text_58 rfl rfl ?_
      refine E_iald d_TM_text_59 (by exact ⟨by decide, rfl⟩) (by exact ⟨by with_reducible rfl, by omega, by decide⟩) (by exact g1 _ _ hF) ?_
      refine E_iconst (v := nI 1) d_TM_text_60 rfl ?_
      first | (with_reducible refine E_isN2 ?_; refine E_iaddN d_TM_text_61 ?_) | refine E_iadd d_TM_text_61 ?_
      refine E_iast d_TM_text_62 (by exact ⟨by decide, rfl⟩) (by exact ⟨by with_reducible rfl, by omega, by decide⟩) ?_
      first | refine E_aload_n d_TM_text_63 rfl ?_ | refine E_aload_nN d_TM_text_63 rfl ?_
      refine E_getR (q := 1) d_TM_text_64 gf_TM_7 (by exact ⟨by decide, rfl⟩) (by first | exact hR _ rfl | exact hF.1 _ rfl) ?_
      refine E_iconst (v := nI 1) d_TM_text_67 rfl ?_
      refine E_iald d_TM_text_68 (by exact ⟨by decide, rfl⟩) (by exact ⟨by with_reducible rfl, by omega, by decide⟩) (by rw [mI_wa, if_pos rfl]) ?_
      refine E_iconst (v := nI 1) d_TM_text_69 rfl ?_
      first | (with_reducible refine E_isN2 ?_; refine E_isubN d_TM_text_70 (by omega) ?_) | refine E_isub d_TM_text_70 ?_
      refine E_retI d_TM_text_71 rfl ?_
      exact ⟨rfl, fin _ _ hF⟩
end MQm
