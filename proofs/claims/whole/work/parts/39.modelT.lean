theorem RepRow.mv {m : Mo} {f f' : Nat → Int32} {b bk b' bk' : Nat} (h : RepRow m f b bk) (hp : m.people ≤ 8) (hb : m.book.length ≤ 30) (e1 : ∀ i, i < 13 → f' (b' + i) = f (b + i)) (e2 : ∀ i, i < 30 → f' (bk' + i) = f (bk + i)) : RepRow m f' b' bk' := by
  obtain ⟨r0, r1, r2, r3, r4, r5, r6⟩ := h
  exact ⟨(e1 0 (by omega)).trans r0, (e1 1 (by omega)).trans r1, (e1 2 (by omega)).trans r2, (e1 3 (by omega)).trans r3, (e1 4 (by omega)).trans r4, fun p hp2 => by have := e1 (5 + p) (by omega); rw [← Nat.add_assoc, ← Nat.add_assoc] at this; exact this.trans (r5 p hp2), fun i hi => (e2 i (by omega)).trans (r6 i hi)⟩
theorem RepA_ns {c : Cr} {f f' : Nat → Int32} {m : Mo} {st : List Mo} (h : RepA c f) (hw : Wf c) (hp : m.people = c.now.people) (hr : RepRow m f' 5 1405) (h3 : f' 3 = nI st.length) (hst : StepsR st f') (ne : ∀ i, i < 85 → i ≠ 3 → (i < 5 ∨ 18 ≤ i) → f' i = f i) :
    RepA (Cr.mk m c.sort c.begun c.hears st c.texts c.ruling c.parties c.saids c.villages) f' := by
  have p8 := hw.p8
  have l8 := hw.parties
  have s8 := hw.saids
  obtain ⟨h0, h1, h2, -, h4, h5, -, h7, h8, h9, h10, h11, h12, -⟩ := h
  refine ⟨((ne 0 (by omega) (by omega) (by omega)).trans h0).trans (congrArg nI hp.symm), (ne 1 (by omega) (by omega) (by omega)).trans h1, (ne 2 (by omega) (by omega) (by omega)).trans h2, h3, (ne 4 (by omega) (by omega) (by omega)).trans h4, (ne 84 (by omega) (by omega) (by omega)).trans h5, hr, fun q hq => ?_, fun q hq => ?_, fun q hq => (ne _ (by omega) (by omega) (by omega)).trans (h9 q hq), fun i hi => ⟨(ne _ (by have : i < c.saids.length := hi; omega) (by omega) (by omega)).trans (h10 i hi).1, (ne _ (by have : i < c.saids.length := hi; omega) (by omega) (by omega)).trans (h10 i hi).2⟩, fun i hi => (ne _ (by omega) (by omega) (by omega)).trans (h11 i hi), fun i hi => ⟨(ne _ (by have : i < c.parties.length := hi; omega) (by omega) (by omega)).trans (h12 i hi).1, (ne _ (by have : i < c.parties.length := hi; omega) (by omega) (by omega)).trans (h12 i hi).2⟩, StepsR.A (c := Cr.mk m c.sort c.begun c.hears st c.texts c.ruling c.parties c.saids c.villages) hst⟩
  · have hq2 : q < c.now.people := by rw [← hp]; exact hq
    exact (ne _ (by omega) (by omega) (by omega)).trans (h7 q hq2)
  · have hq2 : q < c.now.people := by rw [← hp]; exact hq
    exact (ne _ (by omega) (by omega) (by omega)).trans (h8 q hq2)
theorem RepA_now {c : Cr} {f f' : Nat → Int32} {m : Mo} (h : RepA c f) (hw : Wf c) (hp : m.people = c.now.people) (hr : RepRow m f' 5 1405) (ne : ∀ i, i < 1405 → (i < 5 ∨ 18 ≤ i) → f' i = f i) : RepA (c.setNow m) f' :=
  RepA_ns h hw hp hr ((ne 3 (by omega) (by omega)).trans h.steps) (h.stepsR.cg hw.steps (fun m hm => (hw.step m hm).1) (fun i a b => ne i (by omega) (by omega))) (fun i a _ b => ne i (by omega) b)
theorem RepA_cg {c : Cr} {f f' : Nat → Int32} (h : RepA c f) (hw : Wf c) (e : ∀ j, j < 1435 → f' j = f j) : RepA c f' := by
  have h2 := RepA_now (m := c.now) h hw rfl (h.row.cg hw.p8 hw.book (fun i a b => e i (by omega)) (fun i a b => e i (by omega))) (fun i a _ => e i (by omega))
  exact h2
theorem Wf_ns {c : Cr} {m : Mo} {st : List Mo} (h : Wf c) (hm : Mok m) (hp : m.people = c.now.people) (hl : st.length ≤ 30) (hs : ∀ x ∈ st, Mok x ∧ x.people ≤ c.now.people) : Wf (Cr.mk m c.sort c.begun c.hears st c.texts c.ruling c.parties c.saids c.villages) := by
  obtain ⟨a1, a2, a3, a4, a5, a6, a7, a8, a9, a10, a11, a12, a13, a14, a15⟩ := h
  exact ⟨hm, a2, a3, fun p => by show c.hears p < 2 ^ m.people; rw [hp]; exact a4 p, fun p q => a5 p (by rw [← hp]; exact q), hl, fun x hx => ⟨(hs x hx).1, by show x.people ≤ m.people; rw [hp]; exact (hs x hx).2⟩, a8, a9, a10, a11, a12, a13, a14, a15⟩
theorem Wf_now {c : Cr} {m : Mo} (h : Wf c) (hm : Mok m) (hp : m.people = c.now.people) : Wf (c.setNow m) := Wf_ns h hm hp h.steps h.step
def Mo.setX (m : Mo) (x : Nat) : Mo := (m.lean, m.book, m.people, m.answers, m.figure, m.round, x)
theorem Mok_setX {m : Mo} (h : Mok m) {x : Nat} (hx : x < 31033) : Mok (m.setX x) := ⟨h.1, h.2.1, h.2.2.1, h.2.2.2.1, h.2.2.2.2.1, hx, h.2.2.2.2.2.2.1, h.2.2.2.2.2.2.2⟩
theorem nx_lt (x : Nat) : nx x < 31033 := Nat.mod_lt _ (by decide)
theorem nxs_lt {x : Nat} (h : x < 31033) : ∀ n, nxs n x < 31033
  | 0 => h
  | n + 1 => nx_lt _
theorem sp_TM_anew {M : Mem} {x : Nat} (hR : MR M) (hx : mI M 1 6 = nI x) (h : x < 31033) : E 0 0 0 Y_TM_anew 0 [some (.ref 0)] [] GM M (QV GM fun M' => M' = wI M 1 6 (nI (nx x))) := by
  have e : nI (nx x) = (lN ((x * 709 + 577) % 31033)).toInt32 := (lN_i32 _).symm
  rw [e]
  first | refine E_aload_n d_TM_anew_0 rfl ?_ | refine E_aload_nN d_TM_anew_0 rfl ?_
  refine E_getR (q := 1) d_TM_anew_1 gf_TM_7 (by exact ⟨by decide, rfl⟩) (by exact hR _ rfl) ?_
  refine E_bipush (v := nI 6) d_TM_anew_4 (by decide) ?_
  first | refine E_aload_n d_TM_anew_6 rfl ?_ | refine E_aload_nN d_TM_anew_6 rfl ?_
  refine E_getR (q := 1) d_TM_anew_7 gf_TM_7 (by exact ⟨by decide, rfl⟩) (by exact hR _ rfl) ?_
  refine E_bipush (v := nI 6) d_TM_anew_10 (by decide) ?_
  refine E_iald d_TM_anew_12 (by exact ⟨by decide, rfl⟩) (by exact ⟨by with_reducible rfl, by omega, by decide⟩) (by exact hx) ?_
  first | (with_reducible refine E_isN1 ?_; refine E_i2lN d_TM_anew_13 (by omega) ?_) | refine E_i2l d_TM_anew_13 ?_
  refine E_ldc2 (v := lN 709) d_TM_anew_14 kc_TM_293 ?_
  first | (with_reducible refine E_isM2 ?_; refine E_lmulN d_TM_anew_17 ?_) | refine E_lmul d_TM_anew_17 ?_
  refine E_ldc2 (v := lN 577) d_TM_anew_18 kc_TM_295 ?_
  first | (with_reducible refine E_isM2 ?_; refine E_laddN d_TM_anew_21 ?_) | refine E_ladd d_TM_anew_21 ?_
  refine E_ldc2 (v := lN 31033) d_TM_anew_22 kc_TM_297 ?_
  first | (with_reducible refine E_isM2 ?_; refine E_lremN d_TM_anew_25 (by omega) (by omega) (by omega) ?_) | refine E_lrem d_TM_anew_25 (by decide) ?_
  refine E_l2i d_TM_anew_26 ?_
  refine E_iast d_TM_anew_27 (by exact ⟨by decide, rfl⟩) (by exact ⟨by with_reducible rfl, by omega, by decide⟩) ?_
  refine E_retV d_TM_anew_28 rfl ?_
  rfl
theorem sp_TM_drawnBy {M : Mem} {x : Nat} (hR : MR M) (hx : mI M 1 6 = nI x) (h : x < 31033) : E 1 0 0 Y_TM_drawnBy 0 [some (.ref 0), some (.int (nI 20)), none] [] GM M (QI GM fun r M' => r = nI (x % 20) ∧ M' = wI M 1 6 (nI (nx x))) := by
  first | refine E_aload_n d_TM_drawnBy_0 rfl ?_ | refine E_aload_nN d_TM_drawnBy_0 rfl ?_
  refine E_getR (q := 1) d_TM_drawnBy_1 gf_TM_7 (by exact ⟨by decide, rfl⟩) (by exact hR _ rfl) ?_
  refine E_bipush (v := nI 6) d_TM_drawnBy_4 (by decide) ?_
  refine E_iald d_TM_drawnBy_6 (by exact ⟨by decide, rfl⟩) (by exact ⟨by with_reducible rfl, by omega, by decide⟩) (by exact hx) ?_
  refine E_iload_n d_TM_drawnBy_7 rfl ?_
  first | (with_reducible refine E_isN2 ?_; refine E_iremN d_TM_drawnBy_8 (by omega) (by omega) (by omega) ?_) | refine E_irem d_TM_drawnBy_8 (by decide) ?_
  refine E_istore_2 d_TM_drawnBy_9 rfl ?_
  first | refine E_aload_n d_TM_drawnBy_10 rfl ?_ | refine E_aload_nN d_TM_drawnBy_10 rfl ?_
  refine E_V0 (sp_TM_anew hR hx h) d_TM_drawnBy_11 ml_TM_290 cb_TM_anew cv_TM_anew (by exact ⟨by decide, rfl⟩) ⟨by decide, rfl⟩ ⟨by decide, by decide⟩ rfl (Nat.le_of_ble_eq_true rfl) (Nat.le_of_ble_eq_true rfl) (kV fun M1 hc => ?_)
  subst hc
  refine E_iload_n d_TM_drawnBy_14 rfl ?_
  refine E_retI d_TM_drawnBy_15 rfl ?_
  exact ⟨rfl, rfl⟩
def wrF (f : Nat → Int32) (l : Nat) (v : Int32) : Nat → Int32 := fun j => if l = 30 then (if 1405 ≤ j ∧ j < 1434 then f (j + 1) else if j = 1434 then v else f j) else (if j = 1405 + l then v else if j = 8 then nI (l + 1) else f j)
def S01 (a : Nat) : Prop := a = 1
theorem mI_w1 {M : Mem} {k : Nat} {v : Int32} (j : Nat) : mI (wI M 1 k v) 1 j = if j = k then v else mI M 1 j := by
  rw [mI_wI]
  by_cases h : j = k
  · rw [if_pos ⟨rfl, h⟩, if_pos h]
  · rw [if_neg (fun q => h q.2), if_neg h]
theorem lp_TM_write {M0 : Mem} {rd fg : Nat} {F : Nat → Int32} (hR0 : MR M0) (hF0 : mI M0 1 = F) {Q : Option Value → Geo → Mem → Prop} (K : ∀ M, Sx S01 M0 M → (∀ j, mI M 1 j = if 1405 ≤ j ∧ j < 1434 then F (j + 1) else F j) → E 0 0 0 Y_TM_write 56 [some (.ref 0), some (.int (nI rd)), some (.int (nI fg)), none] [] GM M Q) :
    ∀ k n, n + k = 29 → ∀ M, Sx S01 M0 M → (∀ j, mI M 1 j = if 1405 ≤ j ∧ j < 1405 + n then F (j + 1) else F j) → E 0 0 0 Y_TM_write 22 [some (.ref 0), some (.int (nI rd)), some (.int (nI fg)), some (.int (nI (n + 1)))] [] GM M Q := by
  intro k
  induction k with
  | zero =>
    intro n hn M hX hF
    have hR := hR0.sx hX
    have hn2 : n = 29 := by omega
    subst hn2
    refine E_iload_n d_TM_write_22 rfl ?_
    refine E_bipush (v := nI 30) d_TM_write_23 (by decide) ?_
    first | (with_reducible refine E_isN2 ?_; refine E_icmp_ge 56 d_TM_write_25 rfl (nb_le (by omega) (by omega) fun h25 => ?_) (nb_nle (by omega) (by omega) fun h25 => ?_)) | refine E_icmp_ge 56 d_TM_write_25 rfl (fun h25 => ?_) (fun h25 => ?_)
    rotate_left
    · exfalso; omega
    refine E_wk ?_ (K M hX hF); exact ⟨Or.inl rfl, Or.inl rfl, Or.inl rfl, Or.inr rfl, trivial⟩
  | succ k ih =>
    intro n hn M hX hF
    have hR := hR0.sx hX
    refine E_iload_n d_TM_write_22 rfl ?_
    refine E_bipush (v := nI 30) d_TM_write_23 (by decide) ?_
    first | (with_reducible refine E_isN2 ?_; refine E_icmp_ge 56 d_TM_write_25 rfl (nb_le (by omega) (by omega) fun h25 => ?_) (nb_nle (by omega) (by omega) fun h25 => ?_)) | refine E_icmp_ge 56 d_TM_write_25 rfl (fun h25 => ?_) (fun h25 => ?_)
    · exfalso; omega
    first | refine E_aload_n d_TM_write_28 rfl ?_ | refine E_aload_nN d_TM_write_28 rfl ?_
    refine E_getR (q := 1) d_TM_write_29 gf_TM_7 (by exact ⟨by decide, rfl⟩) (by exact hR _ rfl) ?_
    refine E_sipush (v := nI 1405) d_TM_write_32 (by decide) ?_
    refine E_iload_n d_TM_write_35 rfl ?_
    first | (with_reducible refine E_isN2 ?_; refine E_iaddN d_TM_write_36 ?_) | refine E_iadd d_TM_write_36 ?_
    refine E_iconst (v := nI 1) d_TM_write_37 rfl ?_
    first | (with_reducible refine E_isN2 ?_; refine E_isubN d_TM_write_38 (by omega) ?_) | refine E_isub d_TM_write_38 ?_
    first | refine E_aload_n d_TM_write_39 rfl ?_ | refine E_aload_nN d_TM_write_39 rfl ?_
    refine E_getR (q := 1) d_TM_write_40 gf_TM_7 (by exact ⟨by decide, rfl⟩) (by exact hR _ rfl) ?_
    refine E_sipush (v := nI 1405) d_TM_write_43 (by decide) ?_
    refine E_iload_n d_TM_write_46 rfl ?_
    first | (with_reducible refine E_isN2 ?_; refine E_iaddN d_TM_write_47 ?_) | refine E_iadd d_TM_write_47 ?_
    refine E_iald d_TM_write_48 (by exact ⟨by decide, rfl⟩) (by exact ⟨by with_reducible rfl, by omega, by decide⟩) (by exact (hF _).trans (if_neg (by omega))) ?_
    rw [show 1405 + (n + 1) - 1 = 1405 + n by omega]
    refine E_iast d_TM_write_49 (by exact ⟨by decide, rfl⟩) (by exact ⟨by with_reducible rfl, by omega, by decide⟩) ?_
    first | (with_reducible refine E_isL3 ?_; refine E_iincN3 (m := 1) d_TM_write_50 rfl rfl ?_) | refine E_iinc_3 d_TM_write_50 rfl rfl ?_
    refine E_goto 22 d_TM_write_53 rfl ?_
    refine ih (n + 1) (by omega) _ (hX.wI rfl) (fun j => ?_)
    rw [mI_w1]
    by_cases q : j = 1405 + n
    · rw [if_pos q, if_pos (by omega), q]; rfl
    · rw [if_neg q, hF]
      by_cases q2 : 1405 ≤ j ∧ j < 1405 + n
      · rw [if_pos q2, if_pos (by omega)]
      · rw [if_neg q2, if_neg (by omega)]
theorem sp_TM_write0 {M : Mem} {x y : Int32} (hR : MR M) (hw : mI M 0 23 = nI 0) : E 0 0 0 Y_TM_write 0 [some (.ref 0), some (.int x), some (.int y), none] [] GM M (QV GM fun M' => M' = M) := by
  first | refine E_aload_n d_TM_write_0 rfl ?_ | refine E_aload_nN d_TM_write_0 rfl ?_
  refine E_getZ d_TM_write_1 gf_TM_43 (by exact ⟨by decide, rfl⟩) (by exact hw) ?_
  first | (with_reducible refine E_isP ?_; refine E_if_ne 8 d_TM_write_4 rfl (pb_1 fun h4 => ?_) (pb_0 fun h4 => ?_)) | (with_reducible refine E_isN1 ?_; refine E_if_ne 8 d_TM_write_4 rfl (nz_ne fun h4 => ?_) (nz_eq (by omega) fun h4 => ?_)) | refine E_if_ne 8 d_TM_write_4 rfl (fun h4 => ?_) (fun h4 => ?_)
  · exfalso; exact h4 rfl
  refine E_retV d_TM_write_7 rfl ?_
  rfl
theorem sp_TM_write {M : Mem} {rd fg l g : Nat} {F : Nat → Int32} (hR : MR M) (hw : mI M 0 23 = nI 1) (hF : mI M 1 = F) (hl : F 8 = nI l) (hl30 : l ≤ 30) (hg : F 7 = nI g) : E 0 0 0 Y_TM_write 0 [some (.ref 0), some (.int (nI rd)), some (.int (nI fg)), none] [] GM M (QV GM fun M' => Sx S01 M M' ∧ ∀ j, mI M' 1 j = wrF F l (nI ((rd * 9 + fg) * 9 + g)) j) := by
  have hF8 : mI M 1 8 = nI l := by rw [hF]; exact hl
  have hF7 : mI M 1 7 = nI g := by rw [hF]; exact hg
  by_cases h30 : l = 30
  · have K : ∀ M1, Sx S01 M M1 → (∀ j, mI M1 1 j = if 1405 ≤ j ∧ j < 1434 then F (j + 1) else F j) → E 0 0 0 Y_TM_write 56 [some (.ref 0), some (.int (nI rd)), some (.int (nI fg)), none] [] GM M1 (QV GM fun M' => Sx S01 M M' ∧ ∀ j, mI M' 1 j = wrF F l (nI ((rd * 9 + fg) * 9 + g)) j) := by
      intro M1 hX hF1
      have hR := hR.sx hX
      have e8 : mI M1 1 8 = nI 30 := by rw [hF1, if_neg (by omega), hl, h30]
      have e7 : mI M1 1 7 = nI g := by rw [hF1, if_neg (by omega), hg]
      first | refine E_aload_n d_TM_write_56 rfl ?_ | refine E_aload_nN d_TM_write_56 rfl ?_
      refine E_getR (q := 1) d_TM_write_57 gf_TM_7 (by exact ⟨by decide, rfl⟩) (by exact hR _ rfl) ?_
      refine E_bipush (v := nI 8) d_TM_write_60 (by decide) ?_
      refine E_dup2 d_TM_write_62 rfl rfl ?_
      refine E_iald d_TM_write_63 (by exact ⟨by decide, rfl⟩) (by exact ⟨by with_reducible rfl, by omega, by decide⟩) (by exact e8) ?_
      refine E_iconst (v := nI 1) d_TM_write_64 rfl ?_
      first | (with_reducible refine E_isN2 ?_; refine E_isubN d_TM_write_65 (by omega) ?_) | refine E_isub d_TM_write_65 ?_
      refine E_iast d_TM_write_66 (by exact ⟨by decide, rfl⟩) (by exact ⟨by with_reducible rfl, by omega, by decide⟩) ?_
      first | refine E_aload_n d_TM_write_67 rfl ?_ | refine E_aload_nN d_TM_write_67 rfl ?_
      refine E_getR (q := 1) d_TM_write_68 gf_TM_7 (by exact ⟨by decide, rfl⟩) (by exact hR _ rfl) ?_
      refine E_sipush (v := nI 1405) d_TM_write_71 (by decide) ?_
      first | refine E_aload_n d_TM_write_74 rfl ?_ | refine E_aload_nN d_TM_write_74 rfl ?_
      refine E_getR (q := 1) d_TM_write_75 gf_TM_7 (by exact ⟨by decide, rfl⟩) (by exact hR _ rfl) ?_
      refine E_bipush (v := nI 8) d_TM_write_78 (by decide) ?_
      refine E_iald d_TM_write_80 (by exact ⟨by decide, rfl⟩) (by exact ⟨by with_reducible rfl, by omega, by decide⟩) (by exact (mI_w1 _).trans (if_pos rfl)) ?_
      first | (with_reducible refine E_isN2 ?_; refine E_iaddN d_TM_write_81 ?_) | refine E_iadd d_TM_write_81 ?_
      refine E_iload_n d_TM_write_82 rfl ?_
      refine E_bipush (v := nI 9) d_TM_write_83 (by decide) ?_
      first | (with_reducible refine E_isN2 ?_; refine E_imulN d_TM_write_85 ?_) | refine E_imul d_TM_write_85 ?_
      refine E_iload_n d_TM_write_86 rfl ?_
      first | (with_reducible refine E_isN2 ?_; refine E_iaddN d_TM_write_87 ?_) | refine E_iadd d_TM_write_87 ?_
      refine E_bipush (v := nI 9) d_TM_write_88 (by decide) ?_
      first | (with_reducible refine E_isN2 ?_; refine E_imulN d_TM_write_90 ?_) | refine E_imul d_TM_write_90 ?_
      first | refine E_aload_n d_TM_write_91 rfl ?_ | refine E_aload_nN d_TM_write_91 rfl ?_
      refine E_getR (q := 1) d_TM_write_92 gf_TM_7 (by exact ⟨by decide, rfl⟩) (by exact hR _ rfl) ?_
      refine E_bipush (v := nI 7) d_TM_write_95 (by decide) ?_
      refine E_iald d_TM_write_97 (by exact ⟨by decide, rfl⟩) (by exact ⟨by with_reducible rfl, by omega, by decide⟩) (by exact ((mI_w1 _).trans (if_neg (by omega))).trans e7) ?_
      first | (with_reducible refine E_isN2 ?_; refine E_iaddN d_TM_write_98 ?_) | refine E_iadd d_TM_write_98 ?_
      refine E_iast d_TM_write_99 (by exact ⟨by decide, rfl⟩) (by exact ⟨by with_reducible rfl, by omega, by decide⟩) ?_
      first | refine E_aload_n d_TM_write_100 rfl ?_ | refine E_aload_nN d_TM_write_100 rfl ?_
      refine E_getR (q := 1) d_TM_write_101 gf_TM_7 (by exact ⟨by decide, rfl⟩) (by exact hR _ rfl) ?_
      refine E_bipush (v := nI 8) d_TM_write_104 (by decide) ?_
      refine E_dup2 d_TM_write_106 rfl rfl ?_
      refine E_iald d_TM_write_107 (by exact ⟨by decide, rfl⟩) (by exact ⟨by with_reducible rfl, by omega, by decide⟩) (by exact ((mI_w1 _).trans (if_neg (by omega))).trans ((mI_w1 _).trans (if_pos rfl))) ?_
      refine E_iconst (v := nI 1) d_TM_write_108 rfl ?_
      first | (with_reducible refine E_isN2 ?_; refine E_iaddN d_TM_write_109 ?_) | refine E_iadd d_TM_write_109 ?_
      refine E_iast d_TM_write_110 (by exact ⟨by decide, rfl⟩) (by exact ⟨by with_reducible rfl, by omega, by decide⟩) ?_
      refine E_retV d_TM_write_111 rfl ?_
      refine ⟨((hX.wI rfl).wI rfl).wI rfl, fun j => ?_⟩
      rw [mI_w1, mI_w1, mI_w1, hF1]
      unfold wrF
      rw [if_pos h30]
      by_cases q8 : j = 8
      · rw [if_pos q8, if_neg (by omega), if_neg (by omega), q8, hl, h30]
      · rw [if_neg q8]
        by_cases q9 : j = 1405 + (30 - 1)
        · rw [if_pos q9, if_neg (by omega), if_pos (by omega)]
        · rw [if_neg q9, if_neg q8]
          by_cases q2 : 1405 ≤ j ∧ j < 1434
          · rw [if_pos q2, if_pos q2]
          · rw [if_neg q2, if_neg q2, if_neg (by omega)]
    first | refine E_aload_n d_TM_write_0 rfl ?_ | refine E_aload_nN d_TM_write_0 rfl ?_
    refine E_getZ d_TM_write_1 gf_TM_43 (by exact ⟨by decide, rfl⟩) (by exact hw) ?_
    first | (with_reducible refine E_isP ?_; refine E_if_ne 8 d_TM_write_4 rfl (pb_1 fun h4 => ?_) (pb_0 fun h4 => ?_)) | (with_reducible refine E_isN1 ?_; refine E_if_ne 8 d_TM_write_4 rfl (nz_ne fun h4 => ?_) (nz_eq (by omega) fun h4 => ?_)) | refine E_if_ne 8 d_TM_write_4 rfl (fun h4 => ?_) (fun h4 => ?_)
    rotate_left
    · exfalso; exact absurd h4 (by decide)
    first | refine E_aload_n d_TM_write_8 rfl ?_ | refine E_aload_nN d_TM_write_8 rfl ?_
    refine E_getR (q := 1) d_TM_write_9 gf_TM_7 (by exact ⟨by decide, rfl⟩) (by exact hR _ rfl) ?_
    refine E_bipush (v := nI 8) d_TM_write_12 (by decide) ?_
    refine E_iald d_TM_write_14 (by exact ⟨by decide, rfl⟩) (by exact ⟨by with_reducible rfl, by omega, by decide⟩) (by exact hF8) ?_
    refine E_bipush (v := nI 30) d_TM_write_15 (by decide) ?_
    first | (with_reducible refine E_isN2 ?_; refine E_icmp_ne 67 d_TM_write_17 rfl (nb_ne fun h17 => ?_) (nb_eq (by omega) (by omega) fun h17 => ?_)) | refine E_icmp_ne 67 d_TM_write_17 rfl (fun h17 => ?_) (fun h17 => ?_)
    · exfalso; exact h17 h30
    refine E_iconst (v := nI 1) d_TM_write_20 rfl ?_
    refine E_istore_3 d_TM_write_21 rfl ?_
    exact lp_TM_write hR hF K 29 0 (by decide) M Sx.rf (fun j => by rw [if_neg (by omega), hF])
  · first | refine E_aload_n d_TM_write_0 rfl ?_ | refine E_aload_nN d_TM_write_0 rfl ?_
    refine E_getZ d_TM_write_1 gf_TM_43 (by exact ⟨by decide, rfl⟩) (by exact hw) ?_
    first | (with_reducible refine E_isP ?_; refine E_if_ne 8 d_TM_write_4 rfl (pb_1 fun h4 => ?_) (pb_0 fun h4 => ?_)) | (with_reducible refine E_isN1 ?_; refine E_if_ne 8 d_TM_write_4 rfl (nz_ne fun h4 => ?_) (nz_eq (by omega) fun h4 => ?_)) | refine E_if_ne 8 d_TM_write_4 rfl (fun h4 => ?_) (fun h4 => ?_)
    rotate_left
    · exfalso; exact absurd h4 (by decide)
    first | refine E_aload_n d_TM_write_8 rfl ?_ | refine E_aload_nN d_TM_write_8 rfl ?_
    refine E_getR (q := 1) d_TM_write_9 gf_TM_7 (by exact ⟨by decide, rfl⟩) (by exact hR _ rfl) ?_
    refine E_bipush (v := nI 8) d_TM_write_12 (by decide) ?_
    refine E_iald d_TM_write_14 (by exact ⟨by decide, rfl⟩) (by exact ⟨by with_reducible rfl, by omega, by decide⟩) (by exact hF8) ?_
    refine E_bipush (v := nI 30) d_TM_write_15 (by decide) ?_
    first | (with_reducible refine E_isN2 ?_; refine E_icmp_ne 67 d_TM_write_17 rfl (nb_ne fun h17 => ?_) (nb_eq (by omega) (by omega) fun h17 => ?_)) | refine E_icmp_ne 67 d_TM_write_17 rfl (fun h17 => ?_) (fun h17 => ?_)
    rotate_left
    · exfalso; exact h30 h17
    first | refine E_aload_n d_TM_write_67 rfl ?_ | refine E_aload_nN d_TM_write_67 rfl ?_
    refine E_getR (q := 1) d_TM_write_68 gf_TM_7 (by exact ⟨by decide, rfl⟩) (by exact hR _ rfl) ?_
    refine E_sipush (v := nI 1405) d_TM_write_71 (by decide) ?_
    first | refine E_aload_n d_TM_write_74 rfl ?_ | refine E_aload_nN d_TM_write_74 rfl ?_
    refine E_getR (q := 1) d_TM_write_75 gf_TM_7 (by exact ⟨by decide, rfl⟩) (by exact hR _ rfl) ?_
    refine E_bipush (v := nI 8) d_TM_write_78 (by decide) ?_
    refine E_iald d_TM_write_80 (by exact ⟨by decide, rfl⟩) (by exact ⟨by with_reducible rfl, by omega, by decide⟩) (by exact hF8) ?_
    first | (with_reducible refine E_isN2 ?_; refine E_iaddN d_TM_write_81 ?_) | refine E_iadd d_TM_write_81 ?_
    refine E_iload_n d_TM_write_82 rfl ?_
    refine E_bipush (v := nI 9) d_TM_write_83 (by decide) ?_
    first | (with_reducible refine E_isN2 ?_; refine E_imulN d_TM_write_85 ?_) | refine E_imul d_TM_write_85 ?_
    refine E_iload_n d_TM_write_86 rfl ?_
    first | (with_reducible refine E_isN2 ?_; refine E_iaddN d_TM_write_87 ?_) | refine E_iadd d_TM_write_87 ?_
    refine E_bipush (v := nI 9) d_TM_write_88 (by decide) ?_
    first | (with_reducible refine E_isN2 ?_; refine E_imulN d_TM_write_90 ?_) | refine E_imul d_TM_write_90 ?_
    first | refine E_aload_n d_TM_write_91 rfl ?_ | refine E_aload_nN d_TM_write_91 rfl ?_
    refine E_getR (q := 1) d_TM_write_92 gf_TM_7 (by exact ⟨by decide, rfl⟩) (by exact hR _ rfl) ?_
    refine E_bipush (v := nI 7) d_TM_write_95 (by decide) ?_
    refine E_iald d_TM_write_97 (by exact ⟨by decide, rfl⟩) (by exact ⟨by with_reducible rfl, by omega, by decide⟩) (by exact hF7) ?_
    first | (with_reducible refine E_isN2 ?_; refine E_iaddN d_TM_write_98 ?_) | refine E_iadd d_TM_write_98 ?_
    refine E_iast d_TM_write_99 (by exact ⟨by decide, rfl⟩) (by exact ⟨by with_reducible rfl, by omega, by decide⟩) ?_
    first | refine E_aload_n d_TM_write_100 rfl ?_ | refine E_aload_nN d_TM_write_100 rfl ?_
    refine E_getR (q := 1) d_TM_write_101 gf_TM_7 (by exact ⟨by decide, rfl⟩) (by exact hR _ rfl) ?_
    refine E_bipush (v := nI 8) d_TM_write_104 (by decide) ?_
    refine E_dup2 d_TM_write_106 rfl rfl ?_
    refine E_iald d_TM_write_107 (by exact ⟨by decide, rfl⟩) (by exact ⟨by with_reducible rfl, by omega, by decide⟩) (by exact (mI_w1 _).trans ((if_neg (by omega)).trans hF8)) ?_
    refine E_iconst (v := nI 1) d_TM_write_108 rfl ?_
    first | (with_reducible refine E_isN2 ?_; refine E_iaddN d_TM_write_109 ?_) | refine E_iadd d_TM_write_109 ?_
    refine E_iast d_TM_write_110 (by exact ⟨by decide, rfl⟩) (by exact ⟨by with_reducible rfl, by omega, by decide⟩) ?_
    refine E_retV d_TM_write_111 rfl ?_
    refine ⟨(Sx.rf.wI (P := S01) rfl).wI rfl, fun j => ?_⟩
    rw [mI_w1, mI_w1, hF]
    unfold wrF
    rw [if_neg h30]
    by_cases q8 : j = 8
    · rw [if_pos q8, if_neg (by omega), if_pos q8]
    · rw [if_neg q8, if_neg q8]
