section RDc
variable {G : Geo} {M : Mem} {l : List Nat} {sw : Nat}
def JR (j : Nat) : Prop := j = 7 ∨ (13 ≤ j ∧ j ≤ 17)
def AR (a : Nat) : Prop := a = 229 ∨ a = 230
def RS (l : List Nat) (sw k b : Nat) (M : Mem) : Prop := RC M ∧ TokC l M ∧ vk l k ∧ mI M 225 13 = nI k ∧ mI M 225 14 = nI (SS l k) ∧ mI M 225 15 = nI (VV l k) ∧ mI M 225 16 = nI 0 ∧ mI M 225 7 = nI b ∧ mI M 225 12 = nI sw ∧ mI M 225 17 = -1
def FS (l : List Nat) (f p : Nat) (M : Mem) : Prop := RC M ∧ TokC l M ∧ mI M 225 16 = nI f ∧ mI M 225 17 = nI (PP l p) ∧ f ≠ 0 ∧ f ≤ 6
theorem RS.R {k b : Nat} (h : RS l sw k b M) : RC M := h.1
theorem RS.T {k b : Nat} (h : RS l sw k b M) : TokC l M := h.2.1
theorem RS.v {k b : Nat} (h : RS l sw k b M) : vk l k := h.2.2.1
theorem RS.n {k b : Nat} (h : RS l sw k b M) : mI M 225 13 = nI k := h.2.2.2.1
theorem RS.s {k b : Nat} (h : RS l sw k b M) : mI M 225 14 = nI (SS l k) := h.2.2.2.2.1
theorem RS.w {k b : Nat} (h : RS l sw k b M) : mI M 225 15 = nI (VV l k) := h.2.2.2.2.2.1
theorem RS.f {k b : Nat} (h : RS l sw k b M) : mI M 225 16 = nI 0 := h.2.2.2.2.2.2.1
theorem RS.z {k b : Nat} (h : RS l sw k b M) : mI M 225 7 = nI b := h.2.2.2.2.2.2.2.1
theorem RS.law {k b : Nat} (h : RS l sw k b M) : mI M 225 12 = nI sw := h.2.2.2.2.2.2.2.2.1
theorem RS.p {k b : Nat} (h : RS l sw k b M) : mI M 225 17 = -1 := h.2.2.2.2.2.2.2.2.2
theorem TokC.fo {J A : Nat → Prop} {M1 : Mem} {o : Nat} (h : TokC l M) (g : Fo o J A M M1) (ho : o < 222 ∨ 224 < o) (ha : ∀ a, A a → a < 222 ∨ 224 < a) : TokC l M1 := fun j hj => by
  have e : ∀ a, 222 ≤ a → a ≤ 224 → mI M1 a = mI M a := fun a x y => g.2.1 a (by omega) (fun q => by have := ha a q; omega)
  rw [e 222 (by decide) (by decide), e 223 (by decide) (by decide), e 224 (by decide) (by decide)]
  exact h j hj
theorem AR.o {a : Nat} (h : AR a) : a < 222 ∨ 224 < a := by unfold AR at h; omega
theorem An.o {a : Nat} (h : An a) : a < 222 ∨ 224 < a := absurd h (fun z => z)
def J1 (j : Nat) : Prop := 13 ≤ j ∧ j ≤ 15
def J2 (j : Nat) : Prop := 16 ≤ j ∧ j ≤ 17
def J7 (j : Nat) : Prop := j = 7
theorem Fo.j1 {M1 : Mem} (h : Fo 225 J1 An M M1) : Fo 225 JR AR M M1 := h.wk (fun j q => by unfold J1 at q; unfold JR; omega) (fun a q => absurd q (fun z => z))
theorem Fo.j2 {M1 : Mem} (h : Fo 225 J2 An M M1) : Fo 225 JR AR M M1 := h.wk (fun j q => by unfold J2 at q; unfold JR; omega) (fun a q => absurd q (fun z => z))
theorem Fo.j7 {M1 : Mem} (h : Fo 225 J7 AR M M1) : Fo 225 JR AR M M1 := h.wk (fun j q => Or.inl q) (fun a q => q)
theorem sp_Re_advanceG (hG : GC G) (hR : RC M) (hT : TokC l M) {k : Nat} {x : Int32} (hv : vk l k) (h3 : l.length ≤ 300) (hx : mI M 225 13 = x) (hk : x + nI 1 = nI k) : E 1 0 0 Y_Re_advance 0 [some (.ref 225)] [] G M (QV G fun M' => mI M' 225 13 = nI k ∧ mI M' 225 14 = nI (SS l k) ∧ mI M' 225 15 = nI (VV l k) ∧ Fo 225 J1 An M M') := by
  have hkl := hv.le
  obtain ⟨t1, t2, t3⟩ := hT k hv
  have b13 : J1 13 := by unfold J1; omega
  have b14 : J1 14 := by unfold J1; omega
  have b15 : J1 15 := by unfold J1; omega
  have r1 : mI (wI M 225 13 (nI k)) 225 13 = nI k := by rw [mI_wa, if_pos rfl]
  have r2 : mI (wI (wI M 225 13 (nI k)) 225 14 (nI (SS l k))) 225 13 = nI k := by rw [mI_wa, if_neg (by decide)]; exact r1
  have a1 := sp_TP_at (G := G) (M := wI M 225 13 (nI k)) (v := nI (SS l k)) (hG.s (k := 222) (by decide) rfl) (by decide) (show k < 301 by omega) (by rw [mI_wx (by decide)]; exact t1)
  have a2 := sp_TP_at (G := G) (M := wI (wI M 225 13 (nI k)) 225 14 (nI (SS l k))) (v := nI (VV l k)) (hG.s (k := 224) (by decide) rfl) (by decide) (show k < 301 by omega) (by rw [mI_wx (by decide), mI_wx (by decide)]; exact t3)
  have ok : mI (wI (wI (wI M 225 13 (nI k)) 225 14 (nI (SS l k))) 225 15 (nI (VV l k))) 225 13 = nI k ∧ mI (wI (wI (wI M 225 13 (nI k)) 225 14 (nI (SS l k))) 225 15 (nI (VV l k))) 225 14 = nI (SS l k) ∧ mI (wI (wI (wI M 225 13 (nI k)) 225 14 (nI (SS l k))) 225 15 (nI (VV l k))) 225 15 = nI (VV l k) := by
    refine ⟨by rw [mI_wa, if_neg (by decide)]; exact r2, by rw [mI_wa, if_neg (by decide), mI_wa, if_pos rfl], by rw [mI_wa, if_pos rfl]⟩
  first | refine E_aload_n d_Re_advance_0 rfl ?_ | refine E_aload_nN d_Re_advance_0 rfl ?_
  refine E_dup d_Re_advance_1 rfl ?_
  refine E_getI d_Re_advance_2 gf_Re_55 (by exact hG.s (by decide) rfl) (by exact hx) ?_
  refine E_iconst (v := nI 1) d_Re_advance_5 rfl ?_
  first | (with_reducible refine E_isN2 ?_; refine E_iaddN d_Re_advance_6 ?_) | refine E_iadd d_Re_advance_6 ?_
  rw [hk]
  refine E_putI d_Re_advance_7 gf_Re_55 (by exact hG.s (by decide) rfl) rfl rfl ?_
  first | refine E_aload_n d_Re_advance_10 rfl ?_ | refine E_aload_nN d_Re_advance_10 rfl ?_
  first | refine E_aload_n d_Re_advance_11 rfl ?_ | refine E_aload_nN d_Re_advance_11 rfl ?_
  refine E_getR d_Re_advance_12 gf_Re_27 (by exact hG.s (by decide) rfl) (by exact hR.o rfl) ?_
  refine E_getR d_Re_advance_15 gf_Re_94 (by exact hG.s (by decide) rfl) (by exact hR.o rfl) ?_
  first | refine E_aload_n d_Re_advance_18 rfl ?_ | refine E_aload_nN d_Re_advance_18 rfl ?_
  refine E_getI d_Re_advance_19 gf_Re_55 (by exact hG.s (by decide) rfl) (by exact r1) ?_
  refine E_SN2 (a1) d_Re_advance_22 nl_Re_95 cb_TP_at cs_TP_at ⟨by decide, by decide⟩ rfl (Nat.le_of_ble_eq_true rfl) (Nat.le_of_ble_eq_true rfl) (kI fun r1 M1 hc => ?_)
  obtain ⟨rfl, rfl⟩ := hc
  refine E_putI d_Re_advance_25 gf_Re_61 (by exact hG.s (by decide) rfl) rfl rfl ?_
  first | refine E_aload_n d_Re_advance_28 rfl ?_ | refine E_aload_nN d_Re_advance_28 rfl ?_
  first | refine E_aload_n d_Re_advance_29 rfl ?_ | refine E_aload_nN d_Re_advance_29 rfl ?_
  refine E_getR d_Re_advance_30 gf_Re_27 (by exact hG.s (by decide) rfl) (by exact hR.o rfl) ?_
  refine E_getR d_Re_advance_33 gf_Re_99 (by exact hG.s (by decide) rfl) (by exact hR.o rfl) ?_
  first | refine E_aload_n d_Re_advance_36 rfl ?_ | refine E_aload_nN d_Re_advance_36 rfl ?_
  refine E_getI d_Re_advance_37 gf_Re_55 (by exact hG.s (by decide) rfl) (by exact r2) ?_
  refine E_SN2 (a2) d_Re_advance_40 nl_Re_95 cb_TP_at cs_TP_at ⟨by decide, by decide⟩ rfl (Nat.le_of_ble_eq_true rfl) (Nat.le_of_ble_eq_true rfl) (kI fun r1 M1 hc => ?_)
  obtain ⟨rfl, rfl⟩ := hc
  refine E_putI d_Re_advance_43 gf_Re_102 (by exact hG.s (by decide) rfl) rfl rfl ?_
  refine E_retV d_Re_advance_46 rfl ?_
  exact ⟨ok.1, ok.2.1, ok.2.2, ((Fo.rf.wI b13).wI b14).wI b15⟩
theorem sp_Re_advance (hG : GC G) {k b : Nat} (h : RS l sw k b M) (h3 : l.length ≤ 300) (hs : SS l k ≠ 40) : E 1 0 0 Y_Re_advance 0 [some (.ref 225)] [] G M (QV G fun M' => RS l sw (k + 1) b M' ∧ Fo 225 J1 An M M') := by
  refine E_mono (sp_Re_advanceG (x := nI k) hG h.R h.T (h.v.s hs) h3 h.n (nI_add k 1)) (fun _ _ _ q => ⟨q.1, q.2.1, ?_⟩)
  obtain ⟨-, -, q1, q2, q3, qX⟩ := q
  have n : ∀ j, j = 16 ∨ j = 7 ∨ j = 12 ∨ j = 17 → ¬ J1 j := fun j hj q => by unfold J1 at q; omega
  exact ⟨⟨h.R.fo qX, h.T.fo qX (by decide) (fun _ => An.o), h.v.s hs, q1, q2, q3, (qX.2.2.1 16 (n 16 (by omega))).trans h.f, (qX.2.2.1 7 (n 7 (by omega))).trans h.z, (qX.2.2.1 12 (n 12 (by omega))).trans h.law, (qX.2.2.1 17 (n 17 (by omega))).trans h.p⟩, qX⟩
theorem sp_Re_fail (hG : GC G) {k b f : Nat} (h : RS l sw k b M) (h3 : l.length ≤ 300) (hf : f ≠ 0) (h6 : f ≤ 6) : E 1 0 0 Y_Re_fail 0 [some (.ref 225), some (.int (nI f))] [] G M (QV G fun M' => FS l f k M' ∧ Fo 225 J2 An M M') := by
  have hR := h.R
  have hkl := h.v.le
  have b16 : J2 16 := by unfold J2; omega
  have b17 : J2 17 := by unfold J2; omega
  have hX : Fo 225 J2 An M (wI (wI M 225 16 (nI f)) 225 17 (nI (PP l k))) := (Fo.rf.wI b16).wI b17
  have ok : FS l f k (wI (wI M 225 16 (nI f)) 225 17 (nI (PP l k))) := ⟨hR.fo hX, h.T.fo hX (by decide) (fun _ => An.o), by rw [mI_wa, if_neg (by decide), mI_wa, if_pos rfl], by rw [mI_wa, if_pos rfl], hf, h6⟩
  have r13 : mI (wI M 225 16 (nI f)) 225 13 = nI k := by rw [mI_wa, if_neg (by decide)]; exact h.n
  have a1 := sp_TP_at (G := G) (M := wI M 225 16 (nI f)) (v := nI (PP l k)) (hG.s (k := 223) (by decide) rfl) (by decide) (show k < 301 by omega) (by rw [mI_wx (by decide)]; exact (h.T k h.v).2.1)
  first | refine E_aload_n d_Re_fail_0 rfl ?_ | refine E_aload_nN d_Re_fail_0 rfl ?_
  refine E_getI d_Re_fail_1 gf_Re_44 (by exact hG.s (by decide) rfl) (by exact h.f) ?_
  first | (with_reducible refine E_isP ?_; refine E_if_ne 30 d_Re_fail_4 rfl (pb_1 fun h4 => ?_) (pb_0 fun h4 => ?_)) | (with_reducible refine E_isN1 ?_; refine E_if_ne 30 d_Re_fail_4 rfl (nz_ne fun h4 => ?_) (nz_eq (by omega) fun h4 => ?_)) | refine E_if_ne 30 d_Re_fail_4 rfl (fun h4 => ?_) (fun h4 => ?_)
  · exfalso; omega
  first | refine E_aload_n d_Re_fail_7 rfl ?_ | refine E_aload_nN d_Re_fail_7 rfl ?_
  refine E_iload_n d_Re_fail_8 rfl ?_
  refine E_putI d_Re_fail_9 gf_Re_44 (by exact hG.s (by decide) rfl) rfl rfl ?_
  first | refine E_aload_n d_Re_fail_12 rfl ?_ | refine E_aload_nN d_Re_fail_12 rfl ?_
  first | refine E_aload_n d_Re_fail_13 rfl ?_ | refine E_aload_nN d_Re_fail_13 rfl ?_
  refine E_getR d_Re_fail_14 gf_Re_27 (by exact hG.s (by decide) rfl) (by exact hR.o rfl) ?_
  refine E_getR d_Re_fail_17 gf_Re_105 (by exact hG.s (by decide) rfl) (by exact hR.o rfl) ?_
  first | refine E_aload_n d_Re_fail_20 rfl ?_ | refine E_aload_nN d_Re_fail_20 rfl ?_
  refine E_getI d_Re_fail_21 gf_Re_55 (by exact hG.s (by decide) rfl) (by exact r13) ?_
  refine E_SN2 (a1) d_Re_fail_24 nl_Re_95 cb_TP_at cs_TP_at ⟨by decide, by decide⟩ rfl (Nat.le_of_ble_eq_true rfl) (Nat.le_of_ble_eq_true rfl) (kI fun r1 M1 hc => ?_)
  obtain ⟨rfl, rfl⟩ := hc
  refine E_putI d_Re_fail_27 gf_Re_47 (by exact hG.s (by decide) rfl) rfl rfl ?_
  refine E_retV d_Re_fail_30 rfl ?_
  exact ⟨ok, hX⟩
theorem nI_ne6 {f : Nat} (h : f ≠ 0) (h6 : f ≤ 6) : ¬ nI f = 0 := fun q => h (nI_inj (b := 0) (by omega) (by decide) q)
theorem sp_Re_failF (hG : GC G) {p f : Nat} {x : Int32} (h : FS l f p M) : E 1 0 0 Y_Re_fail 0 [some (.ref 225), some (.int x)] [] G M (QV G fun M' => M' = M) := by
  obtain ⟨hR, hT, h16, h17, hf, h6⟩ := h
  first | refine E_aload_n d_Re_fail_0 rfl ?_ | refine E_aload_nN d_Re_fail_0 rfl ?_
  refine E_getI d_Re_fail_1 gf_Re_44 (by exact hG.s (by decide) rfl) (by exact h16) ?_
  first | (with_reducible refine E_isP ?_; refine E_if_ne 30 d_Re_fail_4 rfl (pb_1 fun h4 => ?_) (pb_0 fun h4 => ?_)) | (with_reducible refine E_isN1 ?_; refine E_if_ne 30 d_Re_fail_4 rfl (nz_ne fun h4 => ?_) (nz_eq (by omega) fun h4 => ?_)) | refine E_if_ne 30 d_Re_fail_4 rfl (fun h4 => ?_) (fun h4 => ?_)
  rotate_left
  · exfalso; omega
  refine E_retV d_Re_fail_30 rfl ?_
  rfl
theorem sp_Re_take (hG : GC G) {k b s : Nat} (h : RS l sw k b M) (h3 : l.length ≤ 300) (hs : s ≠ 40) (h41 : s ≤ 41) : E 2 0 0 Y_Re_take 0 [some (.ref 225), some (.int (nI s))] [] G M (QV G fun M' => (SS l k = s → RS l sw (k + 1) b M') ∧ (SS l k ≠ s → FS l 1 k M') ∧ Fo 225 (fun j => 13 ≤ j ∧ j ≤ 17) An M M') := by
  have hR := h.R
  have hsr := SS_rg l k
  by_cases e : SS l k = s
  · first | refine E_aload_n d_Re_take_0 rfl ?_ | refine E_aload_nN d_Re_take_0 rfl ?_
    refine E_getI d_Re_take_1 gf_Re_44 (by exact hG.s (by decide) rfl) (by exact h.f) ?_
    first | (with_reducible refine E_isP ?_; refine E_if_ne 22 d_Re_take_4 rfl (pb_1 fun h4 => ?_) (pb_0 fun h4 => ?_)) | (with_reducible refine E_isN1 ?_; refine E_if_ne 22 d_Re_take_4 rfl (nz_ne fun h4 => ?_) (nz_eq (by omega) fun h4 => ?_)) | refine E_if_ne 22 d_Re_take_4 rfl (fun h4 => ?_) (fun h4 => ?_)
    · exfalso; omega
    first | refine E_aload_n d_Re_take_7 rfl ?_ | refine E_aload_nN d_Re_take_7 rfl ?_
    refine E_getI d_Re_take_8 gf_Re_61 (by exact hG.s (by decide) rfl) (by exact h.s) ?_
    refine E_iload_n d_Re_take_11 rfl ?_
    first | (with_reducible refine E_isN2 ?_; refine E_icmp_ne 22 d_Re_take_12 rfl (nb_ne fun h12 => ?_) (nb_eq (by omega) (by omega) fun h12 => ?_)) | refine E_icmp_ne 22 d_Re_take_12 rfl (fun h12 => ?_) (fun h12 => ?_)
    · exfalso; omega
    first | refine E_aload_n d_Re_take_15 rfl ?_ | refine E_aload_nN d_Re_take_15 rfl ?_
    refine E_V0 (sp_Re_advance hG h h3 (by omega)) d_Re_take_16 ml_Re_58 cb_Re_advance cv_Re_advance (by exact hG.s (by decide) rfl) ⟨by decide, rfl⟩ ⟨by decide, by decide⟩ rfl (Nat.le_of_ble_eq_true rfl) (Nat.le_of_ble_eq_true rfl) (kV fun M1 hc => ?_)
    obtain ⟨q1, q2⟩ := hc
    refine E_goto 27 d_Re_take_19 rfl ?_
    refine E_retV d_Re_take_27 rfl ?_
    exact ⟨fun _ => q1, fun q => absurd e q, q2.wk (fun j q => by unfold J1 at q; omega) (fun _ q => q)⟩
  · first | refine E_aload_n d_Re_take_0 rfl ?_ | refine E_aload_nN d_Re_take_0 rfl ?_
    refine E_getI d_Re_take_1 gf_Re_44 (by exact hG.s (by decide) rfl) (by exact h.f) ?_
    first | (with_reducible refine E_isP ?_; refine E_if_ne 22 d_Re_take_4 rfl (pb_1 fun h4 => ?_) (pb_0 fun h4 => ?_)) | (with_reducible refine E_isN1 ?_; refine E_if_ne 22 d_Re_take_4 rfl (nz_ne fun h4 => ?_) (nz_eq (by omega) fun h4 => ?_)) | refine E_if_ne 22 d_Re_take_4 rfl (fun h4 => ?_) (fun h4 => ?_)
    · exfalso; omega
    first | refine E_aload_n d_Re_take_7 rfl ?_ | refine E_aload_nN d_Re_take_7 rfl ?_
    refine E_getI d_Re_take_8 gf_Re_61 (by exact hG.s (by decide) rfl) (by exact h.s) ?_
    refine E_iload_n d_Re_take_11 rfl ?_
    first | (with_reducible refine E_isN2 ?_; refine E_icmp_ne 22 d_Re_take_12 rfl (nb_ne fun h12 => ?_) (nb_eq (by omega) (by omega) fun h12 => ?_)) | refine E_icmp_ne 22 d_Re_take_12 rfl (fun h12 => ?_) (fun h12 => ?_)
    rotate_left
    · exfalso; omega
    first | refine E_aload_n d_Re_take_22 rfl ?_ | refine E_aload_nN d_Re_take_22 rfl ?_
    refine E_iconst (v := nI 1) d_Re_take_23 rfl ?_
    refine E_V1 (sp_Re_fail (f := 1) hG h h3 (by decide) (by decide)) d_Re_take_24 ml_Re_108 cb_Re_fail cv_Re_fail (by exact hG.s (by decide) rfl) ⟨by decide, rfl⟩ ⟨by decide, by decide⟩ rfl (Nat.le_of_ble_eq_true rfl) (Nat.le_of_ble_eq_true rfl) (kV fun M1 hc => ?_)
    obtain ⟨q1, q2⟩ := hc
    refine E_retV d_Re_take_27 rfl ?_
    exact ⟨fun q => absurd q e, fun _ => q1, q2.wk (fun j q => by unfold J2 at q; omega) (fun _ q => q)⟩
theorem Fo.j3 {M1 : Mem} (h : Fo 225 (fun j => 13 ≤ j ∧ j ≤ 17) An M M1) : Fo 225 JR AR M M1 := h.wk (fun j q => Or.inr q) (fun a q => absurd q (fun z => z))
theorem sp_Re_takeF (hG : GC G) {p f : Nat} {x : Int32} (h : FS l f p M) : E 2 0 0 Y_Re_take 0 [some (.ref 225), some (.int x)] [] G M (QV G fun M' => M' = M) := by
  have h' := h
  obtain ⟨hR, hT, h16, h17, hf, h6⟩ := h
  first | refine E_aload_n d_Re_take_0 rfl ?_ | refine E_aload_nN d_Re_take_0 rfl ?_
  refine E_getI d_Re_take_1 gf_Re_44 (by exact hG.s (by decide) rfl) (by exact h16) ?_
  first | (with_reducible refine E_isP ?_; refine E_if_ne 22 d_Re_take_4 rfl (pb_1 fun h4 => ?_) (pb_0 fun h4 => ?_)) | (with_reducible refine E_isN1 ?_; refine E_if_ne 22 d_Re_take_4 rfl (nz_ne fun h4 => ?_) (nz_eq (by omega) fun h4 => ?_)) | refine E_if_ne 22 d_Re_take_4 rfl (fun h4 => ?_) (fun h4 => ?_)
  rotate_left
  · exfalso; omega
  first | refine E_aload_n d_Re_take_22 rfl ?_ | refine E_aload_nN d_Re_take_22 rfl ?_
  refine E_iconst (v := nI 1) d_Re_take_23 rfl ?_
  refine E_V1 (sp_Re_failF hG h') d_Re_take_24 ml_Re_108 cb_Re_fail cv_Re_fail (by exact hG.s (by decide) rfl) ⟨by decide, rfl⟩ ⟨by decide, by decide⟩ rfl (Nat.le_of_ble_eq_true rfl) (Nat.le_of_ble_eq_true rfl) (kV fun M1 hc => ?_)
  subst hc
  refine E_retV d_Re_take_27 rfl ?_
  rfl
theorem sp_TP_putG {a n : Nat} {x v : Int32} (hs : Sh G a (1, n)) (hn : n < 2147483648) : E 0 0 0 Y_TP_put 0 [some (.ref a), some (.int x), some (.int v)] [] G M (QV G fun M' => mR M' = mR M ∧ mL M' = mL M ∧ ∀ c, c ≠ a → mI M' c = mI M c) := by
  by_cases hx : inN x n
  · have e := (in_nI hx).1
    have hl := (in_nI hx).2
    rw [e]
    exact E_mono (sp_TP_put hs hn hl) (fun _ _ _ q => ⟨q.1, q.2.1, by rw [q.2.2]; exact ⟨rfl, rfl, fun c hc => mI_ne hc⟩⟩)
  · have no : ¬ x < 0 → ¬ nI n ≤ x → False := fun h h' => hx (by rw [lt_toInt] at h; rw [le_toInt, nI_toInt (by omega)] at h'; have := z32; unfold inN; omega)
    refine E_iload_n d_TP_put_0 rfl ?_
    first | (with_reducible refine E_isN1 ?_; refine E_if_lt 14 d_TP_put_1 rfl (nz_lt (by omega) fun h1 => ?_) (nz_nlt (by omega) fun h1 => ?_)) | refine E_if_lt 14 d_TP_put_1 rfl (fun h1 => ?_) (fun h1 => ?_)
    · refine E_retV d_TP_put_14 rfl ?_
      exact ⟨rfl, rfl, fun _ _ => rfl⟩
    · refine E_iload_n d_TP_put_4 rfl ?_
      first | refine E_aload_n d_TP_put_5 rfl ?_ | refine E_aload_nN d_TP_put_5 rfl ?_
      refine E_alen d_TP_put_6 (by exact hs) (by decide) rfl ?_
      first | (with_reducible refine E_isN2 ?_; refine E_icmp_ge 14 d_TP_put_7 rfl (nb_le (by omega) (by omega) fun h7 => ?_) (nb_nle (by omega) (by omega) fun h7 => ?_)) | refine E_icmp_ge 14 d_TP_put_7 rfl (fun h7 => ?_) (fun h7 => ?_)
      rotate_left
      · exfalso; exact no h1 h7
      refine E_retV d_TP_put_14 rfl ?_
      exact ⟨rfl, rfl, fun _ _ => rfl⟩
def cdAt (cc : Cd) (b : Nat) (M : Mem) : Prop := ∀ i, i < cc.length → mI M 229 (b + i) = nI (cc.getD i (0, 0)).1 ∧ mI M 230 (b + i) = nI (cc.getD i (0, 0)).2
def kpB (b : Nat) (M M' : Mem) : Prop := ∀ i, i < b → mI M' 229 i = mI M 229 i ∧ mI M' 230 i = mI M 230 i
theorem kpB.rf {b : Nat} : kpB b M M := fun _ _ => ⟨rfl, rfl⟩
theorem kpB.tr {b : Nat} {M1 M2 : Mem} (h : kpB b M M1) (g : kpB b M1 M2) : kpB b M M2 := fun i hi => ⟨(g i hi).1.trans (h i hi).1, (g i hi).2.trans (h i hi).2⟩
theorem kpB.le {b b' : Nat} {M1 : Mem} (h : kpB b M M1) (hb : b' ≤ b) : kpB b' M M1 := fun i hi => h i (by omega)
theorem kpB.an {b : Nat} {J : Nat → Prop} {M1 : Mem} (h : Fo 225 J An M M1) : kpB b M M1 := fun i _ => by rw [h.2.1 229 (by decide) (fun z => z), h.2.1 230 (by decide) (fun z => z)]; exact ⟨rfl, rfl⟩
theorem cdAt.kp {cc : Cd} {b n : Nat} {M1 : Mem} (h : cdAt cc b M) (g : kpB n M M1) (hn : b + cc.length ≤ n) : cdAt cc b M1 := fun i hi => by
  rw [(g (b + i) (by omega)).1, (g (b + i) (by omega)).2]
  exact h i hi
theorem cdAt.app {c1 c2 : Cd} {b : Nat} (h : cdAt c1 b M) (g : cdAt c2 (b + c1.length) M) : cdAt (c1 ++ c2) b M := fun i hi => by
  rw [List.length_append] at hi
  rcases Nat.lt_or_ge i c1.length with q | q
  · have e : (c1 ++ c2).getD i (0, 0) = c1.getD i (0, 0) := by rw [List.getD_eq_getElem?_getD, List.getD_eq_getElem?_getD, List.getElem?_append_left q]
    rw [e]; exact h i q
  · have e : (c1 ++ c2).getD i (0, 0) = c2.getD (i - c1.length) (0, 0) := by rw [List.getD_eq_getElem?_getD, List.getD_eq_getElem?_getD, List.getElem?_append_right q]
    have := g (i - c1.length) (by omega)
    rw [show b + c1.length + (i - c1.length) = b + i by omega] at this
    rw [e]; exact this
theorem cdAt.nil {b : Nat} : cdAt [] b M := fun i hi => absurd hi (Nat.not_lt_zero i)
theorem sp_Re_write (hG : GC G) {k b w m : Nat} (h : RS l sw k b M) (hb : b < 300) : E 1 0 0 Y_Re_write 0 [some (.ref 225), some (.int (nI w)), some (.int (nI m))] [] G M (QV G fun M' => RS l sw k (b + 1) M' ∧ cdAt [(w, m)] b M' ∧ kpB b M M' ∧ Fo 225 J7 AR M M') := by
  have hR := h.R
  have hX : Fo 225 J7 AR M (wI (wI (wI M 229 b (nI w)) 230 b (nI m)) 225 7 (nI (b + 1))) := ((Fo.rf.wJ (by decide) (Or.inl rfl)).wJ (by decide) (Or.inr rfl)).wI rfl
  have z1 : mI (wI M 229 b (nI w)) 225 7 = nI b := by rw [mI_wx (by decide)]; exact h.z
  have z2 : mI (wI (wI M 229 b (nI w)) 230 b (nI m)) 225 7 = nI b := by rw [mI_wx (by decide)]; exact z1
  have n : ∀ j, j ≠ 7 → ¬ J7 j := fun j hj q => hj q
  have e9 : ∀ i, mI (wI (wI (wI M 229 b (nI w)) 230 b (nI m)) 225 7 (nI (b + 1))) 229 i = if i = b then nI w else mI M 229 i := fun i => by rw [mI_wx (by decide), mI_wx (by decide), mI_wa]
  have e0 : ∀ i, mI (wI (wI (wI M 229 b (nI w)) 230 b (nI m)) 225 7 (nI (b + 1))) 230 i = if i = b then nI m else mI M 230 i := fun i => by rw [mI_wx (by decide), mI_wa, mI_wx (by decide)]
  have ok : RS l sw k (b + 1) (wI (wI (wI M 229 b (nI w)) 230 b (nI m)) 225 7 (nI (b + 1))) := ⟨hR.fo hX, h.T.fo hX (by decide) (fun _ => AR.o), h.v, (hX.2.2.1 13 (n 13 (by decide))).trans h.n, (hX.2.2.1 14 (n 14 (by decide))).trans h.s, (hX.2.2.1 15 (n 15 (by decide))).trans h.w, (hX.2.2.1 16 (n 16 (by decide))).trans h.f, by rw [mI_wa, if_pos rfl], (hX.2.2.1 12 (n 12 (by decide))).trans h.law, (hX.2.2.1 17 (n 17 (by decide))).trans h.p⟩
  have okc : cdAt [(w, m)] b (wI (wI (wI M 229 b (nI w)) 230 b (nI m)) 225 7 (nI (b + 1))) := fun i hi => by
    have e : i = 0 := by have : i < 1 := hi; omega
    subst e
    rw [e9, e0, Nat.add_zero, if_pos rfl, if_pos rfl]
    exact ⟨rfl, rfl⟩
  have okk : kpB b M (wI (wI (wI M 229 b (nI w)) 230 b (nI m)) 225 7 (nI (b + 1))) := fun i hi => by
    rw [e9, e0, if_neg (by omega), if_neg (by omega)]
    exact ⟨rfl, rfl⟩
  first | refine E_aload_n d_Re_write_0 rfl ?_ | refine E_aload_nN d_Re_write_0 rfl ?_
  refine E_getR d_Re_write_1 gf_Re_21 (by exact hG.s (by decide) rfl) (by exact hR.o rfl) ?_
  first | refine E_aload_n d_Re_write_4 rfl ?_ | refine E_aload_nN d_Re_write_4 rfl ?_
  refine E_getI d_Re_write_5 gf_Re_35 (by exact hG.s (by decide) rfl) (by exact h.z) ?_
  refine E_iload_n d_Re_write_8 rfl ?_
  refine E_SN3 (sp_TP_put (hG.s (k := 229) (by decide) rfl) (by decide) hb) d_Re_write_9 nl_Re_119 cb_TP_put cs_TP_put ⟨by decide, by decide⟩ rfl (Nat.le_of_ble_eq_true rfl) (Nat.le_of_ble_eq_true rfl) (kV fun M1 hc => ?_)
  subst hc
  first | refine E_aload_n d_Re_write_12 rfl ?_ | refine E_aload_nN d_Re_write_12 rfl ?_
  refine E_getR d_Re_write_13 gf_Re_24 (by exact hG.s (by decide) rfl) (by exact hR.o rfl) ?_
  first | refine E_aload_n d_Re_write_16 rfl ?_ | refine E_aload_nN d_Re_write_16 rfl ?_
  refine E_getI d_Re_write_17 gf_Re_35 (by exact hG.s (by decide) rfl) (by exact z1) ?_
  refine E_iload_n d_Re_write_20 rfl ?_
  refine E_SN3 (sp_TP_put (hG.s (k := 230) (by decide) rfl) (by decide) hb) d_Re_write_21 nl_Re_119 cb_TP_put cs_TP_put ⟨by decide, by decide⟩ rfl (Nat.le_of_ble_eq_true rfl) (Nat.le_of_ble_eq_true rfl) (kV fun M1 hc => ?_)
  subst hc
  first | refine E_aload_n d_Re_write_24 rfl ?_ | refine E_aload_nN d_Re_write_24 rfl ?_
  refine E_dup d_Re_write_25 rfl ?_
  refine E_getI d_Re_write_26 gf_Re_35 (by exact hG.s (by decide) rfl) (by exact z2) ?_
  refine E_iconst (v := nI 1) d_Re_write_29 rfl ?_
  first | (with_reducible refine E_isN2 ?_; refine E_iaddN d_Re_write_30 ?_) | refine E_iadd d_Re_write_30 ?_
  refine E_putI d_Re_write_31 gf_Re_35 (by exact hG.s (by decide) rfl) rfl rfl ?_
  refine E_retV d_Re_write_34 rfl ?_
  exact ⟨ok, okc, okk, hX⟩
theorem FS.fo {f p : Nat} {J A : Nat → Prop} {M1 : Mem} (h : FS l f p M) (g : Fo 225 J A M M1) (hj : ¬ J 16) (hj2 : ¬ J 17) (ha : ∀ a, A a → a < 222 ∨ 224 < a) : FS l f p M1 := ⟨h.1.fo g, h.2.1.fo g (by decide) ha, (g.2.2.1 16 hj).trans h.2.2.1, (g.2.2.1 17 hj2).trans h.2.2.2.1, h.2.2.2.2.1, h.2.2.2.2.2⟩
theorem sp_Re_writeF (hG : GC G) {f p : Nat} {x y : Int32} (h : FS l f p M) : E 1 0 0 Y_Re_write 0 [some (.ref 225), some (.int x), some (.int y)] [] G M (QV G fun M' => FS l f p M' ∧ Fo 225 J7 AR M M') := by
  have hR := h.1
  have st : ∀ {M1 M2 : Mem} {a : Nat}, AR a → Fo 225 J7 AR M M1 → mR M2 = mR M1 ∧ mL M2 = mL M1 ∧ (∀ c, c ≠ a → mI M2 c = mI M1 c) → Fo 225 J7 AR M M2 := fun {M1 M2 a} ha hX hc => hX.tr ⟨hc.1, fun c h1 h2 => hc.2.2 c (fun e => h2 (by rw [e]; exact ha)), fun j _ => by rw [hc.2.2 225 (by unfold AR at ha; omega)], hc.2.1⟩
  have fin : ∀ M2, Fo 225 J7 AR M M2 → ∀ z, FS l f p (wI M2 225 7 z) ∧ Fo 225 J7 AR M (wI M2 225 7 z) := fun M2 hX z => by
    have h2 := hX.wI (j := 7) (x := z) rfl
    exact ⟨h.fo h2 (by unfold J7; omega) (by unfold J7; omega) (fun _ => AR.o), h2⟩
  first | refine E_aload_n d_Re_write_0 rfl ?_ | refine E_aload_nN d_Re_write_0 rfl ?_
  refine E_getR d_Re_write_1 gf_Re_21 (by exact hG.s (by decide) rfl) (by exact hR.o rfl) ?_
  first | refine E_aload_n d_Re_write_4 rfl ?_ | refine E_aload_nN d_Re_write_4 rfl ?_
  refine E_getI d_Re_write_5 gf_Re_35 (by exact hG.s (by decide) rfl) (by rfl) ?_
  refine E_iload_n d_Re_write_8 rfl ?_
  refine E_SN3 (sp_TP_putG (hG.s (k := 229) (by decide) rfl) (by decide)) d_Re_write_9 nl_Re_119 cb_TP_put cs_TP_put ⟨by decide, by decide⟩ rfl (Nat.le_of_ble_eq_true rfl) (Nat.le_of_ble_eq_true rfl) (kV fun M1 hc => ?_)
  have x1 := st (Or.inl rfl) Fo.rf hc; clear hR; have hR := h.1.fo x1
  first | refine E_aload_n d_Re_write_12 rfl ?_ | refine E_aload_nN d_Re_write_12 rfl ?_
  refine E_getR d_Re_write_13 gf_Re_24 (by exact hG.s (by decide) rfl) (by exact hR.o rfl) ?_
  first | refine E_aload_n d_Re_write_16 rfl ?_ | refine E_aload_nN d_Re_write_16 rfl ?_
  refine E_getI d_Re_write_17 gf_Re_35 (by exact hG.s (by decide) rfl) (by rfl) ?_
  refine E_iload_n d_Re_write_20 rfl ?_
  refine E_SN3 (sp_TP_putG (hG.s (k := 230) (by decide) rfl) (by decide)) d_Re_write_21 nl_Re_119 cb_TP_put cs_TP_put ⟨by decide, by decide⟩ rfl (Nat.le_of_ble_eq_true rfl) (Nat.le_of_ble_eq_true rfl) (kV fun M1 hc => ?_)
  have x2 := st (Or.inr rfl) x1 hc; clear hR; have hR := h.1.fo x2
  first | refine E_aload_n d_Re_write_24 rfl ?_ | refine E_aload_nN d_Re_write_24 rfl ?_
  refine E_dup d_Re_write_25 rfl ?_
  refine E_getI d_Re_write_26 gf_Re_35 (by exact hG.s (by decide) rfl) (by rfl) ?_
  refine E_iconst (v := nI 1) d_Re_write_29 rfl ?_
  first | (with_reducible refine E_isN2 ?_; refine E_iaddN d_Re_write_30 ?_) | refine E_iadd d_Re_write_30 ?_
  refine E_putI d_Re_write_31 gf_Re_35 (by exact hG.s (by decide) rfl) rfl rfl ?_
  refine E_retV d_Re_write_34 rfl ?_
  exact fin _ x2 _
end RDc
