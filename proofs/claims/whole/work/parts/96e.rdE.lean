section RDe
variable {G : Geo} {M : Mem} {l : List Nat} {sw : Nat}
theorem PR.k {k b f : Nat} {M1 M2 : Mem} (hX : Fo 225 JR AR M M1) (h : FS l f k M2) (hY : Fo 225 J2 An M1 M2) : PR l sw (rF f k) b M M2 := PR.fl h (hX.tr hY.j2)
theorem ep_Re_readComparison (hG : GC G) (h3 : l.length ≤ 300) {d o : Nat} {g : Nat → Nat → Res} (hg : EP Y_Re_readSum [some (.ref 225), some (.int (nI o)), none, none] G l sw d g) (hgd : GdF (SS l) g) : EP Y_Re_readComparison [some (.ref 225), some (.int (nI o)), none] G l sw (d + 3) (cmpR (SS l) g) := by
  intro k b M h hb
  have hgc := hg k b M h hb
  have hr := hgd k b
  unfold cmpR
  generalize g k b = r at *
  have K : ∀ M1, PR l sw r b M M1 → E (d + 3) 0 0 Y_Re_readComparison 5 [some (.ref 225), some (.int (nI o)), none] [] G M1 (QV G fun M' => PR l sw (if r.f ≠ 0 then r else if ¬ (26 ≤ SS l r.k ∧ SS l r.k ≤ 31) then rF 1 r.k else addR r (g (r.k + 1) (b + r.cc.length)) (cmO (SS l r.k)) (SS l r.k)) b M M') := by
    intro M1 hP
    by_cases h0 : r.f ≠ 0
    · rw [if_pos h0]
      have hf := hP.2.2 h0
      have hR := hf.1
      have hf0 := hf.2.2.2.2.1
      have hf6 := hf.2.2.2.2.2
      first | refine E_aload_n d_Re_readComparison_5 rfl ?_ | refine E_aload_nN d_Re_readComparison_5 rfl ?_
      refine E_getI d_Re_readComparison_6 gf_Re_61 (by exact hG.s (by decide) rfl) (by rfl) ?_
      refine E_istore_2 d_Re_readComparison_9 rfl ?_
      first | refine E_aload_n d_Re_readComparison_10 rfl ?_ | refine E_aload_nN d_Re_readComparison_10 rfl ?_
      refine E_getI d_Re_readComparison_11 gf_Re_44 (by exact hG.s (by decide) rfl) (by exact hf.2.2.1) ?_
      first | (with_reducible refine E_isP ?_; refine E_if_ne 24 d_Re_readComparison_14 rfl (pb_1 fun h14 => ?_) (pb_0 fun h14 => ?_)) | (with_reducible refine E_isN1 ?_; refine E_if_ne 24 d_Re_readComparison_14 rfl (nz_ne fun h14 => ?_) (nz_eq (by omega) fun h14 => ?_)) | refine E_if_ne 24 d_Re_readComparison_14 rfl (fun h14 => ?_) (fun h14 => ?_)
      rotate_left
      · exfalso; omega
      first | refine E_aload_n d_Re_readComparison_24 rfl ?_ | refine E_aload_nN d_Re_readComparison_24 rfl ?_
      refine E_iconst (v := nI 1) d_Re_readComparison_25 rfl ?_
      refine E_V1 (sp_Re_failF hG hf) d_Re_readComparison_26 ml_Re_108 cb_Re_fail cv_Re_fail (by exact hG.s (by decide) rfl) ⟨by decide, rfl⟩ ⟨by omega, by decide⟩ rfl (Nat.le_of_ble_eq_true rfl) (Nat.le_of_ble_eq_true rfl) (kV fun M1 hc => ?_)
      subst hc
      refine E_retV d_Re_readComparison_29 rfl ?_
      exact hP
    · rw [if_neg h0]
      have h0 := Decidable.not_not.mp h0
      have hs := (hP.2.1 h0).1
      have hR := hs.R
      have hsr := SS_rg l r.k
      by_cases h1 : ¬ (26 ≤ SS l r.k ∧ SS l r.k ≤ 31)
      · rw [if_pos h1]
        first | refine E_aload_n d_Re_readComparison_5 rfl ?_ | refine E_aload_nN d_Re_readComparison_5 rfl ?_
        refine E_getI d_Re_readComparison_6 gf_Re_61 (by exact hG.s (by decide) rfl) (by exact hs.s) ?_
        refine E_istore_2 d_Re_readComparison_9 rfl ?_
        first | refine E_aload_n d_Re_readComparison_10 rfl ?_ | refine E_aload_nN d_Re_readComparison_10 rfl ?_
        refine E_getI d_Re_readComparison_11 gf_Re_44 (by exact hG.s (by decide) rfl) (by exact hs.f) ?_
        first | (with_reducible refine E_isP ?_; refine E_if_ne 24 d_Re_readComparison_14 rfl (pb_1 fun h14 => ?_) (pb_0 fun h14 => ?_)) | (with_reducible refine E_isN1 ?_; refine E_if_ne 24 d_Re_readComparison_14 rfl (nz_ne fun h14 => ?_) (nz_eq (by omega) fun h14 => ?_)) | refine E_if_ne 24 d_Re_readComparison_14 rfl (fun h14 => ?_) (fun h14 => ?_)
        · exfalso; omega
        refine E_iload_n d_Re_readComparison_17 rfl ?_
        refine E_S1 (sp_Sg_isComparing hsr) d_Re_readComparison_18 ml_Re_176 cb_Sg_isComparing cs_Sg_isComparing ⟨by omega, by decide⟩ rfl (Nat.le_of_ble_eq_true rfl) (Nat.le_of_ble_eq_true rfl) (kI fun r1 M1 hc => ?_)
        obtain ⟨rfl, rfl⟩ := hc
        first | (with_reducible refine E_isP ?_; refine E_if_ne 30 d_Re_readComparison_21 rfl (pb_1 fun h21 => ?_) (pb_0 fun h21 => ?_)) | (with_reducible refine E_isN1 ?_; refine E_if_ne 30 d_Re_readComparison_21 rfl (nz_ne fun h21 => ?_) (nz_eq (by omega) fun h21 => ?_)) | refine E_if_ne 30 d_Re_readComparison_21 rfl (fun h21 => ?_) (fun h21 => ?_)
        · exfalso; exact h1 h21
        first | refine E_aload_n d_Re_readComparison_24 rfl ?_ | refine E_aload_nN d_Re_readComparison_24 rfl ?_
        refine E_iconst (v := nI 1) d_Re_readComparison_25 rfl ?_
        refine E_V1 (sp_Re_fail (f := 1) hG hs h3 (by decide) (by decide)) d_Re_readComparison_26 ml_Re_108 cb_Re_fail cv_Re_fail (by exact hG.s (by decide) rfl) ⟨by decide, rfl⟩ ⟨by omega, by decide⟩ rfl (Nat.le_of_ble_eq_true rfl) (Nat.le_of_ble_eq_true rfl) (kV fun M1 hc => ?_)
        skip
        refine E_retV d_Re_readComparison_29 rfl ?_
        exact PR.k hP.1 hc.1 hc.2
      · rw [if_neg h1]
        have h1 := Decidable.not_not.mp h1
        obtain ⟨c1, c2, c3⟩ := hr.2.2.2 h0
        have hgq := hgd (r.k + 1) (b + r.cc.length)
        have hgc2 := fun M' (h : RS l sw (r.k + 1) (b + r.cc.length) M') => hg (r.k + 1) (b + r.cc.length) M' h (by omega)
        generalize g (r.k + 1) (b + r.cc.length) = q at *
        have K2 : ∀ M2 M3, Fo 225 JR AR M1 M2 → kpB (b + r.cc.length) M1 M2 → PR l sw q (b + r.cc.length) M2 M3 → E (d + 3) 0 0 Y_Re_readComparison 39 [some (.ref 225), some (.int (nI o)), some (.int (nI (SS l r.k)))] [] G M3 (QV G fun M' => PR l sw (addR r q (cmO (SS l r.k)) (SS l r.k)) b M M') := by
          intro M2 M3 hA hk hq
          obtain ⟨p1, p2, p3, p4⟩ := hP.ad (o := cmO (SS l r.k)) (s := SS l r.k) h0 hA hk hq
          clear hs hR
          by_cases q0 : q.f = 0
          · obtain ⟨d1, d2, d3⟩ := hgq.2.2.2 q0
            have hs2 := p1 q0
            have hvl := hs2.v.le
            first | refine E_aload_n d_Re_readComparison_39 rfl ?_ | refine E_aload_nN d_Re_readComparison_39 rfl ?_
            refine E_iload_n d_Re_readComparison_40 rfl ?_
            refine E_iconst (v := nI 0) d_Re_readComparison_41 rfl ?_
            refine E_V2 (sp_Re_write hG hs2 (by omega)) d_Re_readComparison_42 ml_Re_142 cb_Re_write cv_Re_write (by exact hG.s (by decide) rfl) ⟨by decide, rfl⟩ ⟨by omega, by decide⟩ rfl (Nat.le_of_ble_eq_true rfl) (Nat.le_of_ble_eq_true rfl) (kV fun M1 hc => ?_)
            have p5 := p3 _ q0 hc
            refine E_retV d_Re_readComparison_45 rfl ?_
            exact p5
          · first | refine E_aload_n d_Re_readComparison_39 rfl ?_ | refine E_aload_nN d_Re_readComparison_39 rfl ?_
            refine E_iload_n d_Re_readComparison_40 rfl ?_
            refine E_iconst (v := nI 0) d_Re_readComparison_41 rfl ?_
            refine E_V2 (sp_Re_writeF hG (p2 q0)) d_Re_readComparison_42 ml_Re_142 cb_Re_write cv_Re_write (by exact hG.s (by decide) rfl) ⟨by decide, rfl⟩ ⟨by omega, by decide⟩ rfl (Nat.le_of_ble_eq_true rfl) (Nat.le_of_ble_eq_true rfl) (kV fun M1 hc => ?_)
            have p5 := p4 _ q0 hc
            refine E_retV d_Re_readComparison_45 rfl ?_
            exact p5
        first | refine E_aload_n d_Re_readComparison_5 rfl ?_ | refine E_aload_nN d_Re_readComparison_5 rfl ?_
        refine E_getI d_Re_readComparison_6 gf_Re_61 (by exact hG.s (by decide) rfl) (by exact hs.s) ?_
        refine E_istore_2 d_Re_readComparison_9 rfl ?_
        first | refine E_aload_n d_Re_readComparison_10 rfl ?_ | refine E_aload_nN d_Re_readComparison_10 rfl ?_
        refine E_getI d_Re_readComparison_11 gf_Re_44 (by exact hG.s (by decide) rfl) (by exact hs.f) ?_
        first | (with_reducible refine E_isP ?_; refine E_if_ne 24 d_Re_readComparison_14 rfl (pb_1 fun h14 => ?_) (pb_0 fun h14 => ?_)) | (with_reducible refine E_isN1 ?_; refine E_if_ne 24 d_Re_readComparison_14 rfl (nz_ne fun h14 => ?_) (nz_eq (by omega) fun h14 => ?_)) | refine E_if_ne 24 d_Re_readComparison_14 rfl (fun h14 => ?_) (fun h14 => ?_)
        · exfalso; omega
        refine E_iload_n d_Re_readComparison_17 rfl ?_
        refine E_S1 (sp_Sg_isComparing hsr) d_Re_readComparison_18 ml_Re_176 cb_Sg_isComparing cs_Sg_isComparing ⟨by omega, by decide⟩ rfl (Nat.le_of_ble_eq_true rfl) (Nat.le_of_ble_eq_true rfl) (kI fun r1 M1 hc => ?_)
        obtain ⟨rfl, rfl⟩ := hc
        first | (with_reducible refine E_isP ?_; refine E_if_ne 30 d_Re_readComparison_21 rfl (pb_1 fun h21 => ?_) (pb_0 fun h21 => ?_)) | (with_reducible refine E_isN1 ?_; refine E_if_ne 30 d_Re_readComparison_21 rfl (nz_ne fun h21 => ?_) (nz_eq (by omega) fun h21 => ?_)) | refine E_if_ne 30 d_Re_readComparison_21 rfl (fun h21 => ?_) (fun h21 => ?_)
        rotate_left
        · exfalso; exact h21 h1
        first | refine E_aload_n d_Re_readComparison_30 rfl ?_ | refine E_aload_nN d_Re_readComparison_30 rfl ?_
        refine E_V0 (sp_Re_advance hG hs h3 (by omega)) d_Re_readComparison_31 ml_Re_58 cb_Re_advance cv_Re_advance (by exact hG.s (by decide) rfl) ⟨by decide, rfl⟩ ⟨by omega, by decide⟩ rfl (Nat.le_of_ble_eq_true rfl) (Nat.le_of_ble_eq_true rfl) (kV fun M1 hc => ?_)
        have p6 := hc
        first | refine E_aload_n d_Re_readComparison_34 rfl ?_ | refine E_aload_nN d_Re_readComparison_34 rfl ?_
        refine E_iload_n d_Re_readComparison_35 rfl ?_
        refine E_V1 (hgc2 _ p6.1) d_Re_readComparison_36 ml_Re_129 cb_Re_readSum cv_Re_readSum (by exact hG.s (by decide) rfl) ⟨by decide, rfl⟩ ⟨by omega, by decide⟩ rfl (Nat.le_of_ble_eq_true rfl) (Nat.le_of_ble_eq_true rfl) (kV fun M1 hc => ?_)
        have p7 := hc
        exact K2 _ _ p6.2.j1 (kpB.an p6.2) p7
  first | refine E_aload_n d_Re_readComparison_0 rfl ?_ | refine E_aload_nN d_Re_readComparison_0 rfl ?_
  refine E_iload_n d_Re_readComparison_1 rfl ?_
  refine E_V1 (hgc) d_Re_readComparison_2 ml_Re_129 cb_Re_readSum cv_Re_readSum (by exact hG.s (by decide) rfl) ⟨by decide, rfl⟩ ⟨by omega, by decide⟩ rfl (Nat.le_of_ble_eq_true rfl) (Nat.le_of_ble_eq_true rfl) (kV fun M1 hc => ?_)
  skip
  exact K _ hc
theorem PR.un {r : Res} {k b o s : Nat} {M1 M2 : Mem} (hA : Fo 225 JR AR M M1) (hk : kpB b M M1) (h : PR l sw r b M1 M2) :
    (r.f = 0 → RS l sw r.k (b + r.cc.length) M2) ∧ (r.f ≠ 0 → FS l r.f r.k M2) ∧ (∀ M4, r.f = 0 → RS l sw r.k (b + r.cc.length + 1) M4 ∧ cdAt [(s, 0)] (b + r.cc.length) M4 ∧ kpB (b + r.cc.length) M2 M4 ∧ Fo 225 J7 AR M2 M4 → PR l sw (unR r o s) b M M4) ∧ (∀ M4, r.f ≠ 0 → FS l r.f r.k M4 ∧ Fo 225 J7 AR M2 M4 → PR l sw (unR r o s) b M M4) := by
  obtain ⟨x1, x2, x3⟩ := h
  refine ⟨fun q => (x2 q).1, x3, fun M4 q0 hw => ?_, fun M4 q0 hw => ?_⟩
  · obtain ⟨z1, z2, z3⟩ := x2 q0
    obtain ⟨w1, w2, w3, w4⟩ := hw
    rw [unR_ok q0]
    refine ⟨(hA.tr x1).tr w4.j7, fun _ => ⟨?_, ?_, ?_⟩, fun e => absurd rfl e⟩
    · have el : b + (r.cc ++ [((s : Nat), (0 : Nat))] : List (Nat × Nat)).length = b + r.cc.length + 1 := by simp only [List.length_append, List.length_cons, List.length_nil]; omega
      exact Eq.mpr (congrArg (fun n => RS l sw r.k n M4) el) w1
    · show cdAt (r.cc ++ [(s, 0)]) b M4
      exact (z2.kp w3 (Nat.le_refl _)).app w2
    · exact (hk.tr z3).tr (w3.le (Nat.le_add_right _ _))
  · have e : unR r o s = r := if_pos q0
    rw [e]
    exact ⟨(hA.tr x1).tr hw.2.j7, fun z => absurd z q0, fun _ => hw.1⟩
theorem ep_Re_readAsk0 (hG : GC G) (h3 : l.length ≤ 300) {d : Nat} {g : Nat → Nat → Res} (hg : EP Y_Re_readComparison [some (.ref 225), some (.int (nI 8)), none] G l sw d g) : EP Y_Re_readAsk [some (.ref 225), some (.int (nI 8))] G l sw (d + 3) (fun k b => if SS l k = 18 then rF 3 k else g k b) := by
  intro k b M h hb
  have hR := h.R
  have hsr := SS_rg l k
  show E _ _ _ _ _ _ _ _ _ (QV G fun M' => PR l sw (if SS l k = 18 then rF 3 k else g k b) b M M')
  by_cases h1 : SS l k = 18
  · rw [if_pos h1]
    first | refine E_aload_n d_Re_readAsk_0 rfl ?_ | refine E_aload_nN d_Re_readAsk_0 rfl ?_
    refine E_getI d_Re_readAsk_1 gf_Re_61 (by exact hG.s (by decide) rfl) (by exact h.s) ?_
    refine E_bipush (v := nI 18) d_Re_readAsk_4 (by decide) ?_
    first | (with_reducible refine E_isN2 ?_; refine E_icmp_eq 17 d_Re_readAsk_6 rfl (nb_eq (by omega) (by omega) fun h6 => ?_) (nb_ne fun h6 => ?_)) | refine E_icmp_eq 17 d_Re_readAsk_6 rfl (fun h6 => ?_) (fun h6 => ?_)
    rotate_left
    · exfalso; omega
    refine E_iload_n d_Re_readAsk_17 rfl ?_
    refine E_bipush (v := nI 8) d_Re_readAsk_18 (by decide) ?_
    first | (with_reducible refine E_isN2 ?_; refine E_icmp_lt 31 d_Re_readAsk_20 rfl (nb_lt (by omega) (by omega) fun h20 => ?_) (nb_nlt (by omega) (by omega) fun h20 => ?_)) | refine E_icmp_lt 31 d_Re_readAsk_20 rfl (fun h20 => ?_) (fun h20 => ?_)
    · exfalso; omega
    first | refine E_aload_n d_Re_readAsk_23 rfl ?_ | refine E_aload_nN d_Re_readAsk_23 rfl ?_
    refine E_iconst (v := nI 3) d_Re_readAsk_24 rfl ?_
    refine E_V1 (sp_Re_fail (f := 3) hG h h3 (by decide) (by decide)) d_Re_readAsk_25 ml_Re_108 cb_Re_fail cv_Re_fail (by exact hG.s (by decide) rfl) ⟨by decide, rfl⟩ ⟨by omega, by decide⟩ rfl (Nat.le_of_ble_eq_true rfl) (Nat.le_of_ble_eq_true rfl) (kV fun M1 hc => ?_)
    skip
    refine E_goto 56 d_Re_readAsk_28 rfl ?_
    refine E_retV d_Re_readAsk_56 rfl ?_
    exact PR.k Fo.rf hc.1 hc.2
  · rw [if_neg h1]
    have hgc := hg k b M h hb
    first | refine E_aload_n d_Re_readAsk_0 rfl ?_ | refine E_aload_nN d_Re_readAsk_0 rfl ?_
    refine E_getI d_Re_readAsk_1 gf_Re_61 (by exact hG.s (by decide) rfl) (by exact h.s) ?_
    refine E_bipush (v := nI 18) d_Re_readAsk_4 (by decide) ?_
    first | (with_reducible refine E_isN2 ?_; refine E_icmp_eq 17 d_Re_readAsk_6 rfl (nb_eq (by omega) (by omega) fun h6 => ?_) (nb_ne fun h6 => ?_)) | refine E_icmp_eq 17 d_Re_readAsk_6 rfl (fun h6 => ?_) (fun h6 => ?_)
    · exfalso; omega
    first | refine E_aload_n d_Re_readAsk_9 rfl ?_ | refine E_aload_nN d_Re_readAsk_9 rfl ?_
    refine E_iload_n d_Re_readAsk_10 rfl ?_
    refine E_V1 (hgc) d_Re_readAsk_11 ml_Re_173 cb_Re_readComparison cv_Re_readComparison (by exact hG.s (by decide) rfl) ⟨by decide, rfl⟩ ⟨by omega, by decide⟩ rfl (Nat.le_of_ble_eq_true rfl) (Nat.le_of_ble_eq_true rfl) (kV fun M1 hc => ?_)
    skip
    refine E_goto 56 d_Re_readAsk_14 rfl ?_
    refine E_retV d_Re_readAsk_56 rfl ?_
    exact hc
theorem ep_Re_readAskS (hG : GC G) (h3 : l.length ≤ 300) {d d' o : Nat} (ho : o < 8) (hd : d' ≤ d) {g a : Nat → Nat → Res} (hg : EP Y_Re_readComparison [some (.ref 225), some (.int (nI o)), none] G l sw d g) (ha : EP Y_Re_readAsk [some (.ref 225), some (.int (nI (o + 1)))] G l sw d' a) (hgd : GdF (SS l) a) : EP Y_Re_readAsk [some (.ref 225), some (.int (nI o))] G l sw (d + 3) (fun k b => if SS l k = 18 then unR (a (k + 1) b) 20 18 else g k b) := by
  intro k b M h hb
  have hR := h.R
  have hsr := SS_rg l k
  show E _ _ _ _ _ _ _ _ _ (QV G fun M' => PR l sw (if SS l k = 18 then unR (a (k + 1) b) 20 18 else g k b) b M M')
  by_cases h1 : SS l k = 18
  · rw [if_pos h1]
    have hgc := fun M' (h : RS l sw (k + 1) b M') => ha (k + 1) b M' h (by omega)
    have hr := hgd (k + 1) b
    generalize a (k + 1) b = r at *
    have K : ∀ M1 M2, Fo 225 JR AR M M1 → kpB b M M1 → PR l sw r b M1 M2 → E (d + 3) 0 0 Y_Re_readAsk 49 [some (.ref 225), some (.int (nI o))] [] G M2 (QV G fun M' => PR l sw (unR r 20 18) b M M') := by
      intro M1 M2 hA hk hq
      obtain ⟨p1, p2, p3, p4⟩ := PR.un (k := k) (o := 20) (s := 18) hA hk hq
      clear hR
      by_cases q0 : r.f = 0
      · obtain ⟨d1, d2, d3⟩ := hr.2.2.2 q0
        have hs2 := p1 q0
        have hvl := hs2.v.le
        first | refine E_aload_n d_Re_readAsk_49 rfl ?_ | refine E_aload_nN d_Re_readAsk_49 rfl ?_
        refine E_bipush (v := nI 18) d_Re_readAsk_50 (by decide) ?_
        refine E_iconst (v := nI 0) d_Re_readAsk_52 rfl ?_
        refine E_V2 (sp_Re_write hG hs2 (by omega)) d_Re_readAsk_53 ml_Re_142 cb_Re_write cv_Re_write (by exact hG.s (by decide) rfl) ⟨by decide, rfl⟩ ⟨by omega, by decide⟩ rfl (Nat.le_of_ble_eq_true rfl) (Nat.le_of_ble_eq_true rfl) (kV fun M1 hc => ?_)
        have p5 := p3 _ q0 hc
        refine E_retV d_Re_readAsk_56 rfl ?_
        exact p5
      · first | refine E_aload_n d_Re_readAsk_49 rfl ?_ | refine E_aload_nN d_Re_readAsk_49 rfl ?_
        refine E_bipush (v := nI 18) d_Re_readAsk_50 (by decide) ?_
        refine E_iconst (v := nI 0) d_Re_readAsk_52 rfl ?_
        refine E_V2 (sp_Re_writeF hG (p2 q0)) d_Re_readAsk_53 ml_Re_142 cb_Re_write cv_Re_write (by exact hG.s (by decide) rfl) ⟨by decide, rfl⟩ ⟨by omega, by decide⟩ rfl (Nat.le_of_ble_eq_true rfl) (Nat.le_of_ble_eq_true rfl) (kV fun M1 hc => ?_)
        have p5 := p4 _ q0 hc
        refine E_retV d_Re_readAsk_56 rfl ?_
        exact p5
    first | refine E_aload_n d_Re_readAsk_0 rfl ?_ | refine E_aload_nN d_Re_readAsk_0 rfl ?_
    refine E_getI d_Re_readAsk_1 gf_Re_61 (by exact hG.s (by decide) rfl) (by exact h.s) ?_
    refine E_bipush (v := nI 18) d_Re_readAsk_4 (by decide) ?_
    first | (with_reducible refine E_isN2 ?_; refine E_icmp_eq 17 d_Re_readAsk_6 rfl (nb_eq (by omega) (by omega) fun h6 => ?_) (nb_ne fun h6 => ?_)) | refine E_icmp_eq 17 d_Re_readAsk_6 rfl (fun h6 => ?_) (fun h6 => ?_)
    rotate_left
    · exfalso; omega
    refine E_iload_n d_Re_readAsk_17 rfl ?_
    refine E_bipush (v := nI 8) d_Re_readAsk_18 (by decide) ?_
    first | (with_reducible refine E_isN2 ?_; refine E_icmp_lt 31 d_Re_readAsk_20 rfl (nb_lt (by omega) (by omega) fun h20 => ?_) (nb_nlt (by omega) (by omega) fun h20 => ?_)) | refine E_icmp_lt 31 d_Re_readAsk_20 rfl (fun h20 => ?_) (fun h20 => ?_)
    rotate_left
    · exfalso; omega
    first | refine E_aload_n d_Re_readAsk_31 rfl ?_ | refine E_aload_nN d_Re_readAsk_31 rfl ?_
    refine E_getI d_Re_readAsk_32 gf_Re_44 (by exact hG.s (by decide) rfl) (by exact h.f) ?_
    first | (with_reducible refine E_isP ?_; refine E_if_ne 56 d_Re_readAsk_35 rfl (pb_1 fun h35 => ?_) (pb_0 fun h35 => ?_)) | (with_reducible refine E_isN1 ?_; refine E_if_ne 56 d_Re_readAsk_35 rfl (nz_ne fun h35 => ?_) (nz_eq (by omega) fun h35 => ?_)) | refine E_if_ne 56 d_Re_readAsk_35 rfl (fun h35 => ?_) (fun h35 => ?_)
    · exfalso; omega
    first | refine E_aload_n d_Re_readAsk_38 rfl ?_ | refine E_aload_nN d_Re_readAsk_38 rfl ?_
    refine E_V0 (sp_Re_advance hG h h3 (by omega)) d_Re_readAsk_39 ml_Re_58 cb_Re_advance cv_Re_advance (by exact hG.s (by decide) rfl) ⟨by decide, rfl⟩ ⟨by omega, by decide⟩ rfl (Nat.le_of_ble_eq_true rfl) (Nat.le_of_ble_eq_true rfl) (kV fun M1 hc => ?_)
    have p6 := hc
    first | refine E_aload_n d_Re_readAsk_42 rfl ?_ | refine E_aload_nN d_Re_readAsk_42 rfl ?_
    refine E_iload_n d_Re_readAsk_43 rfl ?_
    refine E_iconst (v := nI 1) d_Re_readAsk_44 rfl ?_
    first | (with_reducible refine E_isN2 ?_; refine E_iaddN d_Re_readAsk_45 ?_) | refine E_iadd d_Re_readAsk_45 ?_
    refine E_V1 (hgc _ p6.1) d_Re_readAsk_46 ml_Re_170 cb_Re_readAsk cv_Re_readAsk (by exact hG.s (by decide) rfl) ⟨by decide, rfl⟩ ⟨by omega, by decide⟩ rfl (Nat.le_of_ble_eq_true rfl) (Nat.le_of_ble_eq_true rfl) (kV fun M1 hc => ?_)
    have p7 := hc
    exact K _ _ p6.2.j1 (kpB.an p6.2) p7
  · rw [if_neg h1]
    have hgc := hg k b M h hb
    first | refine E_aload_n d_Re_readAsk_0 rfl ?_ | refine E_aload_nN d_Re_readAsk_0 rfl ?_
    refine E_getI d_Re_readAsk_1 gf_Re_61 (by exact hG.s (by decide) rfl) (by exact h.s) ?_
    refine E_bipush (v := nI 18) d_Re_readAsk_4 (by decide) ?_
    first | (with_reducible refine E_isN2 ?_; refine E_icmp_eq 17 d_Re_readAsk_6 rfl (nb_eq (by omega) (by omega) fun h6 => ?_) (nb_ne fun h6 => ?_)) | refine E_icmp_eq 17 d_Re_readAsk_6 rfl (fun h6 => ?_) (fun h6 => ?_)
    · exfalso; omega
    first | refine E_aload_n d_Re_readAsk_9 rfl ?_ | refine E_aload_nN d_Re_readAsk_9 rfl ?_
    refine E_iload_n d_Re_readAsk_10 rfl ?_
    refine E_V1 (hgc) d_Re_readAsk_11 ml_Re_173 cb_Re_readComparison cv_Re_readComparison (by exact hG.s (by decide) rfl) ⟨by decide, rfl⟩ ⟨by omega, by decide⟩ rfl (Nat.le_of_ble_eq_true rfl) (Nat.le_of_ble_eq_true rfl) (kV fun M1 hc => ?_)
    skip
    refine E_goto 56 d_Re_readAsk_14 rfl ?_
    refine E_retV d_Re_readAsk_56 rfl ?_
    exact hc
theorem RS.pt {k b i : Nat} {v : Int32} (h : RS l sw k b M) : RS l sw k b (wI M 230 i v) ∧ Fo 225 J7 AR M (wI M 230 i v) := by
  have hX : Fo 225 J7 AR M (wI M 230 i v) := Fo.rf.wJ (by decide) (Or.inr rfl)
  have e : mI (wI M 230 i v) 225 = mI M 225 := mI_ne (by decide)
  exact ⟨⟨h.R.fo hX, h.T.fo hX (by decide) (fun _ => AR.o), h.v, by rw [e]; exact h.n, by rw [e]; exact h.s, by rw [e]; exact h.w, by rw [e]; exact h.f, by rw [e]; exact h.z, by rw [e]; exact h.law, by rw [e]; exact h.p⟩, hX⟩
theorem cdAt.pt {cc : Cd} {b i : Nat} {v : Int32} (h : cdAt cc b M) (hi : i < b ∨ b + cc.length ≤ i) : cdAt cc b (wI M 230 i v) := fun j hj => by
  rw [mI_wx (by decide), mI_wa, if_neg (by omega)]
  exact h j hj
theorem cdAt.pu {w m i v : Nat} (h : cdAt [(w, m)] i M) : cdAt [(w, v)] i (wI M 230 i (nI v)) := fun j hj => by
  have e : j = 0 := by have : j < 1 := hj; omega
  subst e
  rw [mI_wx (by decide), mI_wa, if_pos (Nat.add_zero i)]
  exact ⟨(h 0 Nat.zero_lt_one).1, rfl⟩
theorem kpB.pt {b i : Nat} {v : Int32} (hi : b ≤ i) : kpB b M (wI M 230 i v) := fun j hj => by
  rw [mI_wx (by decide), mI_wa, if_neg (by omega)]
  exact ⟨rfl, rfl⟩
end RDe
