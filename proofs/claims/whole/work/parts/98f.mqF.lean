section MQf
variable {M M0 : Mem} {l : List Nat} {k t s w0 : Nat} {p : List Nat} {cm : Cd}
theorem mpS_1 : ∀ (p : List Nat) (c : Cd), (mpS 1 p c).1 = mpL p := by
  intro p
  induction p with
  | nil => intro c; rfl
  | cons o p ih =>
    intro c
    rw [mpS, mpL]
    by_cases q : 40 ≤ o
    · have e : mpR o = 0 := if_pos q
      rw [if_neg (by omega), if_pos q]
    · have := mpR_01 q
      rw [if_pos (by omega), if_neg q]
      exact ih _
theorem mpB_rg {sg : Nat} (h : mpB p sg ≠ 0) : ((6 ≤ mpB p sg ∧ mpB p sg ≤ 15) ∨ mpB p sg = 21 ∨ mpB p sg = 22) ∧ sg ≠ 40 := by
  unfold mpB at *
  by_cases c1 : 32 ≤ sg ∧ sg ≤ 35
  · rw [if_pos c1]; omega
  · rw [if_neg c1] at *
    by_cases c2 : mpO p ≠ 41
    · rw [if_pos c2] at h; exact absurd rfl h
    · rw [if_neg c2] at *
      by_cases c3 : mpC p = false
      · rw [if_pos c3] at *
        by_cases c4 : 26 ≤ sg ∧ sg ≤ 31
        · rw [if_pos c4]; have := cmO_rg c4; omega
        · rw [if_neg c4] at h; exact absurd rfl h
      · rw [if_neg c3] at *
        by_cases c5 : sg = 17
        · rw [if_pos c5]; omega
        · rw [if_neg c5] at *
          by_cases c6 : sg = 16
          · rw [if_pos c6]; omega
          · rw [if_neg c6] at h; exact absurd rfl h
theorem mpR_rg {o : Nat} (h : (6 ≤ o ∧ o ≤ 15) ∨ o = 21 ∨ o = 22) : 1 ≤ mpR o ∧ mpR o ≤ 6 ∧ mpR o ≠ 7 ∧ o ≠ 20 ∧ o < 40 := by
  rcases (show o = 6 ∨ o = 7 ∨ o = 8 ∨ o = 9 ∨ o = 10 ∨ o = 11 ∨ o = 12 ∨ o = 13 ∨ o = 14 ∨ o = 15 ∨ o = 21 ∨ o = 22 by omega) with rfl | rfl | rfl | rfl | rfl | rfl | rfl | rfl | rfl | rfl | rfl | rfl <;> decide
theorem mpT_rg {o sg : Nat} (h : mpT o p sg ≠ 0) : (mpT o p sg = 1 ∨ mpT o p sg = 43 ∨ mpT o p sg = 44) ∧ sg ≠ 40 ∧ 40 ≤ o ∧ o ≤ 43 := by
  unfold mpT at *
  by_cases c1 : o = 40
  · rw [if_pos c1] at *
    by_cases q : sg = 37
    · rw [if_pos q]; omega
    · rw [if_neg q] at h; exact absurd rfl h
  · rw [if_neg c1] at *
    by_cases c2 : o = 41
    · rw [if_pos c2] at *
      by_cases q : sg = 13 ∧ mpC p = true
      · rw [if_pos q]; omega
      · rw [if_neg q] at h; exact absurd rfl h
    · rw [if_neg c2] at *
      by_cases c3 : o = 42
      · rw [if_pos c3] at *
        by_cases q : sg = 14
        · rw [if_pos q]; omega
        · rw [if_neg q] at h; exact absurd rfl h
      · rw [if_neg c3] at *
        by_cases c4 : o = 43
        · rw [if_pos c4] at *
          by_cases q : sg = 15
          · rw [if_pos q]; omega
          · rw [if_neg q] at h; exact absurd rfl h
        · rw [if_neg c4] at h; exact absurd rfl h
def MOb (l : List Nat) (t s w0 : Nat) (M0 : Mem) (g : Nat × MpG) (r : Int32) (M M' : Mem) : Prop := (g.1 = 0 → r = nI 1 ∧ MSg l t s w0 M0 g.2 M') ∧ (g.1 ≠ 0 → r = nI 0 ∧ M' = M)
theorem bh_bi (h : MSg l t s w0 M0 (k, p, true, cm) M) (hL : p.length ≤ 150) {o : Nat} (ho : mpB p (SS l k) = o) (h0 : o ≠ 0) : E 4 0 0 Y_TM_behindOne 0 [some (.ref 0), none, none, none] [] GM M (QI GM fun r M' => MOb l t s w0 M0 (0, k + 1, o :: (mpS (mpJ o) p cm).1, false, (mpS (mpJ o) p cm).2) r M M') := by
  have hk3 := h.k3
  obtain ⟨hE, hK, hv, hP, h18, hw, hN⟩ := id h
  have hE : EmS l t s w0 M0 cm M := hE
  have hK : TKM l k M := hK
  have hv : vk l k := hv
  have hP : PS M p := hP
  have hN : mpN p ≤ 8 := hN
  have hw : w0 + cm.length + p.length ≤ k := hw
  have hk3 : k ≤ 300 := hk3.1
  have hR := hE.R
  obtain ⟨hB, h40⟩ := mpB_rg (show mpB p (SS l k) ≠ 0 by omega)
  rw [ho] at hB
  obtain ⟨r1, r6, r7, r20, r40⟩ := mpR_rg hB
  have bt := sp_TM_betweenOf hR hK hP (by omega)
  rw [ho, wO_t h0] at bt
  have hJ : 1 ≤ mpJ o ∧ mpJ o ≤ 7 := by unfold mpJ; split <;> omega
  have st := sp_TM_settle hJ hE hP (by omega) (by omega)
  obtain ⟨a1, a2, a3⟩ := mpS_len (mpJ o) p cm
  generalize hJd : mpJ o = j at *
  have hj4 : mpR o = 4 → j = 5 := fun z => by rw [← hJd]; exact if_pos z
  have hjn : mpR o ≠ 4 → j = mpR o := fun z => by rw [← hJd]; exact if_neg z
  generalize hq : mpS j p cm = q at *
  have m1 : ∀ M1, EmS l t s w0 M0 q.2 M1 ∧ PS M1 q.1 ∧ Fo 0 JSt A3' M M1 → E 4 0 0 Y_TM_behindOne 29 [some (.ref 0), some (.int (nI o)), none, none] [] GM M1 (QI GM fun r M' => MOb l t s w0 M0 (0, k + 1, o :: q.1, false, q.2) r M M') := by
    intro M1 hc
    obtain ⟨hE1, ⟨p1, p2, p3⟩, x1⟩ := hc
    have hR := hE1.R
    have x3 : Fo 0 (fun j => j = 16 ∨ j = 18) (fun a => a = 5) M1 (wI (wI (wI M1 5 q.1.length (nI o)) 0 16 (nI (q.1.length + 1))) 0 18 (nI 0)) := (((Fo.rf (o := 0) (J := fun j => j = 16 ∨ j = 18) (A := fun a => a = 5)).wJ (b := 5) (by decide) rfl).wI (Or.inl rfl)).wI (Or.inr rfl)
    have hE3 := hE1.cg x3.fx (fun j z => by unfold JP; omega) (fun a z => z)
    have hK3 := (hK.fo x1 (fun j z => by unfold JSt at z; omega)).fo x3 (fun j z => by omega)
    have e16 : mI (wI M1 5 q.1.length (nI o)) 0 16 = nI q.1.length := (mI_wx (by decide)).trans p2
    have hP3 : PS (wI (wI (wI M1 5 q.1.length (nI o)) 0 16 (nI (q.1.length + 1))) 0 18 (nI 0)) (o :: q.1) := by
      refine ⟨PlA.cg (M := wI M1 5 q.1.length (nI o)) ((mI_ne (by decide)).trans (mI_ne (by decide))) _ (PlA.psh rfl (by omega) p1), ?_, ?_⟩
      · rw [mI_wa, if_neg (by decide), mI_wa, if_pos rfl]; rfl
      · rw [mI_wa, if_neg (by decide), mI_wa, if_neg (by decide), mI_wx (by decide), mpN_c r40 r7 r20]; exact p3
    have nx := sp_TM_next hE3.R hE3.T hK3
    have fin : ∀ M4, TKM l (k + 1) M4 ∧ Fx Jn An (wI (wI (wI M1 5 q.1.length (nI o)) 0 16 (nI (q.1.length + 1))) 0 18 (nI 0)) M4 → MSg l t s w0 M0 (k + 1, o :: q.1, false, q.2) M4 := fun M4 hc =>
      ⟨hE3.cg hc.2 (fun j q => by unfold Jn at q; unfold JP; omega) (fun a q => absurd q (fun z => z)), hc.1, hv.s h40, hP3.fo hc.2 (by unfold Jn; omega) (by unfold Jn; omega) (fun z => z), (hc.2.2.2.1 18 (by unfold Jn; omega)).trans (by rw [mI_wa, if_pos rfl]; rfl), by show w0 + q.2.length + (q.1.length + 1) ≤ k + 1; omega, by show mpN (o :: q.1) ≤ 8; rw [mpN_c r40 r7 r20]; omega⟩
    first | refine E_aload_n d_TM_behindOne_29 rfl ?_ | refine E_aload_nN d_TM_behindOne_29 rfl ?_
    refine E_getR (q := 5) d_TM_behindOne_30 gf_TM_29 (by exact ⟨by decide, rfl⟩) (by exact hR _ rfl) ?_
    first | refine E_aload_n d_TM_behindOne_33 rfl ?_ | refine E_aload_nN d_TM_behindOne_33 rfl ?_
    refine E_getI d_TM_behindOne_34 gf_TM_145 (by exact ⟨by decide, rfl⟩) (by exact p2) ?_
    refine E_iload_n d_TM_behindOne_37 rfl ?_
    refine E_iast d_TM_behindOne_38 (by exact ⟨by decide, rfl⟩) (by exact ⟨by with_reducible rfl, by omega, by decide⟩) ?_
    first | refine E_aload_n d_TM_behindOne_39 rfl ?_ | refine E_aload_nN d_TM_behindOne_39 rfl ?_
    refine E_dup d_TM_behindOne_40 rfl ?_
    refine E_getI d_TM_behindOne_41 gf_TM_145 (by exact ⟨by decide, rfl⟩) (by exact e16) ?_
    refine E_iconst (v := nI 1) d_TM_behindOne_44 rfl ?_
    first | (with_reducible refine E_isN2 ?_; refine E_iaddN d_TM_behindOne_45 ?_) | refine E_iadd d_TM_behindOne_45 ?_
    refine E_putI d_TM_behindOne_46 gf_TM_145 (by exact ⟨by decide, rfl⟩) rfl rfl ?_
    first | refine E_aload_n d_TM_behindOne_49 rfl ?_ | refine E_aload_nN d_TM_behindOne_49 rfl ?_
    refine E_iconst (v := nI 0) d_TM_behindOne_50 rfl ?_
    refine E_putZ d_TM_behindOne_51 gf_TM_174 (by exact ⟨by decide, rfl⟩) rfl rfl (by decide) ?_
    first | refine E_aload_n d_TM_behindOne_54 rfl ?_ | refine E_aload_nN d_TM_behindOne_54 rfl ?_
    refine E_V0 (nx) d_TM_behindOne_55 ml_TM_165 cb_TM_nextToken cv_TM_nextToken (by exact ⟨by decide, rfl⟩) ⟨by decide, rfl⟩ ⟨by decide, by decide⟩ rfl (Nat.le_of_ble_eq_true rfl) (Nat.le_of_ble_eq_true rfl) (kV fun M1 hc => ?_)
    skip
    refine E_iconst (v := nI 1) d_TM_behindOne_58 rfl ?_
    refine E_retZ d_TM_behindOne_59 rfl (by first | exact pI_01 _ | decide) ?_
    exact ⟨fun _ => ⟨rfl, fin _ hc⟩, fun z => absurd rfl z⟩
  have rk := sp_TM_rank (G := GM) (M := M) (o := o) (by omega)
  by_cases c4 : mpR o = 4
  · have e := hj4 c4
    subst e
    first | refine E_aload_n d_TM_behindOne_0 rfl ?_ | refine E_aload_nN d_TM_behindOne_0 rfl ?_
    refine E_V0 (bt) d_TM_behindOne_1 ml_TM_197 cb_TM_betweenOf cv_TM_betweenOf (by exact ⟨by decide, rfl⟩) ⟨by decide, rfl⟩ ⟨by decide, by decide⟩ rfl (Nat.le_of_ble_eq_true rfl) (Nat.le_of_ble_eq_true rfl) (kI fun r1 M1 hc => ?_)
    obtain ⟨rfl, rfl⟩ := hc
    refine E_istore_1 d_TM_behindOne_4 rfl ?_
    refine E_iload_n d_TM_behindOne_5 rfl ?_
    first | (with_reducible refine E_isN1 ?_; refine E_if_lt 60 d_TM_behindOne_6 rfl (nz_lt (by omega) fun h6 => ?_) (nz_nlt (by omega) fun h6 => ?_)) | refine E_if_lt 60 d_TM_behindOne_6 rfl (fun h6 => ?_) (fun h6 => ?_)
    · exfalso; omega
    first | refine E_aload_n d_TM_behindOne_9 rfl ?_ | refine E_aload_nN d_TM_behindOne_9 rfl ?_
    refine E_iload_n d_TM_behindOne_10 rfl ?_
    refine E_S1 (rk) d_TM_behindOne_11 ml_TM_148 cb_TM_rank cs_TM_rank ⟨by decide, by decide⟩ rfl (Nat.le_of_ble_eq_true rfl) (Nat.le_of_ble_eq_true rfl) (kI fun r1 M1 hc => ?_)
    obtain ⟨rfl, rfl⟩ := hc
    refine E_iconst (v := nI 4) d_TM_behindOne_14 rfl ?_
    first | (with_reducible refine E_isN2 ?_; refine E_icmp_ne 22 d_TM_behindOne_15 rfl (nb_ne fun h15 => ?_) (nb_eq (by omega) (by omega) fun h15 => ?_)) | refine E_icmp_ne 22 d_TM_behindOne_15 rfl (fun h15 => ?_) (fun h15 => ?_)
    · exfalso; omega
    refine E_iconst (v := nI 5) d_TM_behindOne_18 rfl ?_
    refine E_goto 26 d_TM_behindOne_19 rfl ?_
    refine E_V1 (st) d_TM_behindOne_26 ml_TM_177 cb_TM_settle cv_TM_settle (by exact ⟨by decide, rfl⟩) ⟨by decide, rfl⟩ ⟨by decide, by decide⟩ rfl (Nat.le_of_ble_eq_true rfl) (Nat.le_of_ble_eq_true rfl) (kV fun M1 hc => ?_)
    skip
    exact m1 _ hc
  · have e := hjn c4
    subst e
    first | refine E_aload_n d_TM_behindOne_0 rfl ?_ | refine E_aload_nN d_TM_behindOne_0 rfl ?_
    refine E_V0 (bt) d_TM_behindOne_1 ml_TM_197 cb_TM_betweenOf cv_TM_betweenOf (by exact ⟨by decide, rfl⟩) ⟨by decide, rfl⟩ ⟨by decide, by decide⟩ rfl (Nat.le_of_ble_eq_true rfl) (Nat.le_of_ble_eq_true rfl) (kI fun r1 M1 hc => ?_)
    obtain ⟨rfl, rfl⟩ := hc
    refine E_istore_1 d_TM_behindOne_4 rfl ?_
    refine E_iload_n d_TM_behindOne_5 rfl ?_
    first | (with_reducible refine E_isN1 ?_; refine E_if_lt 60 d_TM_behindOne_6 rfl (nz_lt (by omega) fun h6 => ?_) (nz_nlt (by omega) fun h6 => ?_)) | refine E_if_lt 60 d_TM_behindOne_6 rfl (fun h6 => ?_) (fun h6 => ?_)
    · exfalso; omega
    first | refine E_aload_n d_TM_behindOne_9 rfl ?_ | refine E_aload_nN d_TM_behindOne_9 rfl ?_
    refine E_iload_n d_TM_behindOne_10 rfl ?_
    refine E_S1 (rk) d_TM_behindOne_11 ml_TM_148 cb_TM_rank cs_TM_rank ⟨by decide, by decide⟩ rfl (Nat.le_of_ble_eq_true rfl) (Nat.le_of_ble_eq_true rfl) (kI fun r1 M1 hc => ?_)
    obtain ⟨rfl, rfl⟩ := hc
    refine E_iconst (v := nI 4) d_TM_behindOne_14 rfl ?_
    first | (with_reducible refine E_isN2 ?_; refine E_icmp_ne 22 d_TM_behindOne_15 rfl (nb_ne fun h15 => ?_) (nb_eq (by omega) (by omega) fun h15 => ?_)) | refine E_icmp_ne 22 d_TM_behindOne_15 rfl (fun h15 => ?_) (fun h15 => ?_)
    rotate_left
    · exfalso; omega
    refine E_iload_n d_TM_behindOne_22 rfl ?_
    refine E_S1 (rk) d_TM_behindOne_23 ml_TM_148 cb_TM_rank cs_TM_rank ⟨by decide, by decide⟩ rfl (Nat.le_of_ble_eq_true rfl) (Nat.le_of_ble_eq_true rfl) (kI fun r1 M1 hc => ?_)
    obtain ⟨rfl, rfl⟩ := hc
    refine E_V1 (st) d_TM_behindOne_26 ml_TM_177 cb_TM_settle cv_TM_settle (by exact ⟨by decide, rfl⟩) ⟨by decide, rfl⟩ ⟨by decide, by decide⟩ rfl (Nat.le_of_ble_eq_true rfl) (Nat.le_of_ble_eq_true rfl) (kV fun M1 hc => ?_)
    skip
    exact m1 _ hc
theorem bh_no (h : MSg l t s w0 M0 (k, p, true, cm) M) (hL : p.length ≤ 150) (hB : mpB p (SS l k) = 0) (hT : mpT (mpO p) p (SS l k) = 0) {g : Nat × MpG} (hg : g.1 ≠ 0) (hO : mpO p = 0 ∨ (40 ≤ mpO p ∧ mpO p < 100)) : E 4 0 0 Y_TM_behindOne 0 [some (.ref 0), none, none, none] [] GM M (QI GM fun r M' => MOb l t s w0 M0 g r M M') := by
  have hE : EmS l t s w0 M0 cm M := h.1
  have hK : TKM l k M := h.2.1
  have hP : PS M p := h.2.2.2.1
  have hR := hE.R
  have bt := sp_TM_betweenOf hR hK hP (by omega)
  rw [hB] at bt
  have on := sp_TM_openNow hR hP (by omega)
  have po := sp_TM_partOf hR hK hP (by omega) hO
  rw [hT] at po
  first | refine E_aload_n d_TM_behindOne_0 rfl ?_ | refine E_aload_nN d_TM_behindOne_0 rfl ?_
  refine E_V0 (bt) d_TM_behindOne_1 ml_TM_197 cb_TM_betweenOf cv_TM_betweenOf (by exact ⟨by decide, rfl⟩) ⟨by decide, rfl⟩ ⟨by decide, by decide⟩ rfl (Nat.le_of_ble_eq_true rfl) (Nat.le_of_ble_eq_true rfl) (kI fun r1 M1 hc => ?_)
  obtain ⟨rfl, rfl⟩ := hc
  refine E_istore_1 d_TM_behindOne_4 rfl ?_
  refine E_iload_n d_TM_behindOne_5 rfl ?_
  first | (with_reducible refine E_isN1 ?_; refine E_if_lt 60 d_TM_behindOne_6 rfl (nz_lt (by omega) fun h6 => ?_) (nz_nlt (by omega) fun h6 => ?_)) | refine E_if_lt 60 d_TM_behindOne_6 rfl (fun h6 => ?_) (fun h6 => ?_)
  rotate_left
  · exfalso; exact absurd (show (-1 : Int32) < 0 by decide) h6
  first | refine E_aload_n d_TM_behindOne_60 rfl ?_ | refine E_aload_nN d_TM_behindOne_60 rfl ?_
  refine E_V0 (on) d_TM_behindOne_61 ml_TM_162 cb_TM_openNow cv_TM_openNow (by exact ⟨by decide, rfl⟩) ⟨by decide, rfl⟩ ⟨by decide, by decide⟩ rfl (Nat.le_of_ble_eq_true rfl) (Nat.le_of_ble_eq_true rfl) (kI fun r1 M1 hc => ?_)
  obtain ⟨rfl, rfl⟩ := hc
  refine E_istore_2 d_TM_behindOne_64 rfl ?_
  first | refine E_aload_n d_TM_behindOne_65 rfl ?_ | refine E_aload_nN d_TM_behindOne_65 rfl ?_
  refine E_iload_n d_TM_behindOne_66 rfl ?_
  refine E_V1 (po) d_TM_behindOne_67 ml_TM_200 cb_TM_partOf cv_TM_partOf (by exact ⟨by decide, rfl⟩) ⟨by decide, rfl⟩ ⟨by decide, by decide⟩ rfl (Nat.le_of_ble_eq_true rfl) (Nat.le_of_ble_eq_true rfl) (kI fun r1 M1 hc => ?_)
  obtain ⟨rfl, rfl⟩ := hc
  refine E_istore_3 d_TM_behindOne_70 rfl ?_
  refine E_iload_n d_TM_behindOne_71 rfl ?_
  first | (with_reducible refine E_isN1 ?_; refine E_if_ge 77 d_TM_behindOne_72 rfl (nz_ge (by omega) fun h72 => ?_) (nz_nge (by omega) fun h72 => ?_)) | refine E_if_ge 77 d_TM_behindOne_72 rfl (fun h72 => ?_) (fun h72 => ?_)
  · exfalso; exact absurd h72 (by decide)
  refine E_iconst (v := nI 0) d_TM_behindOne_75 rfl ?_
  refine E_retZ d_TM_behindOne_76 rfl (by first | exact pI_01 _ | decide) ?_
  exact ⟨fun z => absurd z hg, fun _ => ⟨rfl, rfl⟩⟩
theorem bh_pt (h : MSg l t s w0 M0 (k, p, true, cm) M) (hL : p.length ≤ 150) (hB : mpB p (SS l k) = 0) {x : Nat} (hT : mpT (mpO p) p (SS l k) = x) (hx : x ≠ 0) {o : Nat} {q : List Nat} (hq : mpL p = o :: q) :
    E 4 0 0 Y_TM_behindOne 0 [some (.ref 0), none, none, none] [] GM M (QI GM fun r M' => MOb l t s w0 M0 (0, k + 1, (if 1 < x then (x - 1) :: q else (mpS 7 q ((mpS 1 p cm).2 ++ (if o = 43 then [(3, 0)] else []))).1), (if 1 < x then false else true), (if 1 < x then (mpS 1 p cm).2 else (mpS 7 q ((mpS 1 p cm).2 ++ (if o = 43 then [(3, 0)] else []))).2)) r M M') := by
  have hk3 := h.k3
  obtain ⟨hE, hK, hv, hP, h18, hw, hN⟩ := id h
  have hE : EmS l t s w0 M0 cm M := hE
  have hK : TKM l k M := hK
  have hv : vk l k := hv
  have hP : PS M p := hP
  have hN : mpN p ≤ 8 := hN
  have h18 : mI M 0 18 = nI 1 := h18
  have hw : w0 + cm.length + p.length ≤ k := hw
  have hk3 : k ≤ 300 := hk3.1
  have hR := hE.R
  have hO : mpO p = o := by unfold mpO; rw [hq]; rfl
  rw [hO] at hT
  obtain ⟨hx3, h40, ho1, ho2⟩ := mpT_rg (show mpT o p (SS l k) ≠ 0 by omega)
  rw [hT] at hx3
  have hk1 : k + 1 ≤ 300 := Nat.le_trans (hv.s h40).le hE.T.1
  have bt := sp_TM_betweenOf hR hK hP (by omega)
  rw [hB] at bt
  have on := sp_TM_openNow hR hP (by omega)
  have po := sp_TM_partOf hR hK hP (by omega) (o := o) (by omega)
  rw [hO, wO_t (by omega)] at on
  rw [hT, wO_t (by omega)] at po
  have po : E 3 0 0 Y_TM_partOf 0 [some (.ref 0), some (.int (nI o))] [] GM M (QI GM fun r M' => r = nI (x - 1) ∧ M' = M) := by
    rcases hx3 with rfl | rfl | rfl <;> exact po
  have st := sp_TM_settle (n := 1) (by decide) hE hP (by omega) (by omega)
  obtain ⟨a1, a2, a3⟩ := mpS_len 1 p cm
  have e1 : (mpS 1 p cm).1 = o :: q := (mpS_1 p cm).trans hq
  generalize mpS 1 p cm = g at *
  rw [e1] at st a1 a2 a3
  have a3 : q.length + 1 ≤ p.length := a3
  have a1 : q.length + 1 + g.2.length = p.length + cm.length := a1
  have nN : mpN (o :: q) = mpN q + 1 := mpN_o (Or.inl ho1)
  have nx := fun M1 (hc : EmS l t s w0 M0 g.2 M1 ∧ PS M1 (o :: q) ∧ Fo 0 JSt A3' M M1) => sp_TM_next hc.1.R hc.1.T (hK.fo hc.2.2 (fun j z => by unfold JSt at z; omega))
  have nd : ∀ M1, EmS l t s w0 M0 g.2 M1 ∧ PS M1 (o :: q) ∧ Fo 0 JSt A3' M M1 → ∀ M2, TKM l (k + 1) M2 ∧ Fx Jn An M1 M2 → EmS l t s w0 M0 g.2 M2 ∧ PS M2 (o :: q) ∧ mI M2 0 18 = nI 1 := fun M1 hc M2 hd =>
    ⟨hc.1.cg hd.2 (fun j q => by unfold Jn at q; unfold JP; omega) (fun a q => absurd q (fun z => z)), hc.2.1.fo hd.2 (by unfold Jn; omega) (by unfold Jn; omega) (fun z => z), (hd.2.2.2.1 18 (by unfold Jn; omega)).trans ((hc.2.2.2.2.1 18 (by decide)).trans h18)⟩
  by_cases hx1 : 1 < x
  · rw [if_pos hx1, if_pos hx1, if_pos hx1]
    have m2 : ∀ M2, TKM l (k + 1) M2 → EmS l t s w0 M0 g.2 M2 ∧ PS M2 (o :: q) ∧ mI M2 0 18 = nI 1 → E 4 0 0 Y_TM_behindOne 86 [some (.ref 0), some (.int (-1)), some (.int (nI o)), some (.int (nI (x - 1)))] [] GM M2 (QI GM fun r M' => MOb l t s w0 M0 (0, k + 1, (x - 1) :: q, false, g.2) r M M') := by
      intro M2 hK2 hd
      obtain ⟨hE2, hP2, g18⟩ := hd
      have hR := hE2.R
      have oa := sp_TM_openAt hR hP2 (by show q.length + 1 ≤ 155; omega)
      rw [show mpL (o :: q) = o :: q from (by rw [mpL, if_pos ho1])] at oa
      have oa : E 0 0 0 Y_TM_openAt 0 [some (.ref 0), none] [] GM M2 (QI GM fun r M' => r = nI q.length ∧ M' = M2) := oa
      have x3 : Fo 0 (fun j => j = 18) (fun a => a = 5) M2 (wI (wI M2 5 q.length (nI (x - 1))) 0 18 (nI 0)) := ((Fo.rf (o := 0) (J := fun j => j = 18) (A := fun a => a = 5)).wJ (b := 5) (by decide) rfl).wI rfl
      have fin : MSg l t s w0 M0 (k + 1, (x - 1) :: q, false, g.2) (wI (wI M2 5 q.length (nI (x - 1))) 0 18 (nI 0)) := by
        obtain ⟨⟨p1, p1', p1''⟩, p2, p3⟩ := hP2
        refine ⟨hE2.cg x3.fx (fun j z => by unfold JP; omega) (fun a z => z), hK2.fo x3 (fun j z => by omega), hv.s h40, ⟨PlA.cg (M := wI M2 5 q.length (nI (x - 1))) (mI_ne (by decide)) _ (PlA.psh rfl (by omega) p1''), ?_, ?_⟩, by rw [mI_wa, if_pos rfl]; rfl, by show w0 + g.2.length + (q.length + 1) ≤ k + 1; omega, ?_⟩
        · rw [mI_wa, if_neg (by decide), mI_wx (by decide)]; exact p2
        · rw [mI_wa, if_neg (by decide), mI_wx (by decide), p3, mpN_o (o := x - 1) (by omega), nN]
        · show mpN ((x - 1) :: q) ≤ 8
          rw [mpN_o (o := x - 1) (by omega)]; omega
      refine E_iload_n d_TM_behindOne_86 rfl ?_
      first | (with_reducible refine E_isN1 ?_; refine E_if_le 107 d_TM_behindOne_87 rfl (nz_le (by omega) fun h87 => ?_) (nz_nle (by omega) fun h87 => ?_)) | refine E_if_le 107 d_TM_behindOne_87 rfl (fun h87 => ?_) (fun h87 => ?_)
      · exfalso; omega
      first | refine E_aload_n d_TM_behindOne_90 rfl ?_ | refine E_aload_nN d_TM_behindOne_90 rfl ?_
      refine E_getR (q := 5) d_TM_behindOne_91 gf_TM_29 (by exact ⟨by decide, rfl⟩) (by exact hR _ rfl) ?_
      first | refine E_aload_n d_TM_behindOne_94 rfl ?_ | refine E_aload_nN d_TM_behindOne_94 rfl ?_
      refine E_V0 (oa) d_TM_behindOne_95 ml_TM_158 cb_TM_openAt cv_TM_openAt (by exact ⟨by decide, rfl⟩) ⟨by decide, rfl⟩ ⟨by decide, by decide⟩ rfl (Nat.le_of_ble_eq_true rfl) (Nat.le_of_ble_eq_true rfl) (kI fun r1 M1 hc => ?_)
      obtain ⟨rfl, rfl⟩ := hc
      refine E_iload_n d_TM_behindOne_98 rfl ?_
      refine E_iast d_TM_behindOne_99 (by exact ⟨by decide, rfl⟩) (by exact ⟨by with_reducible rfl, by omega, by decide⟩) ?_
      first | refine E_aload_n d_TM_behindOne_100 rfl ?_ | refine E_aload_nN d_TM_behindOne_100 rfl ?_
      refine E_iconst (v := nI 0) d_TM_behindOne_101 rfl ?_
      refine E_putZ d_TM_behindOne_102 gf_TM_174 (by exact ⟨by decide, rfl⟩) rfl rfl (by decide) ?_
      refine E_iconst (v := nI 1) d_TM_behindOne_105 rfl ?_
      refine E_retZ d_TM_behindOne_106 rfl (by first | exact pI_01 _ | decide) ?_
      exact ⟨fun _ => ⟨rfl, fin⟩, fun z => absurd rfl z⟩
    first | refine E_aload_n d_TM_behindOne_0 rfl ?_ | refine E_aload_nN d_TM_behindOne_0 rfl ?_
    refine E_V0 (bt) d_TM_behindOne_1 ml_TM_197 cb_TM_betweenOf cv_TM_betweenOf (by exact ⟨by decide, rfl⟩) ⟨by decide, rfl⟩ ⟨by decide, by decide⟩ rfl (Nat.le_of_ble_eq_true rfl) (Nat.le_of_ble_eq_true rfl) (kI fun r1 M1 hc => ?_)
    obtain ⟨rfl, rfl⟩ := hc
    refine E_istore_1 d_TM_behindOne_4 rfl ?_
    refine E_iload_n d_TM_behindOne_5 rfl ?_
    first | (with_reducible refine E_isN1 ?_; refine E_if_lt 60 d_TM_behindOne_6 rfl (nz_lt (by omega) fun h6 => ?_) (nz_nlt (by omega) fun h6 => ?_)) | refine E_if_lt 60 d_TM_behindOne_6 rfl (fun h6 => ?_) (fun h6 => ?_)
    rotate_left
    · exfalso; exact absurd (show (-1 : Int32) < 0 by decide) h6
    first | refine E_aload_n d_TM_behindOne_60 rfl ?_ | refine E_aload_nN d_TM_behindOne_60 rfl ?_
    refine E_V0 (on) d_TM_behindOne_61 ml_TM_162 cb_TM_openNow cv_TM_openNow (by exact ⟨by decide, rfl⟩) ⟨by decide, rfl⟩ ⟨by decide, by decide⟩ rfl (Nat.le_of_ble_eq_true rfl) (Nat.le_of_ble_eq_true rfl) (kI fun r1 M1 hc => ?_)
    obtain ⟨rfl, rfl⟩ := hc
    refine E_istore_2 d_TM_behindOne_64 rfl ?_
    first | refine E_aload_n d_TM_behindOne_65 rfl ?_ | refine E_aload_nN d_TM_behindOne_65 rfl ?_
    refine E_iload_n d_TM_behindOne_66 rfl ?_
    refine E_V1 (po) d_TM_behindOne_67 ml_TM_200 cb_TM_partOf cv_TM_partOf (by exact ⟨by decide, rfl⟩) ⟨by decide, rfl⟩ ⟨by decide, by decide⟩ rfl (Nat.le_of_ble_eq_true rfl) (Nat.le_of_ble_eq_true rfl) (kI fun r1 M1 hc => ?_)
    obtain ⟨rfl, rfl⟩ := hc
    refine E_istore_3 d_TM_behindOne_70 rfl ?_
    refine E_iload_n d_TM_behindOne_71 rfl ?_
    first | (with_reducible refine E_isN1 ?_; refine E_if_ge 77 d_TM_behindOne_72 rfl (nz_ge (by omega) fun h72 => ?_) (nz_nge (by omega) fun h72 => ?_)) | refine E_if_ge 77 d_TM_behindOne_72 rfl (fun h72 => ?_) (fun h72 => ?_)
    rotate_left
    · exfalso; omega
    first | refine E_aload_n d_TM_behindOne_77 rfl ?_ | refine E_aload_nN d_TM_behindOne_77 rfl ?_
    refine E_iconst (v := nI 1) d_TM_behindOne_78 rfl ?_
    refine E_V1 (st) d_TM_behindOne_79 ml_TM_177 cb_TM_settle cv_TM_settle (by exact ⟨by decide, rfl⟩) ⟨by decide, rfl⟩ ⟨by decide, by decide⟩ rfl (Nat.le_of_ble_eq_true rfl) (Nat.le_of_ble_eq_true rfl) (kV fun M1 hc => ?_)
    have hc1 := hc
    first | refine E_aload_n d_TM_behindOne_82 rfl ?_ | refine E_aload_nN d_TM_behindOne_82 rfl ?_
    refine E_V0 (nx _ hc1) d_TM_behindOne_83 ml_TM_165 cb_TM_nextToken cv_TM_nextToken (by exact ⟨by decide, rfl⟩) ⟨by decide, rfl⟩ ⟨by decide, by decide⟩ rfl (Nat.le_of_ble_eq_true rfl) (Nat.le_of_ble_eq_true rfl) (kV fun M1 hc => ?_)
    skip
    exact m2 _ hc.1 (nd _ hc1 _ hc)
  · have hx0 : x = 1 := by omega
    subst hx0
    rw [if_neg hx1, if_neg hx1, if_neg hx1]
    have fin : ∀ (c2 : Cd) M3, TKM l (k + 1) M3 → EmS l t s w0 M0 c2 M3 → PS M3 q → mI M3 0 18 = nI 1 → w0 + c2.length + q.length ≤ k + 1 → E 4 0 0 Y_TM_behindOne 139 [some (.ref 0), some (.int (-1)), some (.int (nI o)), some (.int (nI (1 - 1)))] [] GM M3 (QI GM fun r M' => MOb l t s w0 M0 (0, k + 1, (mpS 7 q c2).1, true, (mpS 7 q c2).2) r M M') := by
      intro c2 M3 hK3 hE3 hP3 g18 hl3
      have st7 := sp_TM_settle (n := 7) (by decide) hE3 hP3 (by omega) (by omega)
      obtain ⟨b1, b2, b3⟩ := mpS_len 7 q c2
      have hR := hE3.R
      first | refine E_aload_n d_TM_behindOne_139 rfl ?_ | refine E_aload_nN d_TM_behindOne_139 rfl ?_
      refine E_bipush (v := nI 7) d_TM_behindOne_140 (by decide) ?_
      refine E_V1 (st7) d_TM_behindOne_142 ml_TM_177 cb_TM_settle cv_TM_settle (by exact ⟨by decide, rfl⟩) ⟨by decide, rfl⟩ ⟨by decide, by decide⟩ rfl (Nat.le_of_ble_eq_true rfl) (Nat.le_of_ble_eq_true rfl) (kV fun M1 hc => ?_)
      skip
      refine E_iconst (v := nI 1) d_TM_behindOne_145 rfl ?_
      refine E_retZ d_TM_behindOne_146 rfl (by first | exact pI_01 _ | decide) ?_
      exact ⟨fun _ => ⟨rfl, hc.1, hK3.fo hc.2.2 (fun j z => by unfold JSt at z; omega), hv.s h40, hc.2.1, (hc.2.2.2.2.1 18 (by decide)).trans g18, by show w0 + (mpS 7 q c2).2.length + (mpS 7 q c2).1.length ≤ k + 1; omega, by show mpN (mpS 7 q c2).1 ≤ 8; omega⟩, fun z => absurd rfl z⟩
    have m2 : ∀ M2, TKM l (k + 1) M2 → EmS l t s w0 M0 g.2 M2 ∧ PS M2 (o :: q) ∧ mI M2 0 18 = nI 1 → E 4 0 0 Y_TM_behindOne 86 [some (.ref 0), some (.int (-1)), some (.int (nI o)), some (.int (nI (1 - 1)))] [] GM M2 (QI GM fun r M' => MOb l t s w0 M0 (0, k + 1, (mpS 7 q (g.2 ++ (if o = 43 then [(3, 0)] else []))).1, true, (mpS 7 q (g.2 ++ (if o = 43 then [(3, 0)] else []))).2) r M M') := by
      intro M2 hK2 hd
      obtain ⟨hE2, hP2, g18⟩ := hd
      have hR := hE2.R
      obtain ⟨⟨p1, p1', p1''⟩, p2, p3⟩ := id hP2
      have p2 : mI M2 0 16 = nI (q.length + 1) := p2
      rw [nN] at p3
      have x3 : Fo 0 (fun j => j = 16 ∨ j = 17) An M2 (wI (wI M2 0 17 (nI (mpN q + 1 - 1))) 0 16 (nI (q.length + 1 - 1))) := (Fo.rf.wI (Or.inr rfl)).wI (Or.inl rfl)
      have e16 : mI (wI M2 0 17 (nI (mpN q + 1 - 1))) 0 16 = nI (q.length + 1) := by rw [mI_wa, if_neg (by decide)]; exact p2
      have hE3 := hE2.cg x3.fx (fun j z => by unfold JP; omega) (fun a z => absurd z (fun z => z))
      have hK3 := hK2.fo x3 (fun j z => by omega)
      have hP3 : PS (wI (wI M2 0 17 (nI (mpN q + 1 - 1))) 0 16 (nI (q.length + 1 - 1))) q := ⟨PlA.cg (M := M2) ((mI_ne (by decide)).trans (mI_ne (by decide))) _ p1'', by rw [mI_wa, if_pos rfl]; rfl, by rw [mI_wa, if_neg (by decide), mI_wa, if_pos rfl]; rfl⟩
      have k18 : mI (wI (wI M2 0 17 (nI (mpN q + 1 - 1))) 0 16 (nI (q.length + 1 - 1))) 0 18 = nI 1 := (x3.2.2.1 18 (by decide)).trans g18
      by_cases c43 : o = 43
      · rw [if_pos c43]
        have em := sp_TM_emit hE3 (by omega) 3 0
        have hl3 : (g.2 ++ [(3, 0)]).length = g.2.length + 1 := by rw [List.length_append]; rfl
        refine E_iload_n d_TM_behindOne_86 rfl ?_
        first | (with_reducible refine E_isN1 ?_; refine E_if_le 107 d_TM_behindOne_87 rfl (nz_le (by omega) fun h87 => ?_) (nz_nle (by omega) fun h87 => ?_)) | refine E_if_le 107 d_TM_behindOne_87 rfl (fun h87 => ?_) (fun h87 => ?_)
        rotate_left
        · exfalso; omega
        first | refine E_aload_n d_TM_behindOne_107 rfl ?_ | refine E_aload_nN d_TM_behindOne_107 rfl ?_
        refine E_dup d_TM_behindOne_108 rfl ?_
        refine E_getI d_TM_behindOne_109 gf_TM_155 (by exact ⟨by decide, rfl⟩) (by exact p3) ?_
        refine E_iconst (v := nI 1) d_TM_behindOne_112 rfl ?_
        first | (with_reducible refine E_isN2 ?_; refine E_isubN d_TM_behindOne_113 (by omega) ?_) | refine E_isub d_TM_behindOne_113 ?_
        refine E_putI d_TM_behindOne_114 gf_TM_155 (by exact ⟨by decide, rfl⟩) rfl rfl ?_
        first | refine E_aload_n d_TM_behindOne_117 rfl ?_ | refine E_aload_nN d_TM_behindOne_117 rfl ?_
        refine E_dup d_TM_behindOne_118 rfl ?_
        refine E_getI d_TM_behindOne_119 gf_TM_145 (by exact ⟨by decide, rfl⟩) (by exact e16) ?_
        refine E_iconst (v := nI 1) d_TM_behindOne_122 rfl ?_
        first | (with_reducible refine E_isN2 ?_; refine E_isubN d_TM_behindOne_123 (by omega) ?_) | refine E_isub d_TM_behindOne_123 ?_
        refine E_putI d_TM_behindOne_124 gf_TM_145 (by exact ⟨by decide, rfl⟩) rfl rfl ?_
        refine E_iload_n d_TM_behindOne_127 rfl ?_
        refine E_bipush (v := nI 43) d_TM_behindOne_128 (by decide) ?_
        first | (with_reducible refine E_isN2 ?_; refine E_icmp_ne 139 d_TM_behindOne_130 rfl (nb_ne fun h130 => ?_) (nb_eq (by omega) (by omega) fun h130 => ?_)) | refine E_icmp_ne 139 d_TM_behindOne_130 rfl (fun h130 => ?_) (fun h130 => ?_)
        · exfalso; omega
        first | refine E_aload_n d_TM_behindOne_133 rfl ?_ | refine E_aload_nN d_TM_behindOne_133 rfl ?_
        refine E_iconst (v := nI 3) d_TM_behindOne_134 rfl ?_
        refine E_iconst (v := nI 0) d_TM_behindOne_135 rfl ?_
        refine E_V2 (em) d_TM_behindOne_136 ml_TM_151 cb_TM_emit cv_TM_emit (by exact ⟨by decide, rfl⟩) ⟨by decide, rfl⟩ ⟨by decide, by decide⟩ rfl (Nat.le_of_ble_eq_true rfl) (Nat.le_of_ble_eq_true rfl) (kV fun M1 hc => ?_)
        skip
        exact fin _ _ (hK3.fo hc.2 (fun j z => by unfold J13 at z; omega)) hc.1 (hP3.fo hc.2.fx (by decide) (by decide) (by decide)) ((hc.2.2.2.1 18 (by decide)).trans k18) (by omega)
      · rw [if_neg c43, List.append_nil]
        refine E_iload_n d_TM_behindOne_86 rfl ?_
        first | (with_reducible refine E_isN1 ?_; refine E_if_le 107 d_TM_behindOne_87 rfl (nz_le (by omega) fun h87 => ?_) (nz_nle (by omega) fun h87 => ?_)) | refine E_if_le 107 d_TM_behindOne_87 rfl (fun h87 => ?_) (fun h87 => ?_)
        rotate_left
        · exfalso; omega
        first | refine E_aload_n d_TM_behindOne_107 rfl ?_ | refine E_aload_nN d_TM_behindOne_107 rfl ?_
        refine E_dup d_TM_behindOne_108 rfl ?_
        refine E_getI d_TM_behindOne_109 gf_TM_155 (by exact ⟨by decide, rfl⟩) (by exact p3) ?_
        refine E_iconst (v := nI 1) d_TM_behindOne_112 rfl ?_
        first | (with_reducible refine E_isN2 ?_; refine E_isubN d_TM_behindOne_113 (by omega) ?_) | refine E_isub d_TM_behindOne_113 ?_
        refine E_putI d_TM_behindOne_114 gf_TM_155 (by exact ⟨by decide, rfl⟩) rfl rfl ?_
        first | refine E_aload_n d_TM_behindOne_117 rfl ?_ | refine E_aload_nN d_TM_behindOne_117 rfl ?_
        refine E_dup d_TM_behindOne_118 rfl ?_
        refine E_getI d_TM_behindOne_119 gf_TM_145 (by exact ⟨by decide, rfl⟩) (by exact e16) ?_
        refine E_iconst (v := nI 1) d_TM_behindOne_122 rfl ?_
        first | (with_reducible refine E_isN2 ?_; refine E_isubN d_TM_behindOne_123 (by omega) ?_) | refine E_isub d_TM_behindOne_123 ?_
        refine E_putI d_TM_behindOne_124 gf_TM_145 (by exact ⟨by decide, rfl⟩) rfl rfl ?_
        refine E_iload_n d_TM_behindOne_127 rfl ?_
        refine E_bipush (v := nI 43) d_TM_behindOne_128 (by decide) ?_
        first | (with_reducible refine E_isN2 ?_; refine E_icmp_ne 139 d_TM_behindOne_130 rfl (nb_ne fun h130 => ?_) (nb_eq (by omega) (by omega) fun h130 => ?_)) | refine E_icmp_ne 139 d_TM_behindOne_130 rfl (fun h130 => ?_) (fun h130 => ?_)
        rotate_left
        · exfalso; omega
        exact fin _ _ hK3 hE3 hP3 k18 (by omega)
    first | refine E_aload_n d_TM_behindOne_0 rfl ?_ | refine E_aload_nN d_TM_behindOne_0 rfl ?_
    refine E_V0 (bt) d_TM_behindOne_1 ml_TM_197 cb_TM_betweenOf cv_TM_betweenOf (by exact ⟨by decide, rfl⟩) ⟨by decide, rfl⟩ ⟨by decide, by decide⟩ rfl (Nat.le_of_ble_eq_true rfl) (Nat.le_of_ble_eq_true rfl) (kI fun r1 M1 hc => ?_)
    obtain ⟨rfl, rfl⟩ := hc
    refine E_istore_1 d_TM_behindOne_4 rfl ?_
    refine E_iload_n d_TM_behindOne_5 rfl ?_
    first | (with_reducible refine E_isN1 ?_; refine E_if_lt 60 d_TM_behindOne_6 rfl (nz_lt (by omega) fun h6 => ?_) (nz_nlt (by omega) fun h6 => ?_)) | refine E_if_lt 60 d_TM_behindOne_6 rfl (fun h6 => ?_) (fun h6 => ?_)
    rotate_left
    · exfalso; exact absurd (show (-1 : Int32) < 0 by decide) h6
    first | refine E_aload_n d_TM_behindOne_60 rfl ?_ | refine E_aload_nN d_TM_behindOne_60 rfl ?_
    refine E_V0 (on) d_TM_behindOne_61 ml_TM_162 cb_TM_openNow cv_TM_openNow (by exact ⟨by decide, rfl⟩) ⟨by decide, rfl⟩ ⟨by decide, by decide⟩ rfl (Nat.le_of_ble_eq_true rfl) (Nat.le_of_ble_eq_true rfl) (kI fun r1 M1 hc => ?_)
    obtain ⟨rfl, rfl⟩ := hc
    refine E_istore_2 d_TM_behindOne_64 rfl ?_
    first | refine E_aload_n d_TM_behindOne_65 rfl ?_ | refine E_aload_nN d_TM_behindOne_65 rfl ?_
    refine E_iload_n d_TM_behindOne_66 rfl ?_
    refine E_V1 (po) d_TM_behindOne_67 ml_TM_200 cb_TM_partOf cv_TM_partOf (by exact ⟨by decide, rfl⟩) ⟨by decide, rfl⟩ ⟨by decide, by decide⟩ rfl (Nat.le_of_ble_eq_true rfl) (Nat.le_of_ble_eq_true rfl) (kI fun r1 M1 hc => ?_)
    obtain ⟨rfl, rfl⟩ := hc
    refine E_istore_3 d_TM_behindOne_70 rfl ?_
    refine E_iload_n d_TM_behindOne_71 rfl ?_
    first | (with_reducible refine E_isN1 ?_; refine E_if_ge 77 d_TM_behindOne_72 rfl (nz_ge (by omega) fun h72 => ?_) (nz_nge (by omega) fun h72 => ?_)) | refine E_if_ge 77 d_TM_behindOne_72 rfl (fun h72 => ?_) (fun h72 => ?_)
    rotate_left
    · exfalso; omega
    first | refine E_aload_n d_TM_behindOne_77 rfl ?_ | refine E_aload_nN d_TM_behindOne_77 rfl ?_
    refine E_iconst (v := nI 1) d_TM_behindOne_78 rfl ?_
    refine E_V1 (st) d_TM_behindOne_79 ml_TM_177 cb_TM_settle cv_TM_settle (by exact ⟨by decide, rfl⟩) ⟨by decide, rfl⟩ ⟨by decide, by decide⟩ rfl (Nat.le_of_ble_eq_true rfl) (Nat.le_of_ble_eq_true rfl) (kV fun M1 hc => ?_)
    have hc1 := hc
    first | refine E_aload_n d_TM_behindOne_82 rfl ?_ | refine E_aload_nN d_TM_behindOne_82 rfl ?_
    refine E_V0 (nx _ hc1) d_TM_behindOne_83 ml_TM_165 cb_TM_nextToken cv_TM_nextToken (by exact ⟨by decide, rfl⟩) ⟨by decide, rfl⟩ ⟨by decide, by decide⟩ rfl (Nat.le_of_ble_eq_true rfl) (Nat.le_of_ble_eq_true rfl) (kV fun M1 hc => ?_)
    skip
    exact m2 _ hc.1 (nd _ hc1 _ hc)
end MQf
