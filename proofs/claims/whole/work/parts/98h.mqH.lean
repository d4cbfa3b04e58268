section MQh
variable {M M0 : Mem} {l : List Nat} {k t s w0 : Nat}
theorem sp_TM_figure (hR : MR M) (hT : TapeM l M) (hK : TKM l k M) {x lo hi : Nat} (hx : x < 2724) (hlo : lo ≤ hi) (hhi : hi ≤ 60) : E 2 0 0 Y_TM_figure 0 [some (.ref 0), some (.int (nI x)), some (.int (nI lo)), some (.int (nI hi))] [] GM M (QI GM fun r M' => (numF (SS l) (VV l) lo hi k ≠ 0 → r = nI (numF (SS l) (VV l) lo hi k) ∧ M' = M) ∧ (numF (SS l) (VV l) lo hi k = 0 → r = nI 0 ∧ TKM l (k + 1) M' ∧ mI M' 3 x = nI (VV l k) ∧ (∀ i, i ≠ x → mI M' 3 i = mI M 3 i) ∧ Fx Jn A3' M M')) := by
  obtain ⟨h8, h7, tk, n, w, h9, h10, h11, hTk⟩ := id hK
  obtain ⟨-, -, -, -, -, -, -, -, -, -, -, -, -, -, t15, -, -⟩ := hTk.tk
  have hlt := hTk.2.2.2.1
  have hn6 := hTk.2.2.2.2.1
  have hvn : Unit → tk = 1 → VV l k = mn n := fun _ => hTk.2.1
  clear hTk
  by_cases c1 : tk = 1
  · have cS := t15.mp c1
    have hV := hvn () c1
    by_cases c2 : lo ≤ n ∧ n ≤ hi
    · have hVn : VV l k = n := by rw [hV]; unfold mn; rw [if_pos (by omega)]
      have e : numF (SS l) (VV l) lo hi k = 0 := by unfold numF; rw [if_neg (fun z => z cS), if_neg (by omega)]
      have x1 : Fo 0 Jn A3' M (wI M 3 x (nI n)) := (Fo.rf (o := 0)).wJ (b := 3) (by decide) rfl
      have hR1 : MR (wI M 3 x (nI n)) := hR
      have hT1 := hT.fx x1.fx (by unfold Jn; omega) (by decide)
      have hK1 := hK.fo ((Fo.rf (o := 0) (J := fun _ => False) (A := A3')).wJ (b := 3) (M1 := M) (j := x) (x := nI n) (by decide) rfl) (fun j z => absurd z (fun y => y))
      have nx := sp_TM_next hR1 hT1 hK1
      have fin : ∀ M4, TKM l (k + 1) M4 ∧ Fx Jn An (wI M 3 x (nI n)) M4 → mI M4 3 x = nI (VV l k) ∧ (∀ i, i ≠ x → mI M4 3 i = mI M 3 i) ∧ Fx Jn A3' M M4 := fun M4 hc => by
        have e3 : mI M4 3 = mI (wI M 3 x (nI n)) 3 := hc.2.2.1 3 (by decide) (fun z => z)
        refine ⟨by rw [e3, mI_wa, if_pos rfl, hVn], fun i hi => by rw [e3, mI_wa, if_neg hi], x1.fx.tr (hc.2.wk (fun j z => z) (fun a z => absurd z (fun y => y)))⟩
      rw [e]
      first | refine E_aload_n d_TM_figure_0 rfl ?_ | refine E_aload_nN d_TM_figure_0 rfl ?_
      refine E_getI d_TM_figure_1 gf_TM_94 (by exact ⟨by decide, rfl⟩) (by exact h9) ?_
      refine E_iconst (v := nI 1) d_TM_figure_4 rfl ?_
      first | (with_reducible refine E_isN2 ?_; refine E_icmp_eq 10 d_TM_figure_5 rfl (nb_eq (by omega) (by omega) fun h5 => ?_) (nb_ne fun h5 => ?_)) | refine E_icmp_eq 10 d_TM_figure_5 rfl (fun h5 => ?_) (fun h5 => ?_)
      rotate_left
      · exfalso; omega
      first | refine E_aload_n d_TM_figure_10 rfl ?_ | refine E_aload_nN d_TM_figure_10 rfl ?_
      refine E_getI d_TM_figure_11 gf_TM_100 (by exact ⟨by decide, rfl⟩) (by exact h10) ?_
      refine E_iload_n d_TM_figure_14 rfl ?_
      refine E_iload_n d_TM_figure_15 rfl ?_
      refine E_S3 (sp_TM_isIn _ _ _) d_TM_figure_16 ml_TM_69 cb_TM_isIn cs_TM_isIn ⟨by decide, by decide⟩ rfl (Nat.le_of_ble_eq_true rfl) (Nat.le_of_ble_eq_true rfl) (kI fun r1 M1 hc => ?_)
      obtain ⟨rfl, rfl⟩ := hc
      first | (with_reducible refine E_isP ?_; refine E_if_ne 24 d_TM_figure_19 rfl (pb_1 fun h19 => ?_) (pb_0 fun h19 => ?_)) | (with_reducible refine E_isN1 ?_; refine E_if_ne 24 d_TM_figure_19 rfl (nz_ne fun h19 => ?_) (nz_eq (by omega) fun h19 => ?_)) | refine E_if_ne 24 d_TM_figure_19 rfl (fun h19 => ?_) (fun h19 => ?_)
      rotate_left
      · exfalso; exact h19 ⟨(nI_leI (by omega) (by omega)).mpr c2.1, (nI_leI (by omega) (by omega)).mpr c2.2⟩
      first | refine E_aload_n d_TM_figure_24 rfl ?_ | refine E_aload_nN d_TM_figure_24 rfl ?_
      refine E_getR (q := 3) d_TM_figure_25 gf_TM_16 (by exact ⟨by decide, rfl⟩) (by exact hR _ rfl) ?_
      refine E_iload_n d_TM_figure_28 rfl ?_
      first | refine E_aload_n d_TM_figure_29 rfl ?_ | refine E_aload_nN d_TM_figure_29 rfl ?_
      refine E_getI d_TM_figure_30 gf_TM_100 (by exact ⟨by decide, rfl⟩) (by exact h10) ?_
      refine E_iast d_TM_figure_33 (by exact ⟨by decide, rfl⟩) (by exact ⟨by with_reducible rfl, by omega, by decide⟩) ?_
      first | refine E_aload_n d_TM_figure_34 rfl ?_ | refine E_aload_nN d_TM_figure_34 rfl ?_
      refine E_V0 (nx) d_TM_figure_35 ml_TM_165 cb_TM_nextToken cv_TM_nextToken (by exact ⟨by decide, rfl⟩) ⟨by decide, rfl⟩ ⟨by decide, by decide⟩ rfl (Nat.le_of_ble_eq_true rfl) (Nat.le_of_ble_eq_true rfl) (kV fun M1 hc => ?_)
      skip
      refine E_iconst (v := nI 0) d_TM_figure_38 rfl ?_
      refine E_retI d_TM_figure_39 rfl ?_
      exact ⟨fun z => absurd rfl z, fun _ => ⟨rfl, hc.1, fin _ hc⟩⟩
    · have e : numF (SS l) (VV l) lo hi k = 2 := by
        unfold numF
        rw [if_neg (fun z => z cS), if_pos]
        rw [hV]
        unfold mn
        by_cases q : n < 10000
        · rw [if_pos q]; omega
        · rw [if_neg q]; omega
      rw [e]
      first | refine E_aload_n d_TM_figure_0 rfl ?_ | refine E_aload_nN d_TM_figure_0 rfl ?_
      refine E_getI d_TM_figure_1 gf_TM_94 (by exact ⟨by decide, rfl⟩) (by exact h9) ?_
      refine E_iconst (v := nI 1) d_TM_figure_4 rfl ?_
      first | (with_reducible refine E_isN2 ?_; refine E_icmp_eq 10 d_TM_figure_5 rfl (nb_eq (by omega) (by omega) fun h5 => ?_) (nb_ne fun h5 => ?_)) | refine E_icmp_eq 10 d_TM_figure_5 rfl (fun h5 => ?_) (fun h5 => ?_)
      rotate_left
      · exfalso; omega
      first | refine E_aload_n d_TM_figure_10 rfl ?_ | refine E_aload_nN d_TM_figure_10 rfl ?_
      refine E_getI d_TM_figure_11 gf_TM_100 (by exact ⟨by decide, rfl⟩) (by exact h10) ?_
      refine E_iload_n d_TM_figure_14 rfl ?_
      refine E_iload_n d_TM_figure_15 rfl ?_
      refine E_S3 (sp_TM_isIn _ _ _) d_TM_figure_16 ml_TM_69 cb_TM_isIn cs_TM_isIn ⟨by decide, by decide⟩ rfl (Nat.le_of_ble_eq_true rfl) (Nat.le_of_ble_eq_true rfl) (kI fun r1 M1 hc => ?_)
      obtain ⟨rfl, rfl⟩ := hc
      first | (with_reducible refine E_isP ?_; refine E_if_ne 24 d_TM_figure_19 rfl (pb_1 fun h19 => ?_) (pb_0 fun h19 => ?_)) | (with_reducible refine E_isN1 ?_; refine E_if_ne 24 d_TM_figure_19 rfl (nz_ne fun h19 => ?_) (nz_eq (by omega) fun h19 => ?_)) | refine E_if_ne 24 d_TM_figure_19 rfl (fun h19 => ?_) (fun h19 => ?_)
      · exfalso; exact c2 ⟨(nI_leI (by omega) (by omega)).mp h19.1, (nI_leI (by omega) (by omega)).mp h19.2⟩
      refine E_iconst (v := nI 2) d_TM_figure_22 rfl ?_
      refine E_retI d_TM_figure_23 rfl ?_
      exact ⟨fun _ => ⟨rfl, rfl⟩, fun z => absurd z (by decide)⟩
  · have cS : SS l k ≠ 39 := fun z => c1 (t15.mpr z)
    have e : numF (SS l) (VV l) lo hi k = 1 := if_pos cS
    rw [e]
    first | refine E_aload_n d_TM_figure_0 rfl ?_ | refine E_aload_nN d_TM_figure_0 rfl ?_
    refine E_getI d_TM_figure_1 gf_TM_94 (by exact ⟨by decide, rfl⟩) (by exact h9) ?_
    refine E_iconst (v := nI 1) d_TM_figure_4 rfl ?_
    first | (with_reducible refine E_isN2 ?_; refine E_icmp_eq 10 d_TM_figure_5 rfl (nb_eq (by omega) (by omega) fun h5 => ?_) (nb_ne fun h5 => ?_)) | refine E_icmp_eq 10 d_TM_figure_5 rfl (fun h5 => ?_) (fun h5 => ?_)
    · exfalso; omega
    refine E_iconst (v := nI 1) d_TM_figure_8 rfl ?_
    refine E_retI d_TM_figure_9 rfl ?_
    exact ⟨fun _ => ⟨rfl, rfl⟩, fun z => absurd z (by decide)⟩
/-- what a clause's body leaves: its fault, its token, its numbers or its law's code -/
def BQ (l : List Nat) (t s x w : Nat) (r : RR) (M M' : Mem) : Prop :=
  TKM l r.k M' ∧ Fx JP A3' M M' ∧ (∀ i, i ≠ x + 1 → i ≠ x + 2 → (i < 681 * t + 73 + 2 * w ∨ 681 * t + 681 ≤ i) → mI M' 3 i = mI M 3 i) ∧ ∃ w', mI M' 0 13 = nI w' ∧ w' ≤ r.k ∧
    (r.f = 0 → (s ≤ 1 → ∃ q, r.q = some q ∧ w' = w + q.1.length ∧ mI M' 3 (x + 1) = nI w ∧ mI M' 3 (x + 2) = nI w' ∧ RepCode q.1 (mI M' 3) (681 * t + 73 + 2 * w)) ∧ (2 ≤ s → w' = w ∧ mI M' 3 (x + 1) = nI r.a ∧ (s ≤ 4 → mI M' 3 (x + 2) = nI r.b)))
theorem Fx.jn {A : Nat → Prop} {M1 : Mem} (h : Fx Jn A M M1) : Fx JP A M M1 := h.wk (fun j z => Or.inl z) (fun a z => z)
theorem bq_one {lo hi x w : Nat} (hs : 5 ≤ s) (hw : mI M 0 13 = nI w) (hwk : w ≤ k) (hK : TKM l k M) {r1 : Int32} {M' : Mem} (h : (numF (SS l) (VV l) lo hi k ≠ 0 → r1 = nI (numF (SS l) (VV l) lo hi k) ∧ M' = M) ∧ (numF (SS l) (VV l) lo hi k = 0 → r1 = nI 0 ∧ TKM l (k + 1) M' ∧ mI M' 3 (x + 1) = nI (VV l k) ∧ (∀ i, i ≠ x + 1 → mI M' 3 i = mI M 3 i) ∧ Fx Jn A3' M M')) :
    r1 = nI (oneN (SS l) (VV l) lo hi k).f ∧ BQ l t s x w (oneN (SS l) (VV l) lo hi k) M M' := by
  unfold oneN
  by_cases q : numF (SS l) (VV l) lo hi k ≠ 0
  · obtain ⟨rfl, rfl⟩ := h.1 q
    rw [if_pos q]
    exact ⟨rfl, hK, Fx.rf, fun _ _ _ _ => rfl, w, hw, hwk, fun z => absurd z q⟩
  · have q := Decidable.not_not.mp q
    obtain ⟨rfl, a1, a2, a3, a4⟩ := h.2 q
    rw [if_neg (fun z => z q)]
    exact ⟨rfl, a1, a4.jn, fun i i1 _ _ => a3 i i1, w, (a4.2.2.1 13 (by unfold Jn; omega)).trans hw, by show w ≤ k + 1; omega, fun _ => ⟨fun z => by omega, fun _ => ⟨rfl, a2, fun z => by omega⟩⟩⟩
def tw3 (S V : Nat → Nat) (top2 k : Nat) : RR := if numF S V 0 top2 (k + 2) ≠ 0 then (numF S V 0 top2 (k + 2), k + 2, 0, 0, none) else (0, k + 3, V k, V (k + 2), none)
def tw2 (S V : Nat → Nat) (wj top2 k : Nat) : RR := if S (k + 1) ≠ wj then (1, k + 1, 0, 0, none) else tw3 S V top2 k
theorem sp_TM_twoNumbers (hR : MR M) (hT : TapeM l M) (hK : TKM l k M) {x w top wj z top2 : Nat} (hx : x + 2 < 2724) (hs : 2 ≤ s) (ht1 : top ≤ 60) (ht2 : top2 ≤ 60) (hw : mI M 0 13 = nI w) (hwk : w ≤ k) (hj : wj < 26) (hz : z = kwN.getD wj 0) (hzl : z < 9223372036854775808) :
    E 3 0 0 Y_TM_twoNumbers 0 [some (.ref 0), some (.int (nI x)), some (.int (nI top)), some (.long (lN z)), none, some (.int (nI top2)), none] [] GM M (QI GM fun r M' => r = nI (twoN (SS l) (VV l) top wj top2 k).f ∧ BQ l t s x w (twoN (SS l) (VV l) top wj top2 k) M M') := by
  have f1 := sp_TM_figure hR hT hK (x := x + 1) (lo := 0) (hi := top) (by omega) (Nat.zero_le _) ht1
  have n2 := numF_le (S := SS l) (V := VV l) 0 top k
  by_cases q : numF (SS l) (VV l) 0 top k ≠ 0
  · have e : twoN (SS l) (VV l) top wj top2 k = (numF (SS l) (VV l) 0 top k, k, 0, 0, none) := if_pos q
    have f1' : E 2 0 0 Y_TM_figure 0 [some (.ref 0), some (.int (nI (x + 1))), some (.int (nI 0)), some (.int (nI top))] [] GM M (QI GM fun r M' => r = nI (numF (SS l) (VV l) 0 top k) ∧ M' = M) := E_mono f1 (fun _ _ _ y => by obtain ⟨a, r, b, z⟩ := y; exact ⟨a, r, b, z.1 q⟩)
    rw [e]
    generalize numF (SS l) (VV l) 0 top k = f at *
    first | refine E_aload_n d_TM_twoNumbers_0 rfl ?_ | refine E_aload_nN d_TM_twoNumbers_0 rfl ?_
    refine E_iload_n d_TM_twoNumbers_1 rfl ?_
    refine E_iconst (v := nI 1) d_TM_twoNumbers_2 rfl ?_
    first | (with_reducible refine E_isN2 ?_; refine E_iaddN d_TM_twoNumbers_3 ?_) | refine E_iadd d_TM_twoNumbers_3 ?_
    refine E_iconst (v := nI 0) d_TM_twoNumbers_4 rfl ?_
    refine E_iload_n d_TM_twoNumbers_5 rfl ?_
    refine E_V3 (f1') d_TM_twoNumbers_6 ml_TM_212 cb_TM_figure cv_TM_figure (by exact ⟨by decide, rfl⟩) ⟨by decide, rfl⟩ ⟨by decide, by decide⟩ rfl (Nat.le_of_ble_eq_true rfl) (Nat.le_of_ble_eq_true rfl) (kI fun r1 M1 hc => ?_)
    obtain ⟨rfl, rfl⟩ := hc
    refine E_istore_6 d_TM_twoNumbers_9 rfl ?_
    refine E_iload d_TM_twoNumbers_11 rfl ?_
    first | (with_reducible refine E_isP ?_; refine E_if_eq 19 d_TM_twoNumbers_13 rfl (pb_0 fun h13 => ?_) (pb_1 fun h13 => ?_)) | (with_reducible refine E_isN1 ?_; refine E_if_eq 19 d_TM_twoNumbers_13 rfl (nz_eq (by omega) fun h13 => ?_) (nz_ne fun h13 => ?_)) | refine E_if_eq 19 d_TM_twoNumbers_13 rfl (fun h13 => ?_) (fun h13 => ?_)
    · exfalso; omega
    refine E_iload d_TM_twoNumbers_16 rfl ?_
    refine E_retI d_TM_twoNumbers_18 rfl ?_
    exact ⟨rfl, hK, Fx.rf, fun _ _ _ _ => rfl, w, hw, hwk, fun z => absurd z q⟩
  · have q := Decidable.not_not.mp q
    have e : twoN (SS l) (VV l) top wj top2 k = (tw2 (SS l) (VV l) wj top2 k) := by
      unfold twoN
      rw [if_neg (fun z => z q)]
      rfl
    have f1' : E 2 0 0 Y_TM_figure 0 [some (.ref 0), some (.int (nI (x + 1))), some (.int (nI 0)), some (.int (nI top))] [] GM M (QI GM fun r M' => r = nI 0 ∧ TKM l (k + 1) M' ∧ mI M' 3 (x + 1) = nI (VV l k) ∧ (∀ i, i ≠ x + 1 → mI M' 3 i = mI M 3 i) ∧ Fx Jn A3' M M') := E_mono f1 (fun _ _ _ y => by obtain ⟨a, r, b, z⟩ := y; exact ⟨a, r, b, z.2 q⟩)
    rw [e]
    have m1 : ∀ M1, TKM l (k + 1) M1 ∧ mI M1 3 (x + 1) = nI (VV l k) ∧ (∀ i, i ≠ x + 1 → mI M1 3 i = mI M 3 i) ∧ Fx Jn A3' M M1 → E 3 0 0 Y_TM_twoNumbers 19 [some (.ref 0), some (.int (nI x)), some (.int (nI top)), some (.long (lN z)), none, some (.int (nI top2)), some (.int (nI 0))] [] GM M1 (QI GM fun r M' => r = nI (tw2 (SS l) (VV l) wj top2 k).f ∧ BQ l t s x w (tw2 (SS l) (VV l) wj top2 k) M M') := by
      intro M1 hd
      obtain ⟨hK1, d2, d3, d4⟩ := hd
      have hR := hR.fx d4
      have hT1 := hT.fx d4 (by unfold Jn; omega) (by decide)
      have w1 : mI M1 0 13 = nI w := (d4.2.2.1 13 (by unfold Jn; omega)).trans hw
      have iw := sp_TM_isWord hK1 wj z hj hz hzl
      by_cases q2 : SS l (k + 1) ≠ wj
      · rw [show tw2 (SS l) (VV l) wj top2 k = (1, k + 1, 0, 0, none) from if_pos q2]
        first | refine E_aload_n d_TM_twoNumbers_19 rfl ?_ | refine E_aload_nN d_TM_twoNumbers_19 rfl ?_
        refine E_lload_n d_TM_twoNumbers_20 rfl ?_
        refine E_V1 (iw) d_TM_twoNumbers_21 ml_TM_183 cb_TM_isWord cv_TM_isWord (by exact ⟨by decide, rfl⟩) ⟨by decide, rfl⟩ ⟨by decide, by decide⟩ rfl (Nat.le_of_ble_eq_true rfl) (Nat.le_of_ble_eq_true rfl) (kI fun r1 M1 hc => ?_)
        obtain ⟨rfl, rfl⟩ := hc
        first | (with_reducible refine E_isP ?_; refine E_if_ne 29 d_TM_twoNumbers_24 rfl (pb_1 fun h24 => ?_) (pb_0 fun h24 => ?_)) | (with_reducible refine E_isN1 ?_; refine E_if_ne 29 d_TM_twoNumbers_24 rfl (nz_ne fun h24 => ?_) (nz_eq (by omega) fun h24 => ?_)) | refine E_if_ne 29 d_TM_twoNumbers_24 rfl (fun h24 => ?_) (fun h24 => ?_)
        · exfalso; exact q2 h24
        refine E_iconst (v := nI 1) d_TM_twoNumbers_27 rfl ?_
        refine E_retI d_TM_twoNumbers_28 rfl ?_
        exact ⟨rfl, hK1, d4.jn, fun i i1 _ _ => d3 i i1, w, w1, by show w ≤ k + 1; omega, fun z => absurd z (by show ¬ 1 = 0; decide)⟩
      · rw [show tw2 (SS l) (VV l) wj top2 k = tw3 (SS l) (VV l) top2 k from if_neg q2]
        have nx := sp_TM_next hR hT1 hK1
        have m2 : ∀ M2, TKM l (k + 1 + 1) M2 ∧ Fx Jn An M1 M2 → E 2 0 0 Y_TM_figure 0 [some (.ref 0), some (.int (nI (x + 2))), some (.int (nI 0)), some (.int (nI top2))] [] GM M2 (QI GM fun r M' => r = nI (tw3 (SS l) (VV l) top2 k).f ∧ BQ l t s x w (tw3 (SS l) (VV l) top2 k) M M') := by
          intro M2 hc
          have e3 : mI M2 3 = mI M1 3 := hc.2.2.1 3 (by decide) (fun z => z)
          have x2 : Fx Jn A3' M M2 := d4.tr (hc.2.wk (fun j z => z) (fun a z => absurd z (fun y => y)))
          have w2 : mI M2 0 13 = nI w := (hc.2.2.2.1 13 (by unfold Jn; omega)).trans w1
          refine E_mono (sp_TM_figure (hR.fx hc.2) (hT1.fx hc.2 (by unfold Jn; omega) (fun z => z)) hc.1 (x := x + 2) (lo := 0) (hi := top2) (by omega) (Nat.zero_le _) ht2) (fun _ _ _ y => ?_)
          obtain ⟨a, r, b, z1, z2⟩ := y
          refine ⟨a, r, b, ?_⟩
          by_cases q3 : numF (SS l) (VV l) 0 top2 (k + 2) ≠ 0
          · obtain ⟨rfl, rfl⟩ := z1 q3
            rw [show tw3 (SS l) (VV l) top2 k = (numF (SS l) (VV l) 0 top2 (k + 2), k + 2, 0, 0, none) from if_pos q3]
            exact ⟨rfl, hc.1, x2.jn, fun i i1 _ _ => by rw [e3]; exact d3 i i1, w, w2, by show w ≤ k + 2; omega, fun z => absurd z q3⟩
          · have q3 := Decidable.not_not.mp q3
            obtain ⟨rfl, y1, y2, y3, y4⟩ := z2 q3
            rw [show tw3 (SS l) (VV l) top2 k = (0, k + 3, VV l k, VV l (k + 2), none) from if_neg (fun z => z q3)]
            refine ⟨rfl, y1, (x2.tr y4).jn, fun i i1 i2 _ => by rw [y3 i i2, e3]; exact d3 i i1, w, (y4.2.2.1 13 (by unfold Jn; omega)).trans w2, by show w ≤ k + 3; omega, fun _ => ⟨fun z => by omega, fun _ => ⟨rfl, ?_, fun _ => y2⟩⟩⟩
            rw [y3 (x + 1) (by omega), e3]
            exact d2
        first | refine E_aload_n d_TM_twoNumbers_19 rfl ?_ | refine E_aload_nN d_TM_twoNumbers_19 rfl ?_
        refine E_lload_n d_TM_twoNumbers_20 rfl ?_
        refine E_V1 (iw) d_TM_twoNumbers_21 ml_TM_183 cb_TM_isWord cv_TM_isWord (by exact ⟨by decide, rfl⟩) ⟨by decide, rfl⟩ ⟨by decide, by decide⟩ rfl (Nat.le_of_ble_eq_true rfl) (Nat.le_of_ble_eq_true rfl) (kI fun r1 M1 hc => ?_)
        obtain ⟨rfl, rfl⟩ := hc
        first | (with_reducible refine E_isP ?_; refine E_if_ne 29 d_TM_twoNumbers_24 rfl (pb_1 fun h24 => ?_) (pb_0 fun h24 => ?_)) | (with_reducible refine E_isN1 ?_; refine E_if_ne 29 d_TM_twoNumbers_24 rfl (nz_ne fun h24 => ?_) (nz_eq (by omega) fun h24 => ?_)) | refine E_if_ne 29 d_TM_twoNumbers_24 rfl (fun h24 => ?_) (fun h24 => ?_)
        rotate_left
        · exfalso; exact h24 (Decidable.not_not.mp q2)
        first | refine E_aload_n d_TM_twoNumbers_29 rfl ?_ | refine E_aload_nN d_TM_twoNumbers_29 rfl ?_
        refine E_V0 (nx) d_TM_twoNumbers_30 ml_TM_165 cb_TM_nextToken cv_TM_nextToken (by exact ⟨by decide, rfl⟩) ⟨by decide, rfl⟩ ⟨by decide, by decide⟩ rfl (Nat.le_of_ble_eq_true rfl) (Nat.le_of_ble_eq_true rfl) (kV fun M1 hc => ?_)
        have hc1 := hc
        first | refine E_aload_n d_TM_twoNumbers_33 rfl ?_ | refine E_aload_nN d_TM_twoNumbers_33 rfl ?_
        refine E_iload_n d_TM_twoNumbers_34 rfl ?_
        refine E_iconst (v := nI 2) d_TM_twoNumbers_35 rfl ?_
        first | (with_reducible refine E_isN2 ?_; refine E_iaddN d_TM_twoNumbers_36 ?_) | refine E_iadd d_TM_twoNumbers_36 ?_
        refine E_iconst (v := nI 0) d_TM_twoNumbers_37 rfl ?_
        refine E_iload d_TM_twoNumbers_38 rfl ?_
        refine E_V3 (m2 _ hc1) d_TM_twoNumbers_40 ml_TM_212 cb_TM_figure cv_TM_figure (by exact ⟨by decide, rfl⟩) ⟨by decide, rfl⟩ ⟨by decide, by decide⟩ rfl (Nat.le_of_ble_eq_true rfl) (Nat.le_of_ble_eq_true rfl) (kI fun r1 M1 hc => ?_)
        skip
        refine E_retI d_TM_twoNumbers_43 rfl ?_
        exact hc
    first | refine E_aload_n d_TM_twoNumbers_0 rfl ?_ | refine E_aload_nN d_TM_twoNumbers_0 rfl ?_
    refine E_iload_n d_TM_twoNumbers_1 rfl ?_
    refine E_iconst (v := nI 1) d_TM_twoNumbers_2 rfl ?_
    first | (with_reducible refine E_isN2 ?_; refine E_iaddN d_TM_twoNumbers_3 ?_) | refine E_iadd d_TM_twoNumbers_3 ?_
    refine E_iconst (v := nI 0) d_TM_twoNumbers_4 rfl ?_
    refine E_iload_n d_TM_twoNumbers_5 rfl ?_
    refine E_V3 (f1') d_TM_twoNumbers_6 ml_TM_212 cb_TM_figure cv_TM_figure (by exact ⟨by decide, rfl⟩) ⟨by decide, rfl⟩ ⟨by decide, by decide⟩ rfl (Nat.le_of_ble_eq_true rfl) (Nat.le_of_ble_eq_true rfl) (kI fun r1 M1 hc => ?_)
    obtain ⟨rfl, hc⟩ := hc
    refine E_istore_6 d_TM_twoNumbers_9 rfl ?_
    refine E_iload d_TM_twoNumbers_11 rfl ?_
    first | (with_reducible refine E_isP ?_; refine E_if_eq 19 d_TM_twoNumbers_13 rfl (pb_0 fun h13 => ?_) (pb_1 fun h13 => ?_)) | (with_reducible refine E_isN1 ?_; refine E_if_eq 19 d_TM_twoNumbers_13 rfl (nz_eq (by omega) fun h13 => ?_) (nz_ne fun h13 => ?_)) | refine E_if_eq 19 d_TM_twoNumbers_13 rfl (fun h13 => ?_) (fun h13 => ?_)
    rotate_left
    · exfalso; omega
    exact m1 _ hc
theorem sp_TM_lawClause (hR : MR M) (hT : TapeM l M) (hK : TKM l k M) (hv : vk l k) {x w : Nat} (ht : t ≤ 3) (hx : 681 * t ≤ x) (hx2 : x + 2 < 681 * t + 73) (hs : s ≤ 1) (h12 : mI M 0 12 = nI (681 * t)) (h14 : mI M 0 14 = nI s) (hw : mI M 0 13 = nI w) (hwk : w ≤ k) (b : Nat) :
    E 8 0 0 Y_TM_lawClause 0 [some (.ref 0), some (.int (nI x)), none] [] GM M (QI GM fun r M' => r = nI (lawN (SS l) (VV l) s k b).f ∧ TKM l (lawN (SS l) (VV l) s k b).k M' ∧ Fx JP AP M M' ∧ (∀ i, i ≠ x + 1 → i ≠ x + 2 → (i < 681 * t + 73 + 2 * w ∨ 681 * t + 681 ≤ i) → mI M' 3 i = mI M 3 i) ∧ ∃ w', mI M' 0 13 = nI w' ∧ w' ≤ (lawN (SS l) (VV l) s k b).k ∧
    ((lawN (SS l) (VV l) s k b).f = 0 → ∃ q, (lawN (SS l) (VV l) s k b).q = some q ∧ w' = w + q.1.length ∧ mI M' 3 (x + 1) = nI w ∧ mI M' 3 (x + 2) = nI w' ∧ RepCode q.1 (mI M' 3) (681 * t + 73 + 2 * w))) := by
  have hl3 := hv.le
  have hT1 := hT.1
  have x1 : Fo 0 (fun _ => False) A3' M (wI M 3 (x + 1) (nI w)) := (Fo.rf (o := 0)).wJ (b := 3) (by decide) rfl
  have e0 : mI (wI M 3 (x + 1) (nI w)) 0 = mI M 0 := mI_ne (by decide)
  have hE : EmS l t s w (wI M 3 (x + 1) (nI w)) [] (wI M 3 (x + 1) (nI w)) := ⟨hR.fx x1.fx, hT.fx x1.fx (fun z => z) (by decide), by rw [e0]; exact h12, by rw [e0]; exact hw, by rw [e0]; exact h14, fun i hi => absurd hi (Nat.not_lt_zero i), fun _ _ => rfl, Fx.rf, ht, hs⟩
  have sm := sp_TM_summed hE (hK.fo x1 (fun j z => absurd z (fun y => y))) hv hwk b
  have hf6 := (gdF_RDF (S := SS l) (V := VV l) (sw := s) 8).1.sum k b
  unfold lawN
  generalize sumR (SS l) (RDF (SS l) (VV l) s 8).1 k b = r at *
  have m1 : ∀ M3, MFi l t s w (wI M 3 (x + 1) (nI w)) r.f r.k r.cm M3 → ∃ w', mI M3 0 13 = nI w' ∧ TKM l r.k (wI M3 3 (x + 2) (nI w')) ∧ Fx JP AP M (wI M3 3 (x + 2) (nI w')) ∧ (∀ i, i ≠ x + 1 → i ≠ x + 2 → (i < 681 * t + 73 + 2 * w ∨ 681 * t + 681 ≤ i) → mI (wI M3 3 (x + 2) (nI w')) 3 i = mI M 3 i) ∧ mI (wI M3 3 (x + 2) (nI w')) 0 13 = nI w' ∧ w' ≤ r.k ∧
      (r.f = 0 → ∃ q, some (r.cm, r.cc) = some q ∧ w' = w + q.1.length ∧ mI (wI M3 3 (x + 2) (nI w')) 3 (x + 1) = nI w ∧ mI (wI M3 3 (x + 2) (nI w')) 3 (x + 2) = nI w' ∧ RepCode q.1 (mI (wI M3 3 (x + 2) (nI w')) 3) (681 * t + 73 + 2 * w)) := by
    intro M3 hc
    obtain ⟨cm', c1, c2, c3, c4, c5⟩ := hc
    obtain ⟨g1, g2, g3, g4, g5, g6, g7, g8, g9⟩ := c2
    have x3 : Fo 0 (fun _ => False) A3' M3 (wI M3 3 (x + 2) (nI (w + cm'.length))) := (Fo.rf (o := 0)).wJ (b := 3) (by decide) rfl
    refine ⟨w + cm'.length, g4, c3.fo x3 (fun j z => absurd z (fun y => y)), ((x1.fx.wk (fun j z => absurd z (fun y => y)) (fun a z => Or.inl z)).tr g8).tr (x3.fx.wk (fun j z => absurd z (fun y => y)) (fun a z => Or.inl z)), fun i i1 i2 hi => ?_, by rw [mI_wx (by decide)]; exact g4, c5, fun q0 => ⟨_, rfl, by rw [c1 q0], ?_, by rw [mI_wa, if_pos rfl], fun i hi => ?_⟩⟩
    · rw [mI_wa, if_neg i2, g7 i hi, mI_wa, if_neg i1]
    · rw [mI_wa, if_neg (by omega), g7 (x + 1) (by omega), mI_wa, if_pos rfl]
    · have hi : i < r.cm.length := hi
      rw [mI_wa, if_neg (by omega), mI_wa, if_neg (by omega)]
      have := g6 i (by rw [c1 q0]; exact hi)
      rw [c1 q0] at this
      exact this
  first | refine E_aload_n d_TM_lawClause_0 rfl ?_ | refine E_aload_nN d_TM_lawClause_0 rfl ?_
  refine E_getR (q := 3) d_TM_lawClause_1 gf_TM_16 (by exact ⟨by decide, rfl⟩) (by first | exact hR _ rfl | (obtain ⟨_, _, c2, _⟩ := hc; exact c2.1 _ rfl)) ?_
  refine E_iload_n d_TM_lawClause_4 rfl ?_
  refine E_iconst (v := nI 1) d_TM_lawClause_5 rfl ?_
  first | (with_reducible refine E_isN2 ?_; refine E_iaddN d_TM_lawClause_6 ?_) | refine E_iadd d_TM_lawClause_6 ?_
  first | refine E_aload_n d_TM_lawClause_7 rfl ?_ | refine E_aload_nN d_TM_lawClause_7 rfl ?_
  refine E_getI d_TM_lawClause_8 gf_TM_135 (by exact ⟨by decide, rfl⟩) (by exact hw) ?_
  refine E_iast d_TM_lawClause_11 (by exact ⟨by decide, rfl⟩) (by exact ⟨by with_reducible rfl, by omega, by decide⟩) ?_
  first | refine E_aload_n d_TM_lawClause_12 rfl ?_ | refine E_aload_nN d_TM_lawClause_12 rfl ?_
  refine E_V0 (sm) d_TM_lawClause_13 ml_TM_209 cb_TM_summed cv_TM_summed (by exact ⟨by decide, rfl⟩) ⟨by decide, rfl⟩ ⟨by decide, by decide⟩ rfl (Nat.le_of_ble_eq_true rfl) (Nat.le_of_ble_eq_true rfl) (kI fun r1 M1 hc => ?_)
  obtain ⟨rfl, hc⟩ := hc
  refine E_istore_2 d_TM_lawClause_16 rfl ?_
  first | refine E_aload_n d_TM_lawClause_17 rfl ?_ | refine E_aload_nN d_TM_lawClause_17 rfl ?_
  refine E_getR (q := 3) d_TM_lawClause_18 gf_TM_16 (by exact ⟨by decide, rfl⟩) (by first | exact hR _ rfl | (obtain ⟨_, _, c2, _⟩ := hc; exact c2.1 _ rfl)) ?_
  refine E_iload_n d_TM_lawClause_21 rfl ?_
  refine E_iconst (v := nI 2) d_TM_lawClause_22 rfl ?_
  first | (with_reducible refine E_isN2 ?_; refine E_iaddN d_TM_lawClause_23 ?_) | refine E_iadd d_TM_lawClause_23 ?_
  obtain ⟨w', z1, z2⟩ := m1 _ hc
  first | refine E_aload_n d_TM_lawClause_24 rfl ?_ | refine E_aload_nN d_TM_lawClause_24 rfl ?_
  refine E_getI d_TM_lawClause_25 gf_TM_135 (by exact ⟨by decide, rfl⟩) (by exact z1) ?_
  refine E_iast d_TM_lawClause_28 (by exact ⟨by decide, rfl⟩) (by exact ⟨by with_reducible rfl, by omega, by decide⟩) ?_
  refine E_iload_n d_TM_lawClause_29 rfl ?_
  refine E_retI d_TM_lawClause_30 rfl ?_
  exact ⟨rfl, z2.1, z2.2.1, z2.2.2.1, w', z2.2.2.2.1, z2.2.2.2.2.1, z2.2.2.2.2.2⟩
end MQh
