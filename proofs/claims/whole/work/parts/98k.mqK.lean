section MQk
variable {M M0 : Mem} {l : List Nat} {k t s w0 : Nat}
def CRo (l : List Nat) (t : Nat) (M0 : Mem) (c : CR) (r : Int32) (M' : Mem) : Prop := r = nI c.f ∧ (c.f = 0 → ∃ w', TS l t M0 c.k c.t w' M') ∧ (c.f ≠ 0 → FT l t M0 c.k M')
theorem CRo.fl {f k : Nat} {tt : CT} {b : Nat} (hf : f ≠ 0) (h : FT l t M0 k M) : CRo l t M0 (f, k, tt, b) (nI f) M := ⟨rfl, fun z => absurd z hf, fun _ => h⟩
theorem cl_mid {tt : CT} {k w s b : Nat} (hS : TS l t M0 k tt w M) (hs : s ≤ 9 ∧ s ≠ 3 ∧ s ≠ 5) (hk : SS l k = s) (h24 : tt.cl.length < 24) (h2 : ¬ ((s = 0 ∧ tt.sy.isSome = true) ∨ (s = 1 ∧ tt.sw.isSome = true))) {M1 : Mem} (x1 : Fo 0 (fun j => j = 19) An M M1)
    (h19 : mI M1 0 19 = nI (if s ≤ 1 then onN tt ||| 2 ^ s else onN tt)) : E 10 0 0 Y_TM_clause 65 [some (.ref 0), some (.int (nI (kdS s))), some (.int (nI tt.cl.length)), none, none] [] GM M1 (QI GM fun r M' => CRo l t M0 (clR (SS l) (VV l) k tt b) r M') := by
  obtain ⟨hR0, hT0, hK0, hv, h12, h13, hwk, h19', hn, -, hC, hF, hX0, hTK, ht⟩ := id hS
  have ec : clR (SS l) (VV l) k tt b = cluN (SS l) s (restR (SS l) (VV l) s (k + 1) b) tt b := by
    unfold clR
    rw [hk, if_neg (fun z => z hs), if_neg h2, if_neg (by omega)]
  rw [ec]
  obtain ⟨-, -, -, m4⟩ := kd_km hs
  have x2 : Fo 0 (fun j => j = 14) An M1 (wI M1 0 14 (nI (kdS s))) := Fo.rf.wI rfl
  have x02 : Fo 0 (fun j => j = 19 ∨ j = 14) An M (wI M1 0 14 (nI (kdS s))) := (x1.wk (fun j z => Or.inl z) (fun a z => z)).tr (x2.wk (fun j z => Or.inr z) (fun a z => z))
  have hR2 := hR0.fx x02.fx
  have hT2 := hT0.fx x02.fx (by decide) (fun z => z)
  have hK2 := hK0.fo x02 (fun j z => by omega)
  have hR : MR M1 := hR0.fx x1.fx
  have nx := sp_TM_next hR2 hT2 hK2
  have h40 : SS l k ≠ 40 := by omega
  have hv1 := hv.s h40
  have e14 : mI (wI M1 0 14 (nI (kdS s))) 0 14 = nI (kdS s) := by rw [mI_wa, if_pos rfl]
  have pc : ∀ M3, TKM l (k + 1) M3 ∧ Fx Jn An (wI M1 0 14 (nI (kdS s))) M3 → PC l t s w k tt.cl.length M (wI M3 3 (681 * t + 1 + 3 * tt.cl.length) (nI (kdS s))) ∧ mI (wI M3 3 (681 * t + 1 + 3 * tt.cl.length) (nI (kdS s))) 0 19 = nI (if s ≤ 1 then onN tt ||| 2 ^ s else onN tt) := by
    intro M3 hc
    have x4 : Fo 0 (fun _ => False) A3' M3 (wI M3 3 (681 * t + 1 + 3 * tt.cl.length) (nI (kdS s))) := (Fo.rf (o := 0)).wJ (b := 3) (by decide) rfl
    have f3 : ∀ j, ¬ Jn j → mI (wI M3 3 (681 * t + 1 + 3 * tt.cl.length) (nI (kdS s))) 0 j = mI (wI M1 0 14 (nI (kdS s))) 0 j := fun j hj => by rw [mI_wx (by decide), hc.2.2.2.1 j hj]
    have f0 : ∀ j, ¬ Jn j → j ≠ 14 → j ≠ 19 → mI (wI M3 3 (681 * t + 1 + 3 * tt.cl.length) (nI (kdS s))) 0 j = mI M 0 j := fun j hj a b => by rw [f3 j hj, x02.2.2.1 j (by omega)]
    have xx : Fx JT AP M (wI M3 3 (681 * t + 1 + 3 * tt.cl.length) (nI (kdS s))) := ((x02.fx.wk (fun j z => Or.inr (by omega)) (fun a z => absurd z (fun y => y))).tr (hc.2.wk (fun j z => Or.inl (Or.inl z)) (fun a z => absurd z (fun y => y)))).tr (x4.fx.wk (fun j z => absurd z (fun y => y)) (fun a z => Or.inl z))
    refine ⟨⟨(hR2.fx hc.2).fx x4.fx, hT0.fx xx (by unfold JT JP; omega) (by unfold AP; omega), hc.1.fo x4 (fun j z => absurd z (fun y => y)), (f0 12 (by unfold Jn; omega) (by decide) (by decide)).trans h12, (f0 13 (by unfold Jn; omega) (by decide) (by decide)).trans h13, (f3 14 (by unfold Jn; omega)).trans e14, xx, fun i => ?_⟩, ?_⟩
    · rw [mI_wa, hc.2.2.1 3 (by decide) (fun z => z), x02.2.1 3 (by decide) (fun z => z)]
    · rw [f3 19 (by unfold Jn; omega), mI_wa, if_neg (by decide)]
      exact h19
  have bd : ∀ M3, TKM l (k + 1) M3 ∧ Fx Jn An (wI M1 0 14 (nI (kdS s))) M3 → E 9 0 0 Y_TM_body 0 [some (.ref 0), some (.int (nI (kdS s))), some (.int (nI (681 * t + 1 + 3 * tt.cl.length)))] [] GM (wI M3 3 (681 * t + 1 + 3 * tt.cl.length) (nI (kdS s))) (QI GM fun r M' => r = nI (restR (SS l) (VV l) s (k + 1) b).f ∧ BP l t s (681 * t + 1 + 3 * tt.cl.length) w (restR (SS l) (VV l) s (k + 1) b) (wI M3 3 (681 * t + 1 + 3 * tt.cl.length) (nI (kdS s))) M') := fun M3 hc => by
    obtain ⟨⟨p1, p2, p3, p4, p5, p6, p7, p8⟩, -⟩ := pc M3 hc
    exact sp_TM_body p1 p2 p3 hv1 ht (by omega) (by omega) hs p4 p6 p5 (by omega) b
  have fin := fun M3 M5 M7 hc (hB : BP l t s (681 * t + 1 + 3 * tt.cl.length) w (restR (SS l) (VV l) s (k + 1) b) (wI M3 3 (681 * t + 1 + 3 * tt.cl.length) (nI (kdS s))) M5) h0 h38 hK hX => cl_finM (M7 := M7) hS hs hk h24 h2 rfl (pc M3 hc).1 (pc M3 hc).2 hB h0 h38 hK hX
  have gn := Gn.rest (S := SS l) (V := VV l) s (k + 1) b
  have flt : ∀ M3, TKM l (k + 1) M3 ∧ Fx Jn An (wI M1 0 14 (nI (kdS s))) M3 → ∀ M5, BP l t s (681 * t + 1 + 3 * tt.cl.length) w (restR (SS l) (VV l) s (k + 1) b) (wI M3 3 (681 * t + 1 + 3 * tt.cl.length) (nI (kdS s))) M5 → FT l t M0 (restR (SS l) (VV l) s (k + 1) b).k M5 ∧ mI M5 3 (681 * t) = nI tt.cl.length ∧ mI M5 0 12 = nI (681 * t) ∧ MR M5 ∧ TapeM l M5 := fun M3 hc M5 hB => by
    obtain ⟨⟨p1, p2, p3, p4, p5, p6, p7, p8⟩, -⟩ := pc M3 hc
    refine ⟨FT_of hF hX0 hB.1 (fun i hi => ?_) (p7.tr (JP.jt hB.2.1)), ?_, ?_, p1.fx hB.2.1, p2.fx hB.2.1 (by unfold JP; omega) (by unfold AP; omega)⟩
    · rw [hB.2.2.1 i (by omega) (by omega) (by omega), p8, if_neg (by omega)]
    · rw [hB.2.2.1 (681 * t) (by omega) (by omega) (by omega), p8, if_neg (by omega)]; exact hn
    · rw [hB.2.1.2.2.1 12 (by unfold JP; omega)]; exact p4
  have tk : ∀ k1 M5, TKM l k1 M5 → ∃ tk, mI M5 0 9 = nI tk ∧ (tk = 59 ↔ SS l k1 = 38) ∧ tk < 256 := fun k1 M5 h => by
    obtain ⟨-, -, tk, n, w, h9, -, -, hT⟩ := h
    exact ⟨tk, h9, hT.tk.2.2.2.2.2.2.2.2.2.2.2.2.1, hT.2.2.2.1⟩
  generalize restR (SS l) (VV l) s (k + 1) b = r at *
  have m5 : ∀ M3, TKM l (k + 1) M3 ∧ Fx Jn An (wI M1 0 14 (nI (kdS s))) M3 → ∀ M5, BP l t s (681 * t + 1 + 3 * tt.cl.length) w r (wI M3 3 (681 * t + 1 + 3 * tt.cl.length) (nI (kdS s))) M5 → E 10 0 0 Y_TM_clause 100 [some (.ref 0), some (.int (nI (kdS s))), some (.int (nI tt.cl.length)), some (.int (nI (681 * t + 1 + 3 * tt.cl.length))), some (.int (nI r.f))] [] GM M5 (QI GM fun r' M' => CRo l t M0 (cluN (SS l) s r tt b) r' M') := by
    intro M3 hc M5 hB
    obtain ⟨f1, f2, f3, f4, f5⟩ := flt M3 hc M5 hB
    have hR := f4
    have hf5 := gn.1
    unfold cluN
    by_cases q0 : r.f ≠ 0
    · rw [if_pos q0]
      refine E_iload d_TM_clause_100 rfl ?_
      first | (with_reducible refine E_isP ?_; refine E_if_eq 108 d_TM_clause_102 rfl (pb_0 fun h102 => ?_) (pb_1 fun h102 => ?_)) | (with_reducible refine E_isN1 ?_; refine E_if_eq 108 d_TM_clause_102 rfl (nz_eq (by omega) fun h102 => ?_) (nz_ne fun h102 => ?_)) | refine E_if_eq 108 d_TM_clause_102 rfl (fun h102 => ?_) (fun h102 => ?_)
      · exfalso; omega
      refine E_iload d_TM_clause_105 rfl ?_
      refine E_retI d_TM_clause_107 rfl ?_
      exact CRo.fl q0 f1
    · have q0 := Decidable.not_not.mp q0
      rw [if_neg (fun z => z q0)]
      have x6 : Fo 0 (fun _ => False) A3' M5 (wI M5 3 (681 * t) (nI (tt.cl.length + 1))) := (Fo.rf (o := 0)).wJ (b := 3) (by decide) rfl
      have hK6 := f1.1.fo x6 (fun j z => absurd z (fun y => y))
      obtain ⟨tk, k1, k2, k3⟩ := tk r.k _ hK6
      by_cases q1 : SS l r.k ≠ 38
      · rw [if_pos q1]
        have f6 : FT l t M0 r.k (wI M5 3 (681 * t) (nI (tt.cl.length + 1))) := by
          refine ⟨hK6, fun i hi => ?_, f1.2.2.tr (x6.fx.wk (fun j z => absurd z (fun y => y)) (fun a z => Or.inl z))⟩
          rw [mI_wa, if_neg (by omega)]
          exact f1.2.1 i hi
        have kn : tk ≠ 59 := fun z => q1 (k2.mp z)
        refine E_iload d_TM_clause_100 rfl ?_
        first | (with_reducible refine E_isP ?_; refine E_if_eq 108 d_TM_clause_102 rfl (pb_0 fun h102 => ?_) (pb_1 fun h102 => ?_)) | (with_reducible refine E_isN1 ?_; refine E_if_eq 108 d_TM_clause_102 rfl (nz_eq (by omega) fun h102 => ?_) (nz_ne fun h102 => ?_)) | refine E_if_eq 108 d_TM_clause_102 rfl (fun h102 => ?_) (fun h102 => ?_)
        rotate_left
        · exfalso; omega
        first | refine E_aload_n d_TM_clause_108 rfl ?_ | refine E_aload_nN d_TM_clause_108 rfl ?_
        refine E_getR (q := 3) d_TM_clause_109 gf_TM_16 (by exact ⟨by decide, rfl⟩) (by exact hR _ rfl) ?_
        first | refine E_aload_n d_TM_clause_112 rfl ?_ | refine E_aload_nN d_TM_clause_112 rfl ?_
        refine E_getI d_TM_clause_113 gf_TM_132 (by exact ⟨by decide, rfl⟩) (by exact f3) ?_
        refine E_dup2 d_TM_clause_116 rfl rfl ?_
        refine E_iald d_TM_clause_117 (by exact ⟨by decide, rfl⟩) (by exact ⟨by with_reducible rfl, by omega, by decide⟩) (by exact f2) ?_
        refine E_iconst (v := nI 1) d_TM_clause_118 rfl ?_
        first | (with_reducible refine E_isN2 ?_; refine E_iaddN d_TM_clause_119 ?_) | refine E_iadd d_TM_clause_119 ?_
        refine E_iast d_TM_clause_120 (by exact ⟨by decide, rfl⟩) (by exact ⟨by with_reducible rfl, by omega, by decide⟩) ?_
        first | refine E_aload_n d_TM_clause_121 rfl ?_ | refine E_aload_nN d_TM_clause_121 rfl ?_
        refine E_getI d_TM_clause_122 gf_TM_94 (by exact ⟨by decide, rfl⟩) (by exact k1) ?_
        refine E_bipush (v := nI 59) d_TM_clause_125 (by decide) ?_
        first | (with_reducible refine E_isN2 ?_; refine E_icmp_eq 132 d_TM_clause_127 rfl (nb_eq (by omega) (by omega) fun h127 => ?_) (nb_ne fun h127 => ?_)) | refine E_icmp_eq 132 d_TM_clause_127 rfl (fun h127 => ?_) (fun h127 => ?_)
        · exfalso; exact kn h127
        refine E_iconst (v := nI 1) d_TM_clause_130 rfl ?_
        refine E_retI d_TM_clause_131 rfl ?_
        exact CRo.fl (by decide) f6
      · rw [if_neg q1]
        have q1 := Decidable.not_not.mp q1
        have kn : tk = 59 := k2.mpr q1
        have nx2 := sp_TM_next (f4.fx x6.fx) (f5.fx x6.fx (fun z => z) (by decide)) hK6
        have fi := fun M7 (hd : TKM l (r.k + 1) M7 ∧ Fx Jn An (wI M5 3 (681 * t) (nI (tt.cl.length + 1))) M7) => fin M3 M5 M7 hc hB q0 q1 hd.1 hd.2
        refine E_iload d_TM_clause_100 rfl ?_
        first | (with_reducible refine E_isP ?_; refine E_if_eq 108 d_TM_clause_102 rfl (pb_0 fun h102 => ?_) (pb_1 fun h102 => ?_)) | (with_reducible refine E_isN1 ?_; refine E_if_eq 108 d_TM_clause_102 rfl (nz_eq (by omega) fun h102 => ?_) (nz_ne fun h102 => ?_)) | refine E_if_eq 108 d_TM_clause_102 rfl (fun h102 => ?_) (fun h102 => ?_)
        rotate_left
        · exfalso; omega
        first | refine E_aload_n d_TM_clause_108 rfl ?_ | refine E_aload_nN d_TM_clause_108 rfl ?_
        refine E_getR (q := 3) d_TM_clause_109 gf_TM_16 (by exact ⟨by decide, rfl⟩) (by exact hR _ rfl) ?_
        first | refine E_aload_n d_TM_clause_112 rfl ?_ | refine E_aload_nN d_TM_clause_112 rfl ?_
        refine E_getI d_TM_clause_113 gf_TM_132 (by exact ⟨by decide, rfl⟩) (by exact f3) ?_
        refine E_dup2 d_TM_clause_116 rfl rfl ?_
        refine E_iald d_TM_clause_117 (by exact ⟨by decide, rfl⟩) (by exact ⟨by with_reducible rfl, by omega, by decide⟩) (by exact f2) ?_
        refine E_iconst (v := nI 1) d_TM_clause_118 rfl ?_
        first | (with_reducible refine E_isN2 ?_; refine E_iaddN d_TM_clause_119 ?_) | refine E_iadd d_TM_clause_119 ?_
        refine E_iast d_TM_clause_120 (by exact ⟨by decide, rfl⟩) (by exact ⟨by with_reducible rfl, by omega, by decide⟩) ?_
        first | refine E_aload_n d_TM_clause_121 rfl ?_ | refine E_aload_nN d_TM_clause_121 rfl ?_
        refine E_getI d_TM_clause_122 gf_TM_94 (by exact ⟨by decide, rfl⟩) (by exact k1) ?_
        refine E_bipush (v := nI 59) d_TM_clause_125 (by decide) ?_
        first | (with_reducible refine E_isN2 ?_; refine E_icmp_eq 132 d_TM_clause_127 rfl (nb_eq (by omega) (by omega) fun h127 => ?_) (nb_ne fun h127 => ?_)) | refine E_icmp_eq 132 d_TM_clause_127 rfl (fun h127 => ?_) (fun h127 => ?_)
        rotate_left
        · exfalso; exact h127 kn
        first | refine E_aload_n d_TM_clause_132 rfl ?_ | refine E_aload_nN d_TM_clause_132 rfl ?_
        refine E_V0 (nx2) d_TM_clause_133 ml_TM_165 cb_TM_nextToken cv_TM_nextToken (by exact ⟨by decide, rfl⟩) ⟨by decide, rfl⟩ ⟨by decide, by decide⟩ rfl (Nat.le_of_ble_eq_true rfl) (Nat.le_of_ble_eq_true rfl) (kV fun M1 hc => ?_)
        skip
        refine E_iconst (v := nI 0) d_TM_clause_136 rfl ?_
        refine E_retI d_TM_clause_137 rfl ?_
        exact ⟨rfl, fun _ => fi _ hc, fun z => absurd rfl z⟩
  have h12' : ∀ M3, Fx Jn An (wI M1 0 14 (nI (kdS s))) M3 → mI M3 0 12 = nI (681 * t) := fun M3 hx => by rw [hx.2.2.1 12 (by unfold Jn; omega), x02.2.2.1 12 (by decide)]; exact h12
  first | refine E_aload_n d_TM_clause_65 rfl ?_ | refine E_aload_nN d_TM_clause_65 rfl ?_
  refine E_iload_n d_TM_clause_66 rfl ?_
  refine E_putI d_TM_clause_67 gf_TM_142 (by exact ⟨by decide, rfl⟩) rfl rfl ?_
  first | refine E_aload_n d_TM_clause_70 rfl ?_ | refine E_aload_nN d_TM_clause_70 rfl ?_
  refine E_V0 (nx) d_TM_clause_71 ml_TM_165 cb_TM_nextToken cv_TM_nextToken (by exact ⟨by decide, rfl⟩) ⟨by decide, rfl⟩ ⟨by decide, by decide⟩ rfl (Nat.le_of_ble_eq_true rfl) (Nat.le_of_ble_eq_true rfl) (kV fun M1 hc => ?_)
  have hcn := hc
  first | refine E_aload_n d_TM_clause_74 rfl ?_ | refine E_aload_nN d_TM_clause_74 rfl ?_
  refine E_getI d_TM_clause_75 gf_TM_132 (by exact ⟨by decide, rfl⟩) (by exact h12' _ hcn.2) ?_
  refine E_iconst (v := nI 1) d_TM_clause_78 rfl ?_
  first | (with_reducible refine E_isN2 ?_; refine E_iaddN d_TM_clause_79 ?_) | refine E_iadd d_TM_clause_79 ?_
  refine E_iconst (v := nI 3) d_TM_clause_80 rfl ?_
  refine E_iload_n d_TM_clause_81 rfl ?_
  first | (with_reducible refine E_isN2 ?_; refine E_imulN d_TM_clause_82 ?_) | refine E_imul d_TM_clause_82 ?_
  first | (with_reducible refine E_isN2 ?_; refine E_iaddN d_TM_clause_83 ?_) | refine E_iadd d_TM_clause_83 ?_
  refine E_istore_3 d_TM_clause_84 rfl ?_
  first | refine E_aload_n d_TM_clause_85 rfl ?_ | refine E_aload_nN d_TM_clause_85 rfl ?_
  refine E_getR (q := 3) d_TM_clause_86 gf_TM_16 (by exact ⟨by decide, rfl⟩) (by first | exact hR _ rfl | exact (hR2.fx hcn.2) _ rfl) ?_
  refine E_iload_n d_TM_clause_89 rfl ?_
  refine E_iload_n d_TM_clause_90 rfl ?_
  refine E_iast d_TM_clause_91 (by exact ⟨by decide, rfl⟩) (by exact ⟨by with_reducible rfl, by omega, by decide⟩) ?_
  first | refine E_aload_n d_TM_clause_92 rfl ?_ | refine E_aload_nN d_TM_clause_92 rfl ?_
  refine E_iload_n d_TM_clause_93 rfl ?_
  refine E_iload_n d_TM_clause_94 rfl ?_
  refine E_V2 (bd _ hcn) d_TM_clause_95 ml_TM_233 cb_TM_body cv_TM_body (by exact ⟨by decide, rfl⟩) ⟨by decide, rfl⟩ ⟨by decide, by decide⟩ rfl (Nat.le_of_ble_eq_true rfl) (Nat.le_of_ble_eq_true rfl) (kI fun r1 M1 hc => ?_)
  obtain ⟨rfl, hc⟩ := hc
  refine E_istore_4 d_TM_clause_98 rfl ?_
  exact m5 _ hcn _ hc
theorem sp_TM_clause {tt : CT} {k w b : Nat} (hS : TS l t M0 k tt w M) (h40 : SS l k ≠ 40) : E 10 0 0 Y_TM_clause 0 [some (.ref 0), none, none, none, none] [] GM M (QI GM fun r M' => CRo l t M0 (clR (SS l) (VV l) k tt b) r M') := by
  obtain ⟨hR, hT, hK, hv, h12, h13, hwk, h19, hn, hn24, hC, hF, hX0, hTK, ht⟩ := id hS
  have so := sp_TM_sortOf hK
  have ft : FT l t M0 k M := ⟨hK, hF, hX0⟩
  generalize hsv : SS l k = s at *
  by_cases d1 : ¬ (s ≤ 9 ∧ s ≠ 3 ∧ s ≠ 5)
  · have e : clR (SS l) (VV l) k tt b = (1, k, tt, b) := by unfold clR; rw [hsv, if_pos d1]
    rw [e]
    rw [show soV s = -1 from if_neg d1] at so
    first | refine E_aload_n d_TM_clause_0 rfl ?_ | refine E_aload_nN d_TM_clause_0 rfl ?_
    refine E_V0 (so) d_TM_clause_1 ml_TM_223 cb_TM_sortOf cv_TM_sortOf (by exact ⟨by decide, rfl⟩) ⟨by decide, rfl⟩ ⟨by decide, by decide⟩ rfl (Nat.le_of_ble_eq_true rfl) (Nat.le_of_ble_eq_true rfl) (kI fun r1 M1 hc => ?_)
    obtain ⟨rfl, rfl⟩ := hc
    refine E_istore_1 d_TM_clause_4 rfl ?_
    refine E_iload_n d_TM_clause_5 rfl ?_
    first | (with_reducible refine E_isN1 ?_; refine E_if_ge 11 d_TM_clause_6 rfl (nz_ge (by omega) fun h6 => ?_) (nz_nge (by omega) fun h6 => ?_)) | refine E_if_ge 11 d_TM_clause_6 rfl (fun h6 => ?_) (fun h6 => ?_)
    · exfalso; exact absurd h6 (by decide)
    refine E_iconst (v := nI 1) d_TM_clause_9 rfl ?_
    refine E_retI d_TM_clause_10 rfl ?_
    exact CRo.fl (by decide) ft
  · have d1 := Decidable.not_not.mp d1
    rw [show soV s = nI (kdS s) from if_pos d1] at so
    obtain ⟨b0, b1, b4⟩ := onN_b tt
    have ks : s ≤ 1 → kdS s = s := fun z => by unfold kdS; rw [if_pos (by omega)]
    have ks2 : 2 ≤ s → 2 ≤ kdS s := fun z => by have := kdS_01 d1; omega
    have ks8 : kdS s ≤ 7 := (kd_km d1).2.2.2
    by_cases d2 : (s = 0 ∧ tt.sy.isSome = true) ∨ (s = 1 ∧ tt.sw.isSome = true)
    · have e : clR (SS l) (VV l) k tt b = (4, k, tt, b) := by unfold clR; rw [hsv, if_neg (fun z => z d1), if_pos d2]
      have hb : (onN tt).testBit (kdS s) = true := by
        rw [ks (by omega)]
        rcases d2 with ⟨rfl, z⟩ | ⟨rfl, z⟩
        · exact b0.mpr z
        · exact b1.mpr z
      have k1 : kdS s ≤ 1 := by rw [ks (by omega)]; omega
      rw [e]
      have hs2 := sp_TM_has (G := GM) (M := M) (onN tt) (kdS s) (by omega) (by omega)
      clear ks ks2
      generalize kdS s = kd at *
      first | refine E_aload_n d_TM_clause_0 rfl ?_ | refine E_aload_nN d_TM_clause_0 rfl ?_
      refine E_V0 (so) d_TM_clause_1 ml_TM_223 cb_TM_sortOf cv_TM_sortOf (by exact ⟨by decide, rfl⟩) ⟨by decide, rfl⟩ ⟨by decide, by decide⟩ rfl (Nat.le_of_ble_eq_true rfl) (Nat.le_of_ble_eq_true rfl) (kI fun r1 M1 hc => ?_)
      obtain ⟨rfl, rfl⟩ := hc
      refine E_istore_1 d_TM_clause_4 rfl ?_
      refine E_iload_n d_TM_clause_5 rfl ?_
      first | (with_reducible refine E_isN1 ?_; refine E_if_ge 11 d_TM_clause_6 rfl (nz_ge (by omega) fun h6 => ?_) (nz_nge (by omega) fun h6 => ?_)) | refine E_if_ge 11 d_TM_clause_6 rfl (fun h6 => ?_) (fun h6 => ?_)
      rotate_left
      · exfalso; omega
      refine E_iload_n d_TM_clause_11 rfl ?_
      refine E_iconst (v := nI 1) d_TM_clause_12 rfl ?_
      first | (with_reducible refine E_isN2 ?_; refine E_icmp_gt 29 d_TM_clause_13 rfl (nb_lt (by omega) (by omega) fun h13 => ?_) (nb_nlt (by omega) (by omega) fun h13 => ?_)) | refine E_icmp_gt 29 d_TM_clause_13 rfl (fun h13 => ?_) (fun h13 => ?_)
      · exfalso; omega
      first | refine E_aload_n d_TM_clause_16 rfl ?_ | refine E_aload_nN d_TM_clause_16 rfl ?_
      refine E_getI d_TM_clause_17 gf_TM_226 (by exact ⟨by decide, rfl⟩) (by exact h19) ?_
      refine E_iload_n d_TM_clause_20 rfl ?_
      refine E_S2 (hs2) d_TM_clause_21 ml_TM_229 cb_TM_has cs_TM_has ⟨by decide, by decide⟩ rfl (Nat.le_of_ble_eq_true rfl) (Nat.le_of_ble_eq_true rfl) (kI fun r1 M1 hc => ?_)
      obtain ⟨rfl, rfl⟩ := hc
      first | (with_reducible refine E_isP ?_; refine E_if_eq 29 d_TM_clause_24 rfl (pb_0 fun h24 => ?_) (pb_1 fun h24 => ?_)) | (with_reducible refine E_isN1 ?_; refine E_if_eq 29 d_TM_clause_24 rfl (nz_eq (by omega) fun h24 => ?_) (nz_ne fun h24 => ?_)) | refine E_if_eq 29 d_TM_clause_24 rfl (fun h24 => ?_) (fun h24 => ?_)
      · exfalso; exact h24 hb
      refine E_iconst (v := nI 4) d_TM_clause_27 rfl ?_
      refine E_retI d_TM_clause_28 rfl ?_
      exact CRo.fl (by decide) ft
    · have hnb : s ≤ 1 → ¬ (onN tt).testBit (kdS s) = true := fun z y => by
        rw [ks z] at y
        rcases (show s = 0 ∨ s = 1 by omega) with rfl | rfl
        · exact d2 (Or.inl ⟨rfl, b0.mp y⟩)
        · exact d2 (Or.inr ⟨rfl, b1.mp y⟩)
      have hs2 := sp_TM_has (G := GM) (M := M) (onN tt) (kdS s) (by omega) (by omega)
      by_cases d3 : 24 ≤ tt.cl.length
      · have e : clR (SS l) (VV l) k tt b = (6, k, tt, b) := by unfold clR; rw [hsv, if_neg (fun z => z d1), if_neg d2, if_pos d3]
        rw [e]
        have a29 : E 10 0 0 Y_TM_clause 29 [some (.ref 0), some (.int (nI (kdS s))), none, none, none] [] GM M (QI GM fun r M' => CRo l t M0 (6, k, tt, b) r M') := by
          first | refine E_aload_n d_TM_clause_29 rfl ?_ | refine E_aload_nN d_TM_clause_29 rfl ?_
          refine E_getR (q := 3) d_TM_clause_30 gf_TM_16 (by exact ⟨by decide, rfl⟩) (by exact hR _ rfl) ?_
          first | refine E_aload_n d_TM_clause_33 rfl ?_ | refine E_aload_nN d_TM_clause_33 rfl ?_
          refine E_getI d_TM_clause_34 gf_TM_132 (by exact ⟨by decide, rfl⟩) (by exact h12) ?_
          refine E_iald d_TM_clause_37 (by exact ⟨by decide, rfl⟩) (by exact ⟨by with_reducible rfl, by omega, by decide⟩) (by exact hn) ?_
          refine E_istore_2 d_TM_clause_38 rfl ?_
          refine E_iload_n d_TM_clause_39 rfl ?_
          refine E_bipush (v := nI 24) d_TM_clause_40 (by decide) ?_
          first | (with_reducible refine E_isN2 ?_; refine E_icmp_ne 48 d_TM_clause_42 rfl (nb_ne fun h42 => ?_) (nb_eq (by omega) (by omega) fun h42 => ?_)) | refine E_icmp_ne 48 d_TM_clause_42 rfl (fun h42 => ?_) (fun h42 => ?_)
          · exfalso; omega
          refine E_bipush (v := nI 6) d_TM_clause_45 (by decide) ?_
          refine E_retI d_TM_clause_47 rfl ?_
          exact CRo.fl (by decide) ft
        by_cases c : s ≤ 1
        · have hnb := hnb c
          have k1 : kdS s ≤ 1 := by rw [ks c]; omega
          clear ks ks2
          generalize kdS s = kd at *
          first | refine E_aload_n d_TM_clause_0 rfl ?_ | refine E_aload_nN d_TM_clause_0 rfl ?_
          refine E_V0 (so) d_TM_clause_1 ml_TM_223 cb_TM_sortOf cv_TM_sortOf (by exact ⟨by decide, rfl⟩) ⟨by decide, rfl⟩ ⟨by decide, by decide⟩ rfl (Nat.le_of_ble_eq_true rfl) (Nat.le_of_ble_eq_true rfl) (kI fun r1 M1 hc => ?_)
          obtain ⟨rfl, rfl⟩ := hc
          refine E_istore_1 d_TM_clause_4 rfl ?_
          refine E_iload_n d_TM_clause_5 rfl ?_
          first | (with_reducible refine E_isN1 ?_; refine E_if_ge 11 d_TM_clause_6 rfl (nz_ge (by omega) fun h6 => ?_) (nz_nge (by omega) fun h6 => ?_)) | refine E_if_ge 11 d_TM_clause_6 rfl (fun h6 => ?_) (fun h6 => ?_)
          rotate_left
          · exfalso; omega
          refine E_iload_n d_TM_clause_11 rfl ?_
          refine E_iconst (v := nI 1) d_TM_clause_12 rfl ?_
          first | (with_reducible refine E_isN2 ?_; refine E_icmp_gt 29 d_TM_clause_13 rfl (nb_lt (by omega) (by omega) fun h13 => ?_) (nb_nlt (by omega) (by omega) fun h13 => ?_)) | refine E_icmp_gt 29 d_TM_clause_13 rfl (fun h13 => ?_) (fun h13 => ?_)
          · exfalso; omega
          first | refine E_aload_n d_TM_clause_16 rfl ?_ | refine E_aload_nN d_TM_clause_16 rfl ?_
          refine E_getI d_TM_clause_17 gf_TM_226 (by exact ⟨by decide, rfl⟩) (by exact h19) ?_
          refine E_iload_n d_TM_clause_20 rfl ?_
          refine E_S2 (hs2) d_TM_clause_21 ml_TM_229 cb_TM_has cs_TM_has ⟨by decide, by decide⟩ rfl (Nat.le_of_ble_eq_true rfl) (Nat.le_of_ble_eq_true rfl) (kI fun r1 M1 hc => ?_)
          obtain ⟨rfl, rfl⟩ := hc
          first | (with_reducible refine E_isP ?_; refine E_if_eq 29 d_TM_clause_24 rfl (pb_0 fun h24 => ?_) (pb_1 fun h24 => ?_)) | (with_reducible refine E_isN1 ?_; refine E_if_eq 29 d_TM_clause_24 rfl (nz_eq (by omega) fun h24 => ?_) (nz_ne fun h24 => ?_)) | refine E_if_eq 29 d_TM_clause_24 rfl (fun h24 => ?_) (fun h24 => ?_)
          rotate_left
          · exfalso; exact hnb h24
          exact a29
        · have k1 := ks2 (by omega)
          clear ks ks2 hnb
          generalize kdS s = kd at *
          first | refine E_aload_n d_TM_clause_0 rfl ?_ | refine E_aload_nN d_TM_clause_0 rfl ?_
          refine E_V0 (so) d_TM_clause_1 ml_TM_223 cb_TM_sortOf cv_TM_sortOf (by exact ⟨by decide, rfl⟩) ⟨by decide, rfl⟩ ⟨by decide, by decide⟩ rfl (Nat.le_of_ble_eq_true rfl) (Nat.le_of_ble_eq_true rfl) (kI fun r1 M1 hc => ?_)
          obtain ⟨rfl, rfl⟩ := hc
          refine E_istore_1 d_TM_clause_4 rfl ?_
          refine E_iload_n d_TM_clause_5 rfl ?_
          first | (with_reducible refine E_isN1 ?_; refine E_if_ge 11 d_TM_clause_6 rfl (nz_ge (by omega) fun h6 => ?_) (nz_nge (by omega) fun h6 => ?_)) | refine E_if_ge 11 d_TM_clause_6 rfl (fun h6 => ?_) (fun h6 => ?_)
          rotate_left
          · exfalso; omega
          refine E_iload_n d_TM_clause_11 rfl ?_
          refine E_iconst (v := nI 1) d_TM_clause_12 rfl ?_
          first | (with_reducible refine E_isN2 ?_; refine E_icmp_gt 29 d_TM_clause_13 rfl (nb_lt (by omega) (by omega) fun h13 => ?_) (nb_nlt (by omega) (by omega) fun h13 => ?_)) | refine E_icmp_gt 29 d_TM_clause_13 rfl (fun h13 => ?_) (fun h13 => ?_)
          rotate_left
          · exfalso; omega
          exact a29
      · have mid := fun M1 x1 h19 => cl_mid (b := b) (M1 := M1) hS d1 hsv (by omega) d2 x1 h19
        by_cases c : s ≤ 1
        · rw [if_pos c] at mid
          have hnb := hnb c
          have k1 : kdS s ≤ 1 := by rw [ks c]; omega
          have mid1 := mid (wI M 0 19 (nI (onN tt ||| 2 ^ s))) (Fo.rf.wI rfl) (by rw [mI_wa, if_pos rfl])
          rw [show (2 : Nat) ^ s = 2 ^ kdS s from by rw [ks c]] at mid1
          clear ks ks2 mid
          generalize kdS s = kd at *
          first | refine E_aload_n d_TM_clause_0 rfl ?_ | refine E_aload_nN d_TM_clause_0 rfl ?_
          refine E_V0 (so) d_TM_clause_1 ml_TM_223 cb_TM_sortOf cv_TM_sortOf (by exact ⟨by decide, rfl⟩) ⟨by decide, rfl⟩ ⟨by decide, by decide⟩ rfl (Nat.le_of_ble_eq_true rfl) (Nat.le_of_ble_eq_true rfl) (kI fun r1 M1 hc => ?_)
          obtain ⟨rfl, rfl⟩ := hc
          refine E_istore_1 d_TM_clause_4 rfl ?_
          refine E_iload_n d_TM_clause_5 rfl ?_
          first | (with_reducible refine E_isN1 ?_; refine E_if_ge 11 d_TM_clause_6 rfl (nz_ge (by omega) fun h6 => ?_) (nz_nge (by omega) fun h6 => ?_)) | refine E_if_ge 11 d_TM_clause_6 rfl (fun h6 => ?_) (fun h6 => ?_)
          rotate_left
          · exfalso; omega
          refine E_iload_n d_TM_clause_11 rfl ?_
          refine E_iconst (v := nI 1) d_TM_clause_12 rfl ?_
          first | (with_reducible refine E_isN2 ?_; refine E_icmp_gt 29 d_TM_clause_13 rfl (nb_lt (by omega) (by omega) fun h13 => ?_) (nb_nlt (by omega) (by omega) fun h13 => ?_)) | refine E_icmp_gt 29 d_TM_clause_13 rfl (fun h13 => ?_) (fun h13 => ?_)
          · exfalso; omega
          first | refine E_aload_n d_TM_clause_16 rfl ?_ | refine E_aload_nN d_TM_clause_16 rfl ?_
          refine E_getI d_TM_clause_17 gf_TM_226 (by exact ⟨by decide, rfl⟩) (by exact h19) ?_
          refine E_iload_n d_TM_clause_20 rfl ?_
          refine E_S2 (hs2) d_TM_clause_21 ml_TM_229 cb_TM_has cs_TM_has ⟨by decide, by decide⟩ rfl (Nat.le_of_ble_eq_true rfl) (Nat.le_of_ble_eq_true rfl) (kI fun r1 M1 hc => ?_)
          obtain ⟨rfl, rfl⟩ := hc
          first | (with_reducible refine E_isP ?_; refine E_if_eq 29 d_TM_clause_24 rfl (pb_0 fun h24 => ?_) (pb_1 fun h24 => ?_)) | (with_reducible refine E_isN1 ?_; refine E_if_eq 29 d_TM_clause_24 rfl (nz_eq (by omega) fun h24 => ?_) (nz_ne fun h24 => ?_)) | refine E_if_eq 29 d_TM_clause_24 rfl (fun h24 => ?_) (fun h24 => ?_)
          rotate_left
          · exfalso; exact hnb h24
          first | refine E_aload_n d_TM_clause_29 rfl ?_ | refine E_aload_nN d_TM_clause_29 rfl ?_
          refine E_getR (q := 3) d_TM_clause_30 gf_TM_16 (by exact ⟨by decide, rfl⟩) (by exact hR _ rfl) ?_
          first | refine E_aload_n d_TM_clause_33 rfl ?_ | refine E_aload_nN d_TM_clause_33 rfl ?_
          refine E_getI d_TM_clause_34 gf_TM_132 (by exact ⟨by decide, rfl⟩) (by exact h12) ?_
          refine E_iald d_TM_clause_37 (by exact ⟨by decide, rfl⟩) (by exact ⟨by with_reducible rfl, by omega, by decide⟩) (by exact hn) ?_
          refine E_istore_2 d_TM_clause_38 rfl ?_
          refine E_iload_n d_TM_clause_39 rfl ?_
          refine E_bipush (v := nI 24) d_TM_clause_40 (by decide) ?_
          first | (with_reducible refine E_isN2 ?_; refine E_icmp_ne 48 d_TM_clause_42 rfl (nb_ne fun h42 => ?_) (nb_eq (by omega) (by omega) fun h42 => ?_)) | refine E_icmp_ne 48 d_TM_clause_42 rfl (fun h42 => ?_) (fun h42 => ?_)
          rotate_left
          · exfalso; omega
          refine E_iload_n d_TM_clause_48 rfl ?_
          refine E_iconst (v := nI 1) d_TM_clause_49 rfl ?_
          first | (with_reducible refine E_isN2 ?_; refine E_icmp_gt 65 d_TM_clause_50 rfl (nb_lt (by omega) (by omega) fun h50 => ?_) (nb_nlt (by omega) (by omega) fun h50 => ?_)) | refine E_icmp_gt 65 d_TM_clause_50 rfl (fun h50 => ?_) (fun h50 => ?_)
          · exfalso; omega
          first | refine E_aload_n d_TM_clause_53 rfl ?_ | refine E_aload_nN d_TM_clause_53 rfl ?_
          refine E_dup d_TM_clause_54 rfl ?_
          refine E_getI d_TM_clause_55 gf_TM_226 (by exact ⟨by decide, rfl⟩) (by exact h19) ?_
          refine E_iconst (v := nI 1) d_TM_clause_58 rfl ?_
          refine E_iload_n d_TM_clause_59 rfl ?_
          first | (with_reducible refine E_isN2 ?_; first | refine E_ishl1 d_TM_clause_60 (by omega) ?_ | refine E_ishlN d_TM_clause_60 (by omega) (by omega) ?_) | refine E_ishl d_TM_clause_60 ?_
          first | (with_reducible refine E_isN2 ?_; refine E_iorN d_TM_clause_61 ?_) | refine E_ior d_TM_clause_61 ?_
          refine E_putI d_TM_clause_62 gf_TM_226 (by exact ⟨by decide, rfl⟩) rfl rfl ?_
          exact mid1
        · rw [if_neg c] at mid
          have mid1 := mid M Fo.rf h19
          have k1 := ks2 (by omega)
          clear ks ks2 hnb mid
          generalize kdS s = kd at *
          first | refine E_aload_n d_TM_clause_0 rfl ?_ | refine E_aload_nN d_TM_clause_0 rfl ?_
          refine E_V0 (so) d_TM_clause_1 ml_TM_223 cb_TM_sortOf cv_TM_sortOf (by exact ⟨by decide, rfl⟩) ⟨by decide, rfl⟩ ⟨by decide, by decide⟩ rfl (Nat.le_of_ble_eq_true rfl) (Nat.le_of_ble_eq_true rfl) (kI fun r1 M1 hc => ?_)
          obtain ⟨rfl, rfl⟩ := hc
          refine E_istore_1 d_TM_clause_4 rfl ?_
          refine E_iload_n d_TM_clause_5 rfl ?_
          first | (with_reducible refine E_isN1 ?_; refine E_if_ge 11 d_TM_clause_6 rfl (nz_ge (by omega) fun h6 => ?_) (nz_nge (by omega) fun h6 => ?_)) | refine E_if_ge 11 d_TM_clause_6 rfl (fun h6 => ?_) (fun h6 => ?_)
          rotate_left
          · exfalso; omega
          refine E_iload_n d_TM_clause_11 rfl ?_
          refine E_iconst (v := nI 1) d_TM_clause_12 rfl ?_
          first | (with_reducible refine E_isN2 ?_; refine E_icmp_gt 29 d_TM_clause_13 rfl (nb_lt (by omega) (by omega) fun h13 => ?_) (nb_nlt (by omega) (by omega) fun h13 => ?_)) | refine E_icmp_gt 29 d_TM_clause_13 rfl (fun h13 => ?_) (fun h13 => ?_)
          rotate_left
          · exfalso; omega
          first | refine E_aload_n d_TM_clause_29 rfl ?_ | refine E_aload_nN d_TM_clause_29 rfl ?_
          refine E_getR (q := 3) d_TM_clause_30 gf_TM_16 (by exact ⟨by decide, rfl⟩) (by exact hR _ rfl) ?_
          first | refine E_aload_n d_TM_clause_33 rfl ?_ | refine E_aload_nN d_TM_clause_33 rfl ?_
          refine E_getI d_TM_clause_34 gf_TM_132 (by exact ⟨by decide, rfl⟩) (by exact h12) ?_
          refine E_iald d_TM_clause_37 (by exact ⟨by decide, rfl⟩) (by exact ⟨by with_reducible rfl, by omega, by decide⟩) (by exact hn) ?_
          refine E_istore_2 d_TM_clause_38 rfl ?_
          refine E_iload_n d_TM_clause_39 rfl ?_
          refine E_bipush (v := nI 24) d_TM_clause_40 (by decide) ?_
          first | (with_reducible refine E_isN2 ?_; refine E_icmp_ne 48 d_TM_clause_42 rfl (nb_ne fun h42 => ?_) (nb_eq (by omega) (by omega) fun h42 => ?_)) | refine E_icmp_ne 48 d_TM_clause_42 rfl (fun h42 => ?_) (fun h42 => ?_)
          rotate_left
          · exfalso; omega
          refine E_iload_n d_TM_clause_48 rfl ?_
          refine E_iconst (v := nI 1) d_TM_clause_49 rfl ?_
          first | (with_reducible refine E_isN2 ?_; refine E_icmp_gt 65 d_TM_clause_50 rfl (nb_lt (by omega) (by omega) fun h50 => ?_) (nb_nlt (by omega) (by omega) fun h50 => ?_)) | refine E_icmp_gt 65 d_TM_clause_50 rfl (fun h50 => ?_) (fun h50 => ?_)
          rotate_left
          · exfalso; omega
          exact mid1
end MQk
