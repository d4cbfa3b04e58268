theorem len1 {α : Type} (l : List α) (x : α) : (l ++ [x]).length = l.length + 1 := by rw [List.length_append]; rfl
section WorthRules2
variable {c : Cr} {m : Mo} {ma p f y la kk fr to : Nat} {G : Geo} {M0 : Mem} {Qp : Option Value → Geo → Mem → Prop}
theorem r_bi (hW : WK c m ma p f y G M0 la kk) (hto : to ≤ kk) {o s b h h2 : Nat} {c1 d1 c2 d2 : Cd} (hos : biP o s) (i1 : VPr (nmOf c m p f y) m G M0 la fr to Qp c1 d1 b h) (i2 : VPr (nmOf c m p f y) m G M0 la fr to Qp c2 d2 (b + d1.length) h2) (hhh : h2 + 1 ≤ h) :
    VPr (nmOf c m p f y) m G M0 la fr to Qp (c1 ++ c2 ++ [(o, 0)]) (d1 ++ d2 ++ [(s, 0)]) b h := by
  obtain ⟨hh, v1, hv1, hev1, hE1⟩ := i1
  obtain ⟨hh2, v2, hv2, hev2, hE2⟩ := i2
  have ho : 6 ≤ o ∧ o < 10 := by unfold biP at hos; omega
  have hj : joB s := by unfold biP at hos; unfold joB; omega
  have es : (d1 ++ d2 ++ [(s, 0)]).length = d1.length + d2.length + 1 := by rw [len1, List.length_append]
  refine ⟨hh, twoBy o v1 v2, twoBy_zM o v1 v2, fun rest S => ?_, fun hseg hb S i M hS hi hX hWS K => ?_⟩
  · rw [List.append_assoc, List.append_assoc, hev1, hev2]
    show evR (nmOf c m p f y) m rest (evR1 (nmOf c m p f y) m o 0 _) = _
    rw [ev_t _ _ _ _ (by omega) (by omega)]
    rfl
  · rw [es] at hb K
    refine hE1 hseg.l.l (by omega) S i M (by omega) hi hX hWS (fun i1 M1 hi1 hX1 hW1s => ?_)
    have E2 := hE2 hseg.l.r (by omega) (S ++ [v1]) i1 M1 (by rw [len1]; omega) hi1 hX1 hW1s (fun i2 M2 hi2 hX2 hW2s => ?_)
    · rw [len1] at E2
      exact E2
    · rw [len1]
      have hW2 := hW.sx hX2
      have hs1 := (seg_sx hseg.r hW.2.1 hX2).one
      rw [List.length_append, ← Nat.add_assoc] at hs1
      have hkk := hW.2.2.2.2.2.1
      refine lp_As_pre hW2 hto (by omega) hi2 hs1.1 hs1.2 (lp_As_join (xa := v1) (ya := v2) hW2 hj hv1 hv2 hW2s (by omega) rfl (by omega) (by omega) (sp_As_joinedB hos hv1 hv2) (fun w => ?_))
      rw [show b + d1.length + d2.length + 1 = b + (d1.length + d2.length + 1) by omega]
      exact K (i2 + 1) _ (by omega) (hX2.wI rfl) w
theorem r_cmp (hW : WK c m ma p f y G M0 la kk) (hto : to ≤ kk) {o s b h h2 : Nat} {c1 d1 c2 d2 : Cd} (hos : cmP o s) (i1 : VPr (nmOf c m p f y) m G M0 la fr to Qp c1 d1 b h) (i2 : VPr (nmOf c m p f y) m G M0 la fr to Qp c2 d2 (b + d1.length) h2) (hhh : h2 + 1 ≤ h) :
    BPr (nmOf c m p f y) m G M0 la fr to Qp (c1 ++ c2 ++ [(o, 0)]) (d1 ++ d2 ++ [(s, 0)]) b h := by
  obtain ⟨hh, v1, hv1, hev1, hE1⟩ := i1
  obtain ⟨hh2, v2, hv2, hev2, hE2⟩ := i2
  have ho : 10 ≤ o ∧ o < 20 := by unfold cmP at hos; omega
  have hj : joB s := by unfold cmP at hos; unfold joB; omega
  have es : (d1 ++ d2 ++ [(s, 0)]).length = d1.length + d2.length + 1 := by rw [len1, List.length_append]
  refine ⟨hh, askBy o v1 v2, fun rest S => ?_, fun hseg hb S i M hS hi hX hWS K => ?_⟩
  · rw [List.append_assoc, List.append_assoc, hev1, hev2]
    show evR (nmOf c m p f y) m rest (evR1 (nmOf c m p f y) m o 0 _) = _
    rw [ev_a _ _ _ _ (by omega) (by omega)]
    rfl
  · rw [es] at hb K
    refine hE1 hseg.l.l (by omega) S i M (by omega) hi hX hWS (fun i1 M1 hi1 hX1 hW1s => ?_)
    have E2 := hE2 hseg.l.r (by omega) (S ++ [v1]) i1 M1 (by rw [len1]; omega) hi1 hX1 hW1s (fun i2 M2 hi2 hX2 hW2s => ?_)
    · rw [len1] at E2
      exact E2
    · rw [len1]
      have hW2 := hW.sx hX2
      have hs1 := (seg_sx hseg.r hW.2.1 hX2).one
      rw [List.length_append, ← Nat.add_assoc] at hs1
      have hkk := hW.2.2.2.2.2.1
      refine lp_As_pre hW2 hto (by omega) hi2 hs1.1 hs1.2 (lp_As_join (xa := v1) (ya := v2) hW2 hj hv1 hv2 hW2s (by omega) rfl (by omega) (by omega) (sp_As_joinedC hos hv1 hv2) (fun w => ?_))
      rw [show b + d1.length + d2.length + 1 = b + (d1.length + d2.length + 1) by omega]
      exact K (i2 + 1) _ (by omega) (hX2.wI rfl) w
theorem r_jo (hW : WK c m ma p f y G M0 la kk) (hto : to ≤ kk) {o s b h h2 : Nat} {c1 d1 c2 d2 : Cd} (hos : joP o s) (i1 : BPr (nmOf c m p f y) m G M0 la fr to Qp c1 d1 b h) (i2 : BPr (nmOf c m p f y) m G M0 la fr to Qp c2 d2 (b + d1.length) h2) (hhh : h2 + 1 ≤ h) :
    BPr (nmOf c m p f y) m G M0 la fr to Qp (c1 ++ c2 ++ [(o, 0)]) (d1 ++ d2 ++ [(s, 0)]) b h := by
  obtain ⟨hh, v1, hev1, hE1⟩ := i1
  obtain ⟨hh2, v2, hev2, hE2⟩ := i2
  have ho : 20 < o := by unfold joP at hos; omega
  have hj : joB s := by unfold joP at hos; unfold joB; omega
  have es : (d1 ++ d2 ++ [(s, 0)]).length = d1.length + d2.length + 1 := by rw [len1, List.length_append]
  refine ⟨hh, if o = 21 then (v1 && v2) else (v1 || v2), fun rest S => ?_, fun hseg hb S i M hS hi hX hWS K => ?_⟩
  · rw [List.append_assoc, List.append_assoc, hev1, hev2]
    show evR (nmOf c m p f y) m rest (evR1 (nmOf c m p f y) m o 0 _) = _
    rw [ev_j _ _ _ _ (by omega)]
    rfl
  · rw [es] at hb K
    refine hE1 hseg.l.l (by omega) S i M (by omega) hi hX hWS (fun i1 M1 hi1 hX1 hW1s => ?_)
    have E2 := hE2 hseg.l.r (by omega) (S ++ [(if v1 = true then 1 else 0)]) i1 M1 (by rw [len1]; omega) hi1 hX1 hW1s (fun i2 M2 hi2 hX2 hW2s => ?_)
    · rw [len1] at E2
      exact E2
    · rw [len1]
      have hW2 := hW.sx hX2
      have hs1 := (seg_sx hseg.r hW.2.1 hX2).one
      rw [List.length_append, ← Nat.add_assoc] at hs1
      have hkk := hW.2.2.2.2.2.1
      refine lp_As_pre hW2 hto (by omega) hi2 hs1.1 hs1.2 (lp_As_join (xa := (if v1 = true then 1 else 0)) (ya := (if v2 = true then 1 else 0)) hW2 hj (zM_01 _) (zM_01 _) hW2s (by omega) rfl (by omega) (by omega) (sp_As_joinedJ hos) (fun w => ?_))
      rw [show b + d1.length + d2.length + 1 = b + (d1.length + d2.length + 1) by omega]
      exact K (i2 + 1) _ (by omega) (hX2.wI rfl) w
theorem r_sel (hW : WK c m ma p f y G M0 la kk) (hto : to ≤ kk) {b h : Nat} {c0 d0 c1 d1 c2 d2 : Cd} (i0 : BPr (nmOf c m p f y) m G M0 la fr to Qp c0 d0 b h) (i1 : VPr (nmOf c m p f y) m G M0 la fr to Qp c1 d1 (b + d0.length + 1) h) (i2 : VPr (nmOf c m p f y) m G M0 la fr to Qp c2 d2 (b + d0.length + 1 + d1.length + 1) h) :
    VPr (nmOf c m p f y) m G M0 la fr to Qp (c0 ++ c1 ++ c2 ++ [(3, 0)]) (d0 ++ [(44, b + d0.length + 1 + d1.length + 1)] ++ d1 ++ [(43, b + d0.length + 1 + d1.length + 1 + d2.length)] ++ d2) b h := by
  obtain ⟨hh, t, hev0, hE0⟩ := i0
  obtain ⟨hh1, v1, hv1, hev1, hE1⟩ := i1
  obtain ⟨hh2, v2, hv2, hev2, hE2⟩ := i2
  generalize ht1 : b + d0.length + 1 + d1.length + 1 = t1 at *
  generalize ht2 : t1 + d2.length = t2 at *
  have es : (d0 ++ [(44, t1)] ++ d1 ++ [(43, t2)] ++ d2).length = d0.length + 1 + d1.length + 1 + d2.length := by rw [List.length_append, len1, List.length_append, len1]
  refine ⟨hh, if t = true then v1 else v2, by split <;> assumption, fun rest S => ?_, fun hseg hb S i M hS hi hX hWS K => ?_⟩
  · rw [List.append_assoc, List.append_assoc, List.append_assoc, hev0, hev1, hev2]
    show evR (nmOf c m p f y) m rest (evR1 (nmOf c m p f y) m 3 0 _) = _
    rw [ev_3]
    rfl
  · rw [es] at hb K
    have g0 := hseg.l.l.l.l
    have g1 := hseg.l.l.l.r
    have g2 := hseg.l.l.r
    have g3 := hseg.l.r
    have g4 := hseg.r
    rw [len1, ← Nat.add_assoc] at g2
    rw [List.length_append, len1, ← Nat.add_assoc, ← Nat.add_assoc] at g3
    rw [len1, List.length_append, len1, ← Nat.add_assoc, ← Nat.add_assoc, ← Nat.add_assoc, ht1] at g4
    have hkk := hW.2.2.2.2.2.1
    refine hE0 g0 (by omega) S i M (by omega) hi hX hWS (fun i1 M1 hi1 hX1 hW1s => ?_)
    have hW1 := hW.sx hX1
    have hs1 := (seg_sx g1 hW.2.1 hX1).one
    have tt := hW1s.top
    have w0 := hW1s.pop
    refine lp_As_pre hW1 hto (by omega) hi1 hs1.1 hs1.2 ?_
    obtain ⟨hK, h234, hs0, hs4, hs5, hk3, hr3, hr4⟩ := hW1
    have hG := hK.1.G
    have hR := hK.1.R
    cases t with
    | true =>
      have C1 : AH G la fr to Qp S.length (b + d0.length + 1) (i1 + 1) M1 := by
        refine hE1 g2 (by omega) S (i1 + 1) M1 (by omega) (by omega) hX1 w0 (fun i2 M2 hi2 hX2 hW2s => ?_)
        have hW2 := hW.sx hX2
        have hs2 := (seg_sx g3 hW.2.1 hX2).one
        refine lp_As_pre hW2 hto (by omega) hi2 hs2.1 hs2.2 ?_
        have hK2 : AH G la fr to Qp (S.length + 1) t2 (i2 + 1) M2 := by
          have := K (i2 + 1) M2 (by omega) hX2 hW2s
          rwa [show b + (d0.length + 1 + d1.length + 1 + d2.length) = t2 by omega] at this
        refine E_iload d_As_worth_48 rfl ?_
        refine E_bipush (v := nI 43) d_As_worth_50 (by decide) ?_
        first | (with_reducible refine E_isN2 ?_; refine E_icmp_ne 62 d_As_worth_52 rfl (nb_ne fun h52 => ?_) (nb_eq (by omega) (by omega) fun h52 => ?_)) | refine E_icmp_ne 62 d_As_worth_52 rfl (fun h52 => ?_) (fun h52 => ?_)
        · exfalso; omega
        refine E_iload d_As_worth_55 rfl ?_
        refine E_istore_5 d_As_worth_57 rfl ?_
        refine E_goto 231 d_As_worth_59 rfl ?_
        exact lp_As_post hK2
      rw [show (if true = true then (1 : Int) else 0) = 1 from rfl] at tt
      refine E_iload d_As_worth_48 rfl ?_
      refine E_bipush (v := nI 43) d_As_worth_50 (by decide) ?_
      first | (with_reducible refine E_isN2 ?_; refine E_icmp_ne 62 d_As_worth_52 rfl (nb_ne fun h52 => ?_) (nb_eq (by omega) (by omega) fun h52 => ?_)) | refine E_icmp_ne 62 d_As_worth_52 rfl (fun h52 => ?_) (fun h52 => ?_)
      rotate_left
      · exfalso; omega
      refine E_iload d_As_worth_62 rfl ?_
      refine E_bipush (v := nI 44) d_As_worth_64 (by decide) ?_
      first | (with_reducible refine E_isN2 ?_; refine E_icmp_ne 96 d_As_worth_66 rfl (nb_ne fun h66 => ?_) (nb_eq (by omega) (by omega) fun h66 => ?_)) | refine E_icmp_ne 96 d_As_worth_66 rfl (fun h66 => ?_) (fun h66 => ?_)
      · exfalso; omega
      first | (with_reducible refine E_isL4 ?_; refine E_iincD4 (m := 1) d_As_worth_69 (by decide) (by omega) rfl ?_) | refine E_iinc_4 d_As_worth_69 rfl rfl ?_
      rw [Nat.add_sub_cancel]
      first | refine E_aload_n d_As_worth_72 rfl ?_ | refine E_aload_nN d_As_worth_72 rfl ?_
      refine E_getR d_As_worth_73 gf_As_9 (by first | exact hG.s (by decide) rfl | exact hs0 | exact hs4 | exact hs5) (by first | exact hR.o rfl | exact hr3 | exact hr4) ?_
      refine E_iload d_As_worth_76 rfl ?_
      refine E_SN2 (sp_TP_at (hG.s (k := 213) (by decide) rfl) (by decide) (by omega) tt) d_As_worth_78 nl_As_66 cb_TP_at cs_TP_at ⟨by decide, by decide⟩ rfl (Nat.le_of_ble_eq_true rfl) (Nat.le_of_ble_eq_true rfl) (kI fun r1 M1 hc => ?_)
      obtain ⟨rfl, rfl⟩ := hc
      first | (with_reducible refine E_isP ?_; refine E_if_ne 89 d_As_worth_81 rfl (pb_1 fun h81 => ?_) (pb_0 fun h81 => ?_)) | (with_reducible refine E_isN1 ?_; refine E_if_ne 89 d_As_worth_81 rfl (nz_ne fun h81 => ?_) (nz_eq (by omega) fun h81 => ?_)) | refine E_if_ne 89 d_As_worth_81 rfl (fun h81 => ?_) (fun h81 => ?_)
      rotate_left
      · exfalso; exact absurd h81 (by decide)
      refine E_iload d_As_worth_89 rfl ?_
      refine E_istore_5 d_As_worth_91 rfl ?_
      refine E_goto 231 d_As_worth_93 rfl ?_
      exact lp_As_post C1
    | false =>
      have C2 : AH G la fr to Qp S.length t1 (i1 + 1) M1 := by
        refine hE2 g4 (by omega) S (i1 + 1) M1 (by omega) (by omega) hX1 w0 (fun i2 M2 hi2 hX2 hW2s => ?_)
        have := K i2 M2 (by omega) hX2 hW2s
        rwa [show b + (d0.length + 1 + d1.length + 1 + d2.length) = t2 by omega] at this
      rw [show (if false = true then (1 : Int) else 0) = 0 from rfl] at tt
      refine E_iload d_As_worth_48 rfl ?_
      refine E_bipush (v := nI 43) d_As_worth_50 (by decide) ?_
      first | (with_reducible refine E_isN2 ?_; refine E_icmp_ne 62 d_As_worth_52 rfl (nb_ne fun h52 => ?_) (nb_eq (by omega) (by omega) fun h52 => ?_)) | refine E_icmp_ne 62 d_As_worth_52 rfl (fun h52 => ?_) (fun h52 => ?_)
      rotate_left
      · exfalso; omega
      refine E_iload d_As_worth_62 rfl ?_
      refine E_bipush (v := nI 44) d_As_worth_64 (by decide) ?_
      first | (with_reducible refine E_isN2 ?_; refine E_icmp_ne 96 d_As_worth_66 rfl (nb_ne fun h66 => ?_) (nb_eq (by omega) (by omega) fun h66 => ?_)) | refine E_icmp_ne 96 d_As_worth_66 rfl (fun h66 => ?_) (fun h66 => ?_)
      · exfalso; omega
      first | (with_reducible refine E_isL4 ?_; refine E_iincD4 (m := 1) d_As_worth_69 (by decide) (by omega) rfl ?_) | refine E_iinc_4 d_As_worth_69 rfl rfl ?_
      rw [Nat.add_sub_cancel]
      first | refine E_aload_n d_As_worth_72 rfl ?_ | refine E_aload_nN d_As_worth_72 rfl ?_
      refine E_getR d_As_worth_73 gf_As_9 (by first | exact hG.s (by decide) rfl | exact hs0 | exact hs4 | exact hs5) (by first | exact hR.o rfl | exact hr3 | exact hr4) ?_
      refine E_iload d_As_worth_76 rfl ?_
      refine E_SN2 (sp_TP_at (hG.s (k := 213) (by decide) rfl) (by decide) (by omega) tt) d_As_worth_78 nl_As_66 cb_TP_at cs_TP_at ⟨by decide, by decide⟩ rfl (Nat.le_of_ble_eq_true rfl) (Nat.le_of_ble_eq_true rfl) (kI fun r1 M1 hc => ?_)
      obtain ⟨rfl, rfl⟩ := hc
      first | (with_reducible refine E_isP ?_; refine E_if_ne 89 d_As_worth_81 rfl (pb_1 fun h81 => ?_) (pb_0 fun h81 => ?_)) | (with_reducible refine E_isN1 ?_; refine E_if_ne 89 d_As_worth_81 rfl (nz_ne fun h81 => ?_) (nz_eq (by omega) fun h81 => ?_)) | refine E_if_ne 89 d_As_worth_81 rfl (fun h81 => ?_) (fun h81 => ?_)
      · exfalso; exact absurd h81 (by decide)
      refine E_iload d_As_worth_84 rfl ?_
      refine E_goto 91 d_As_worth_86 rfl ?_
      refine E_istore_5 d_As_worth_91 rfl ?_
      refine E_goto 231 d_As_worth_93 rfl ?_
      exact lp_As_post C2
theorem vc_pr (hW : WK c m ma p f y G M0 la kk) (hto : to ≤ kk) {c1 d1 : Cd} {b h : Nat} (hv : VC c1 d1 b h) : VPr (nmOf c m p f y) m G M0 la fr to Qp c1 d1 b h :=
  hv _ (BPr (nmOf c m p f y) m G M0 la fr to Qp) ⟨fun v b h h1 h2 => r_num hW hto h1 h2, fun k s b h h1 h2 => r_nam hW hto h1 h2, fun u s c d b h h1 h2 => r_un hW hto h1 h2, fun o s c1 d1 c2 d2 b h h2 a1 a2 a3 a4 => r_bi hW hto a1 a2 a3 a4, fun c0 d0 c1 d1 c2 d2 b h a1 a2 a3 => r_sel hW hto a1 a2 a3, fun o s c1 d1 c2 d2 b h h2 a1 a2 a3 a4 => r_cmp hW hto a1 a2 a3 a4, fun c d b h a1 => r_not hW hto a1, fun o s c1 d1 c2 d2 b h h2 a1 a2 a3 a4 => r_jo hW hto a1 a2 a3 a4⟩
end WorthRules2
theorem sp_As_worth {c : Cr} {m : Mo} {ma p f y la kk fr : Nat} {q : Cd × Cd} {G : Geo} {M : Mem} (hW : WK c m ma p f y G M la kk) (hv : VC q.1 q.2 fr 64) (hk : fr + q.2.length ≤ kk) (hseg : Seg q.2 fr la M) : E 2 0 0 Y_As_worth 0 [some (.ref 212), some (.ref la), some (.int (nI fr)), some (.int (nI (fr + q.2.length))), none, none, none, none, none, none, none] [] G M (QI G fun r M' => r = iI (worthR q.1 (nmOf c m p f y) m) ∧ zM (worthR q.1 (nmOf c m p f y) m) ∧ Sx S213 M M') := by
  obtain ⟨hh, v, hvz, hev, hE⟩ := vc_pr (fr := fr) (to := fr + q.2.length) (Qp := QI G fun r M' => r = iI (worthR q.1 (nmOf c m p f y) m) ∧ zM (worthR q.1 (nmOf c m p f y) m) ∧ Sx S213 M M') hW hk hv
  have hkk := hW.2.2.2.2.2.1
  have ew : worthR q.1 (nmOf c m p f y) m = v := by
    have := hev [] ([], [])
    rw [List.append_nil] at this
    unfold worthR
    rw [this]
    rfl
  rw [ew] at hE ⊢
  have K : ∀ i' M', fr + i' ≤ fr + q.2.length → Sx S213 M M' → WS ([] ++ [v]) M' → AH G la fr (fr + q.2.length) (QI G fun r M' => r = iI v ∧ zM v ∧ Sx S213 M M') 1 (fr + q.2.length) i' M' := by
    intro i' M' hi' hX' hWS'
    have tt := hWS'.top
    have tt : mI M' 213 0 = iI v := tt
    obtain ⟨hK, h234, hs0, hs4, hs5, hk3, hr3, hr4⟩ := hW.sx hX'
    have hG := hK.1.G
    have hR := hK.1.R
    unfold AH
    refine E_iload d_As_worth_9 rfl ?_
    refine E_sipush (v := nI 300) d_As_worth_11 (by decide) ?_
    first | (with_reducible refine E_isN2 ?_; refine E_icmp_ge 237 d_As_worth_14 rfl (nb_le (by omega) (by omega) fun h14 => ?_) (nb_nle (by omega) (by omega) fun h14 => ?_)) | refine E_icmp_ge 237 d_As_worth_14 rfl (fun h14 => ?_) (fun h14 => ?_)
    · first | refine E_aload_n d_As_worth_237 rfl ?_ | refine E_aload_nN d_As_worth_237 rfl ?_
      refine E_getR d_As_worth_238 gf_As_9 (by first | exact hG.s (by decide) rfl | exact hs0 | exact hs4 | exact hs5) (by first | exact hR.o rfl | exact hr3 | exact hr4) ?_
      refine E_iconst (v := nI 0) d_As_worth_241 rfl ?_
      refine E_SN2 (sp_TP_at (hG.s (k := 213) (by decide) rfl) (by decide) (by omega) tt) d_As_worth_242 nl_As_66 cb_TP_at cs_TP_at ⟨by decide, by decide⟩ rfl (Nat.le_of_ble_eq_true rfl) (Nat.le_of_ble_eq_true rfl) (kI fun r1 M1 hc => ?_)
      obtain ⟨rfl, rfl⟩ := hc
      refine E_retI d_As_worth_245 rfl ?_
      exact ⟨rfl, hvz, hX'⟩
    · refine E_iload d_As_worth_17 rfl ?_
      refine E_iload_n d_As_worth_19 rfl ?_
      first | (with_reducible refine E_isN2 ?_; refine E_icmp_ge 237 d_As_worth_20 rfl (nb_le (by omega) (by omega) fun h20 => ?_) (nb_nle (by omega) (by omega) fun h20 => ?_)) | refine E_icmp_ge 237 d_As_worth_20 rfl (fun h20 => ?_) (fun h20 => ?_)
      rotate_left
      · exfalso; omega
      first | refine E_aload_n d_As_worth_237 rfl ?_ | refine E_aload_nN d_As_worth_237 rfl ?_
      refine E_getR d_As_worth_238 gf_As_9 (by first | exact hG.s (by decide) rfl | exact hs0 | exact hs4 | exact hs5) (by first | exact hR.o rfl | exact hr3 | exact hr4) ?_
      refine E_iconst (v := nI 0) d_As_worth_241 rfl ?_
      refine E_SN2 (sp_TP_at (hG.s (k := 213) (by decide) rfl) (by decide) (by omega) tt) d_As_worth_242 nl_As_66 cb_TP_at cs_TP_at ⟨by decide, by decide⟩ rfl (Nat.le_of_ble_eq_true rfl) (Nat.le_of_ble_eq_true rfl) (kI fun r1 M1 hc => ?_)
      obtain ⟨rfl, rfl⟩ := hc
      refine E_retI d_As_worth_245 rfl ?_
      exact ⟨rfl, hvz, hX'⟩
  have H := hE hseg (Nat.le_refl _) [] 0 M (by decide) (Nat.le_refl _) Sx.rf (fun i hi => absurd hi (Nat.not_lt_zero i)) K
  unfold AH at H
  refine E_iconst (v := nI 0) d_As_worth_0 rfl ?_
  refine E_istore_4 d_As_worth_1 rfl ?_
  refine E_iload_n d_As_worth_3 rfl ?_
  refine E_istore_5 d_As_worth_4 rfl ?_
  refine E_iconst (v := nI 0) d_As_worth_6 rfl ?_
  refine E_istore_6 d_As_worth_7 rfl ?_
  exact H
