section RDf
variable {G : Geo} {M : Mem} {l : List Nat} {sw : Nat}
def FQ (l : List Nat) (f p : Nat) (M0 M : Mem) : Prop := FS l f p M ∧ Fo 225 JR AR M0 M
theorem FQ.w {f p : Nat} {M0 M1 M2 : Mem} (h : FQ l f p M0 M1) (g : FS l f p M2 ∧ Fo 225 J7 AR M1 M2) : FQ l f p M0 M2 := ⟨g.1, h.2.tr g.2.j7⟩
theorem FQ.p {f p : Nat} {M0 M1 M2 : Mem} (h : FQ l f p M0 M1) (g : mR M2 = mR M1 ∧ mL M2 = mL M1 ∧ ∀ c, c ≠ 230 → mI M2 c = mI M1 c) : FQ l f p M0 M2 := by
  have hX : Fo 225 J7 AR M1 M2 := ⟨g.1, fun c h1 h2 => g.2.2 c (fun e => h2 (Or.inr e)), fun j _ => by rw [g.2.2 225 (by decide)], g.2.1⟩
  exact h.w ⟨h.1.fo hX (by unfold J7; omega) (by unfold J7; omega) (fun _ => AR.o), hX⟩
theorem FQ.pr {f p b : Nat} {M0 M1 : Mem} (h : FQ l f p M0 M1) : PR l sw (rF f p) b M0 M1 := PR.fl h.1 h.2
section IFF
variable {d o f p b : Nat} {M0 : Mem}
theorem if_f63 (hG : GC G) (hd : 3 ≤ d) {x2 x3 : Int32} (h : FQ l f p M0 M) : E (d + 3) 0 0 Y_Re_readIf 63 [some (.ref 225), some (.int (nI o)), some (.int x2), some (.int x3)] [] G M (QV G fun M' => FQ l f p M0 M') := by
  have hR := h.1.1
  first | refine E_aload_n d_Re_readIf_63 rfl ?_ | refine E_aload_nN d_Re_readIf_63 rfl ?_
  refine E_getR d_Re_readIf_64 gf_Re_24 (by exact hG.s (by decide) rfl) (by exact hR.o rfl) ?_
  refine E_iload_n d_Re_readIf_67 rfl ?_
  first | refine E_aload_n d_Re_readIf_68 rfl ?_ | refine E_aload_nN d_Re_readIf_68 rfl ?_
  refine E_getI d_Re_readIf_69 gf_Re_35 (by exact hG.s (by decide) rfl) (by rfl) ?_
  refine E_SN3 (sp_TP_putG (hG.s (k := 230) (by decide) rfl) (by decide)) d_Re_readIf_72 nl_Re_119 cb_TP_put cs_TP_put ⟨by omega, by decide⟩ rfl (Nat.le_of_ble_eq_true rfl) (Nat.le_of_ble_eq_true rfl) (kV fun M1 hc => ?_)
  have h2 := h.p hc
  first | refine E_aload_n d_Re_readIf_75 rfl ?_ | refine E_aload_nN d_Re_readIf_75 rfl ?_
  refine E_bipush (v := nI 15) d_Re_readIf_76 (by decide) ?_
  refine E_V1 (sp_Re_takeF hG h2.1) d_Re_readIf_78 ml_Re_126 cb_Re_take cv_Re_take (by exact hG.s (by decide) rfl) ⟨by decide, rfl⟩ ⟨by omega, by decide⟩ rfl (Nat.le_of_ble_eq_true rfl) (Nat.le_of_ble_eq_true rfl) (kV fun M1 hc => ?_)
  subst hc
  refine E_retV d_Re_readIf_81 rfl ?_
  exact h2
theorem if_f34 (hG : GC G) (hd : 3 ≤ d) {d' : Nat} (hd' : d' ≤ d) (hF : EF Y_Re_readSum [some (.ref 225), some (.int (nI o)), none, none] G l d') {x2 : Int32} {x3 : Option Value} (h : FQ l f p M0 M) : E (d + 3) 0 0 Y_Re_readIf 34 [some (.ref 225), some (.int (nI o)), some (.int x2), x3] [] G M (QV G fun M' => FQ l f p M0 M') := by
  have hR := h.1.1
  first | refine E_aload_n d_Re_readIf_34 rfl ?_ | refine E_aload_nN d_Re_readIf_34 rfl ?_
  refine E_getI d_Re_readIf_35 gf_Re_35 (by exact hG.s (by decide) rfl) (by rfl) ?_
  refine E_istore_3 d_Re_readIf_38 rfl ?_
  first | refine E_aload_n d_Re_readIf_39 rfl ?_ | refine E_aload_nN d_Re_readIf_39 rfl ?_
  refine E_bipush (v := nI 43) d_Re_readIf_40 (by decide) ?_
  refine E_iconst (v := nI 0) d_Re_readIf_42 rfl ?_
  refine E_V2 (sp_Re_writeF hG h.1) d_Re_readIf_43 ml_Re_142 cb_Re_write cv_Re_write (by exact hG.s (by decide) rfl) ⟨by decide, rfl⟩ ⟨by omega, by decide⟩ rfl (Nat.le_of_ble_eq_true rfl) (Nat.le_of_ble_eq_true rfl) (kV fun M1 hc => ?_)
  have h1 := h.w hc; clear hR; have hR := h1.1.1
  first | refine E_aload_n d_Re_readIf_46 rfl ?_ | refine E_aload_nN d_Re_readIf_46 rfl ?_
  refine E_getR d_Re_readIf_47 gf_Re_24 (by exact hG.s (by decide) rfl) (by exact hR.o rfl) ?_
  refine E_iload_n d_Re_readIf_50 rfl ?_
  first | refine E_aload_n d_Re_readIf_51 rfl ?_ | refine E_aload_nN d_Re_readIf_51 rfl ?_
  refine E_getI d_Re_readIf_52 gf_Re_35 (by exact hG.s (by decide) rfl) (by rfl) ?_
  refine E_SN3 (sp_TP_putG (hG.s (k := 230) (by decide) rfl) (by decide)) d_Re_readIf_55 nl_Re_119 cb_TP_put cs_TP_put ⟨by omega, by decide⟩ rfl (Nat.le_of_ble_eq_true rfl) (Nat.le_of_ble_eq_true rfl) (kV fun M1 hc => ?_)
  have h2 := h1.p hc
  first | refine E_aload_n d_Re_readIf_58 rfl ?_ | refine E_aload_nN d_Re_readIf_58 rfl ?_
  refine E_iload_n d_Re_readIf_59 rfl ?_
  refine E_V1 (hF _ _ _ h2.1) d_Re_readIf_60 ml_Re_129 cb_Re_readSum cv_Re_readSum (by exact hG.s (by decide) rfl) ⟨by decide, rfl⟩ ⟨by omega, by decide⟩ rfl (Nat.le_of_ble_eq_true rfl) (Nat.le_of_ble_eq_true rfl) (kV fun M1 hc => ?_)
  subst hc
  exact if_f63 hG hd h2
theorem if_f28 (hG : GC G) (hd : 3 ≤ d) {d' : Nat} (hd' : d' ≤ d) (hF : EF Y_Re_readSum [some (.ref 225), some (.int (nI o)), none, none] G l d') {x2 : Int32} {x3 : Option Value} (h : FQ l f p M0 M) : E (d + 3) 0 0 Y_Re_readIf 28 [some (.ref 225), some (.int (nI o)), some (.int x2), x3] [] G M (QV G fun M' => FQ l f p M0 M') := by
  have hR := h.1.1
  first | refine E_aload_n d_Re_readIf_28 rfl ?_ | refine E_aload_nN d_Re_readIf_28 rfl ?_
  refine E_bipush (v := nI 14) d_Re_readIf_29 (by decide) ?_
  refine E_V1 (sp_Re_takeF hG h.1) d_Re_readIf_31 ml_Re_126 cb_Re_take cv_Re_take (by exact hG.s (by decide) rfl) ⟨by decide, rfl⟩ ⟨by omega, by decide⟩ rfl (Nat.le_of_ble_eq_true rfl) (Nat.le_of_ble_eq_true rfl) (kV fun M1 hc => ?_)
  subst hc
  exact if_f34 hG hd hd' hF h
theorem if_f11 (hG : GC G) (hd : 3 ≤ d) {d' : Nat} (hd' : d' ≤ d) (hF : EF Y_Re_readSum [some (.ref 225), some (.int (nI o)), none, none] G l d') {x2 x3 : Option Value} (h : FQ l f p M0 M) : E (d + 3) 0 0 Y_Re_readIf 11 [some (.ref 225), some (.int (nI o)), x2, x3] [] G M (QV G fun M' => FQ l f p M0 M') := by
  have hR := h.1.1
  first | refine E_aload_n d_Re_readIf_11 rfl ?_ | refine E_aload_nN d_Re_readIf_11 rfl ?_
  refine E_getI d_Re_readIf_12 gf_Re_35 (by exact hG.s (by decide) rfl) (by rfl) ?_
  refine E_istore_2 d_Re_readIf_15 rfl ?_
  first | refine E_aload_n d_Re_readIf_16 rfl ?_ | refine E_aload_nN d_Re_readIf_16 rfl ?_
  refine E_bipush (v := nI 44) d_Re_readIf_17 (by decide) ?_
  refine E_iconst (v := nI 0) d_Re_readIf_19 rfl ?_
  refine E_V2 (sp_Re_writeF hG h.1) d_Re_readIf_20 ml_Re_142 cb_Re_write cv_Re_write (by exact hG.s (by decide) rfl) ⟨by decide, rfl⟩ ⟨by omega, by decide⟩ rfl (Nat.le_of_ble_eq_true rfl) (Nat.le_of_ble_eq_true rfl) (kV fun M1 hc => ?_)
  have h1 := h.w hc; clear hR; have hR := h1.1.1
  first | refine E_aload_n d_Re_readIf_23 rfl ?_ | refine E_aload_nN d_Re_readIf_23 rfl ?_
  refine E_iload_n d_Re_readIf_24 rfl ?_
  refine E_V1 (hF _ _ _ h1.1) d_Re_readIf_25 ml_Re_129 cb_Re_readSum cv_Re_readSum (by exact hG.s (by decide) rfl) ⟨by decide, rfl⟩ ⟨by omega, by decide⟩ rfl (Nat.le_of_ble_eq_true rfl) (Nat.le_of_ble_eq_true rfl) (kV fun M1 hc => ?_)
  subst hc
  exact if_f28 hG hd hd' hF h1
theorem if_f5 (hG : GC G) (hd : 3 ≤ d) {d' : Nat} (hd' : d' ≤ d) (hF : EF Y_Re_readSum [some (.ref 225), some (.int (nI o)), none, none] G l d') {x2 x3 : Option Value} (h : FQ l f p M0 M) : E (d + 3) 0 0 Y_Re_readIf 5 [some (.ref 225), some (.int (nI o)), x2, x3] [] G M (QV G fun M' => FQ l f p M0 M') := by
  have hR := h.1.1
  first | refine E_aload_n d_Re_readIf_5 rfl ?_ | refine E_aload_nN d_Re_readIf_5 rfl ?_
  refine E_bipush (v := nI 13) d_Re_readIf_6 (by decide) ?_
  refine E_V1 (sp_Re_takeF hG h.1) d_Re_readIf_8 ml_Re_126 cb_Re_take cv_Re_take (by exact hG.s (by decide) rfl) ⟨by decide, rfl⟩ ⟨by omega, by decide⟩ rfl (Nat.le_of_ble_eq_true rfl) (Nat.le_of_ble_eq_true rfl) (kV fun M1 hc => ?_)
  subst hc
  exact if_f11 hG hd hd' hF h
end IFF
theorem PR.qf {r : Res} {b b' : Nat} {M0 M1 M2 : Mem} (hA : Fo 225 JR AR M0 M1) (h : PR l sw r b' M1 M2) (h0 : r.f ≠ 0) : FQ l r.f r.k M0 M2 := ⟨h.2.2 h0, hA.tr h.1⟩
theorem PR.fq {r : Res} {b : Nat} {M0 M1 : Mem} (h0 : r.f ≠ 0) (h : FQ l r.f r.k M0 M1) : PR l sw r b M0 M1 := ⟨h.2, fun q => absurd q h0, fun _ => h.1⟩
theorem ep_Re_readIf (hG : GC G) (h3 : l.length ≤ 300) {d d' o : Nat} (hd' : d' ≤ d) (hd : 3 ≤ d) {ei sm : Nat → Nat → Res} (hE : EP Y_Re_readEither [some (.ref 225), some (.int (nI o)), none] G l sw d ei) (hS : EP Y_Re_readSum [some (.ref 225), some (.int (nI o)), none, none] G l sw d' sm) (hF : EF Y_Re_readSum [some (.ref 225), some (.int (nI o)), none, none] G l d') (hei : GdF (SS l) ei) (hsm : GdF (SS l) sm) : EP Y_Re_readIf [some (.ref 225), some (.int (nI o)), none, none] G l sw (d + 3) (ifR (SS l) ei sm) := by
  intro k b M h hb
  have hEc := hE k b M h hb
  have hre := hei k b
  unfold ifR
  generalize ei k b = e at *
  have K5 : ∀ M1, PR l sw e b M M1 → E (d + 3) 0 0 Y_Re_readIf 5 [some (.ref 225), some (.int (nI o)), none, none] [] G M1 (QV G fun M' => PR l sw (if e.f ≠ 0 then e else if SS l e.k ≠ 13 then rF 1 e.k else if2 (SS l) sm e b) b M M') := by
    intro M1 hP
    by_cases h0 : e.f ≠ 0
    · rw [if_pos h0]
      exact E_mono (if_f5 hG hd hd' hF (PR.qf (b := b) Fo.rf hP h0)) (fun _ _ _ q => ⟨q.1, q.2.1, PR.fq h0 q.2.2⟩)
    · rw [if_neg h0]
      have h0 := Decidable.not_not.mp h0
      obtain ⟨hs, hcd, hkp⟩ := hP.2.1 h0
      obtain ⟨ec1, ec2, ec3⟩ := hre.2.2.2 h0
      have tk := sp_Re_take (s := 13) hG hs h3 (by decide) (by decide)
      by_cases h1 : SS l e.k ≠ 13
      · rw [if_pos h1]
        first | refine E_aload_n d_Re_readIf_5 rfl ?_ | refine E_aload_nN d_Re_readIf_5 rfl ?_
        refine E_bipush (v := nI 13) d_Re_readIf_6 (by decide) ?_
        refine E_V1 (tk) d_Re_readIf_8 ml_Re_126 cb_Re_take cv_Re_take (by exact hG.s (by decide) rfl) ⟨by decide, rfl⟩ ⟨by omega, by decide⟩ rfl (Nat.le_of_ble_eq_true rfl) (Nat.le_of_ble_eq_true rfl) (kV fun M1 hc => ?_)
        skip
        exact E_mono (if_f11 hG hd hd' hF ⟨hc.2.1 h1, hP.1.tr hc.2.2.j3⟩) (fun _ _ _ q => ⟨q.1, q.2.1, q.2.2.pr⟩)
      · rw [if_neg h1]
        have h1 := Decidable.not_not.mp h1
        have hge := hsm (e.k + 1) (b + e.cc.length + 1)
        have hSc := fun M' (h : RS l sw (e.k + 1) (b + e.cc.length + 1) M') => hS (e.k + 1) (b + e.cc.length + 1) M' h (by omega)
        unfold if2
        generalize sm (e.k + 1) (b + e.cc.length + 1) = r1 at *
        have K28 : ∀ M2 M3, Fo 225 JR AR M M2 → cdAt e.cc b M2 → cdAt [(44, 0)] (b + e.cc.length) M2 → kpB b M M2 → PR l sw r1 (b + e.cc.length + 1) M2 M3 → E (d + 3) 0 0 Y_Re_readIf 28 [some (.ref 225), some (.int (nI o)), some (.int (nI (b + e.cc.length))), none] [] G M3 (QV G fun M' => PR l sw (if r1.f ≠ 0 then r1 else if SS l r1.k ≠ 14 then rF 1 r1.k else if3 (SS l) sm e r1 b) b M M') := by
          intro M2 M3 hA u1 u2 u3 hQ
          by_cases g0 : r1.f ≠ 0
          · rw [if_pos g0]
            exact E_mono (if_f28 hG hd hd' hF (PR.qf (b := b) hA hQ g0)) (fun _ _ _ q => ⟨q.1, q.2.1, PR.fq g0 q.2.2⟩)
          · rw [if_neg g0]
            have g0 := Decidable.not_not.mp g0
            obtain ⟨hs1, hcd1, hkp1⟩ := hQ.2.1 g0
            obtain ⟨rc1, rc2, rc3⟩ := hge.2.2.2 g0
            have tk1 := sp_Re_take (s := 14) hG hs1 h3 (by decide) (by decide)
            by_cases g1 : SS l r1.k ≠ 14
            · rw [if_pos g1]
              first | refine E_aload_n d_Re_readIf_28 rfl ?_ | refine E_aload_nN d_Re_readIf_28 rfl ?_
              refine E_bipush (v := nI 14) d_Re_readIf_29 (by decide) ?_
              refine E_V1 (tk1) d_Re_readIf_31 ml_Re_126 cb_Re_take cv_Re_take (by exact hG.s (by decide) rfl) ⟨by decide, rfl⟩ ⟨by omega, by decide⟩ rfl (Nat.le_of_ble_eq_true rfl) (Nat.le_of_ble_eq_true rfl) (kV fun M1 hc => ?_)
              skip
              exact E_mono (if_f34 hG hd hd' hF ⟨hc.2.1 g1, (hA.tr hQ.1).tr hc.2.2.j3⟩) (fun _ _ _ q => ⟨q.1, q.2.1, q.2.2.pr⟩)
            · rw [if_neg g1]
              have g1 := Decidable.not_not.mp g1
              have hg2 := hsm (r1.k + 1) (b + e.cc.length + 1 + r1.cc.length + 1)
              have hSc2 := fun M' (h : RS l sw (r1.k + 1) (b + e.cc.length + 1 + r1.cc.length + 1) M') => hS (r1.k + 1) (b + e.cc.length + 1 + r1.cc.length + 1) M' h (by omega)
              unfold if3
              generalize sm (r1.k + 1) (b + e.cc.length + 1 + r1.cc.length + 1) = r2 at *
              have K63 : ∀ M4 M5, Fo 225 JR AR M M4 → cdAt (e.cc ++ [(44, b + e.cc.length + 1 + r1.cc.length + 1)] ++ r1.cc) b M4 → cdAt [(43, 0)] (b + e.cc.length + 1 + r1.cc.length) M4 → kpB b M M4 → PR l sw r2 (b + e.cc.length + 1 + r1.cc.length + 1) M4 M5 → E (d + 3) 0 0 Y_Re_readIf 63 [some (.ref 225), some (.int (nI o)), some (.int (nI (b + e.cc.length))), some (.int (nI (b + e.cc.length + 1 + r1.cc.length)))] [] G M5 (QV G fun M' => PR l sw (if r2.f ≠ 0 then r2 else if SS l r2.k ≠ 15 then rF 1 r2.k else ifE e r1 r2 b) b M M') := by
                intro M4 M5 hB v1 v2 v3 hW
                by_cases f0 : r2.f ≠ 0
                · rw [if_pos f0]
                  exact E_mono (if_f63 hG hd (PR.qf (b := b) hB hW f0)) (fun _ _ _ q => ⟨q.1, q.2.1, PR.fq f0 q.2.2⟩)
                · rw [if_neg f0]
                  have f0 := Decidable.not_not.mp f0
                  obtain ⟨hs2, hcd2, hkp2⟩ := hW.2.1 f0
                  obtain ⟨sc1, sc2, sc3⟩ := hg2.2.2.2 f0
                  have hv2 := hs2.v.le
                  have hR := hs2.R
                  obtain ⟨q1, q2⟩ := RS.pt (i := b + e.cc.length + 1 + r1.cc.length) (v := nI (b + e.cc.length + 1 + r1.cc.length + 1 + r2.cc.length)) hs2
                  have tk2 := sp_Re_take (s := 15) hG q1 h3 (by decide) (by decide)
                  have el : (e.cc ++ [(44, b + e.cc.length + 1 + r1.cc.length + 1)] ++ r1.cc).length = e.cc.length + 1 + r1.cc.length := by simp only [List.length_append, List.length_cons, List.length_nil]
                  have fin : ∀ M6, RS l sw (r2.k + 1) (b + e.cc.length + 1 + r1.cc.length + 1 + r2.cc.length) M6 → Fo 225 (fun j => 13 ≤ j ∧ j ≤ 17) An (wI M5 230 (b + e.cc.length + 1 + r1.cc.length) (nI (b + e.cc.length + 1 + r1.cc.length + 1 + r2.cc.length))) M6 → PR l sw (ifE e r1 r2 b) b M M6 := fun M6 y1 y2 => by
                    have kz : ∀ n, kpB n (wI M5 230 (b + e.cc.length + 1 + r1.cc.length) (nI (b + e.cc.length + 1 + r1.cc.length + 1 + r2.cc.length))) M6 := fun n => kpB.an y2
                    refine ⟨((hB.tr hW.1).tr q2.j7).tr y2.j3, fun _ => ⟨?_, ?_, ?_⟩, fun z => absurd rfl z⟩
                    · have eL : b + (e.cc ++ [((44 : Nat), b + e.cc.length + 1 + r1.cc.length + 1)] ++ r1.cc ++ [((43 : Nat), b + e.cc.length + 1 + r1.cc.length + 1 + r2.cc.length)] ++ r2.cc : List (Nat × Nat)).length = b + e.cc.length + 1 + r1.cc.length + 1 + r2.cc.length := by simp only [List.length_append, List.length_cons, List.length_nil]; omega
                      exact Eq.mpr (congrArg (fun n => RS l sw (r2.k + 1) n M6) eL) y1
                    · show cdAt (e.cc ++ [(44, b + e.cc.length + 1 + r1.cc.length + 1)] ++ r1.cc ++ [(43, b + e.cc.length + 1 + r1.cc.length + 1 + r2.cc.length)] ++ r2.cc) b M6
                      have a1 : cdAt (e.cc ++ [(44, b + e.cc.length + 1 + r1.cc.length + 1)] ++ r1.cc) b M6 := ((v1.kp hkp2 (by rw [el]; omega)).pt (Or.inr (by rw [el]; omega))).kp (kz (b + e.cc.length + 1 + r1.cc.length)) (by rw [el]; omega)
                      have a2 : cdAt [(43, b + e.cc.length + 1 + r1.cc.length + 1 + r2.cc.length)] (b + e.cc.length + 1 + r1.cc.length) M6 := ((v2.kp hkp2 (Nat.le_refl _)).pu).kp (kz (b + e.cc.length + 1 + r1.cc.length + 1)) (Nat.le_refl _)
                      have a3 : cdAt r2.cc (b + e.cc.length + 1 + r1.cc.length + 1) M6 := (hcd2.pt (Or.inl (by omega))).kp (kz _) (Nat.le_refl _)
                      refine (a1.app (by rw [el]; rw [show b + (e.cc.length + 1 + r1.cc.length) = b + e.cc.length + 1 + r1.cc.length by omega]; exact a2)).app ?_
                      have eL2 : b + (e.cc ++ [(44, b + e.cc.length + 1 + r1.cc.length + 1)] ++ r1.cc ++ [(43, b + e.cc.length + 1 + r1.cc.length + 1 + r2.cc.length)]).length = b + e.cc.length + 1 + r1.cc.length + 1 := by rw [List.length_append, el]; show b + (_ + 1) = _; omega
                      rw [eL2]
                      exact a3
                    · exact ((v3.tr (hkp2.le (by omega))).tr (kpB.pt (by omega))).tr (kz b)
                  by_cases f1 : SS l r2.k ≠ 15
                  · rw [if_pos f1]
                    first | refine E_aload_n d_Re_readIf_63 rfl ?_ | refine E_aload_nN d_Re_readIf_63 rfl ?_
                    refine E_getR d_Re_readIf_64 gf_Re_24 (by exact hG.s (by decide) rfl) (by exact hR.o rfl) ?_
                    refine E_iload_n d_Re_readIf_67 rfl ?_
                    first | refine E_aload_n d_Re_readIf_68 rfl ?_ | refine E_aload_nN d_Re_readIf_68 rfl ?_
                    refine E_getI d_Re_readIf_69 gf_Re_35 (by exact hG.s (by decide) rfl) (by exact hs2.z) ?_
                    refine E_SN3 (sp_TP_put (hG.s (k := 230) (by decide) rfl) (by decide) (by omega)) d_Re_readIf_72 nl_Re_119 cb_TP_put cs_TP_put ⟨by omega, by decide⟩ rfl (Nat.le_of_ble_eq_true rfl) (Nat.le_of_ble_eq_true rfl) (kV fun M1 hc => ?_)
                    subst hc
                    first | refine E_aload_n d_Re_readIf_75 rfl ?_ | refine E_aload_nN d_Re_readIf_75 rfl ?_
                    refine E_bipush (v := nI 15) d_Re_readIf_76 (by decide) ?_
                    refine E_V1 (tk2) d_Re_readIf_78 ml_Re_126 cb_Re_take cv_Re_take (by exact hG.s (by decide) rfl) ⟨by decide, rfl⟩ ⟨by omega, by decide⟩ rfl (Nat.le_of_ble_eq_true rfl) (Nat.le_of_ble_eq_true rfl) (kV fun M1 hc => ?_)
                    skip
                    refine E_retV d_Re_readIf_81 rfl ?_
                    exact PR.fl (hc.2.1 f1) (((hB.tr hW.1).tr q2.j7).tr hc.2.2.j3)
                  · rw [if_neg f1]
                    have f1 := Decidable.not_not.mp f1
                    first | refine E_aload_n d_Re_readIf_63 rfl ?_ | refine E_aload_nN d_Re_readIf_63 rfl ?_
                    refine E_getR d_Re_readIf_64 gf_Re_24 (by exact hG.s (by decide) rfl) (by exact hR.o rfl) ?_
                    refine E_iload_n d_Re_readIf_67 rfl ?_
                    first | refine E_aload_n d_Re_readIf_68 rfl ?_ | refine E_aload_nN d_Re_readIf_68 rfl ?_
                    refine E_getI d_Re_readIf_69 gf_Re_35 (by exact hG.s (by decide) rfl) (by exact hs2.z) ?_
                    refine E_SN3 (sp_TP_put (hG.s (k := 230) (by decide) rfl) (by decide) (by omega)) d_Re_readIf_72 nl_Re_119 cb_TP_put cs_TP_put ⟨by omega, by decide⟩ rfl (Nat.le_of_ble_eq_true rfl) (Nat.le_of_ble_eq_true rfl) (kV fun M1 hc => ?_)
                    subst hc
                    first | refine E_aload_n d_Re_readIf_75 rfl ?_ | refine E_aload_nN d_Re_readIf_75 rfl ?_
                    refine E_bipush (v := nI 15) d_Re_readIf_76 (by decide) ?_
                    refine E_V1 (tk2) d_Re_readIf_78 ml_Re_126 cb_Re_take cv_Re_take (by exact hG.s (by decide) rfl) ⟨by decide, rfl⟩ ⟨by omega, by decide⟩ rfl (Nat.le_of_ble_eq_true rfl) (Nat.le_of_ble_eq_true rfl) (kV fun M1 hc => ?_)
                    skip
                    refine E_retV d_Re_readIf_81 rfl ?_
                    exact fin _ (hc.1 f1) hc.2.2
              have M34 : ∀ M4, RS l sw (r1.k + 1) (b + e.cc.length + 1 + r1.cc.length) M4 → Fo 225 (fun j => 13 ≤ j ∧ j ≤ 17) An M3 M4 → E (d + 3) 0 0 Y_Re_readIf 34 [some (.ref 225), some (.int (nI o)), some (.int (nI (b + e.cc.length))), none] [] G M4 (QV G fun M' => PR l sw (if r2.f ≠ 0 then r2 else if SS l r2.k ≠ 15 then rF 1 r2.k else ifE e r1 r2 b) b M M') := by
                intro M4 y1 y2
                have kz : ∀ n, kpB n M3 M4 := fun n => kpB.an y2
                have hv := y1.v.le
                have hR := y1.R
                have wr := sp_Re_write (w := 43) (m := 0) hG y1 (by omega)
                have nx : ∀ M5, RS l sw (r1.k + 1) (b + e.cc.length + 1 + r1.cc.length + 1) M5 ∧ cdAt [(43, 0)] (b + e.cc.length + 1 + r1.cc.length) M5 ∧ kpB (b + e.cc.length + 1 + r1.cc.length) M4 M5 ∧ Fo 225 J7 AR M4 M5 → RS l sw (r1.k + 1) (b + e.cc.length + 1 + r1.cc.length + 1) (wI M5 230 (b + e.cc.length) (nI (b + e.cc.length + 1 + r1.cc.length + 1))) ∧ Fo 225 JR AR M (wI M5 230 (b + e.cc.length) (nI (b + e.cc.length + 1 + r1.cc.length + 1))) ∧ cdAt (e.cc ++ [(44, b + e.cc.length + 1 + r1.cc.length + 1)] ++ r1.cc) b (wI M5 230 (b + e.cc.length) (nI (b + e.cc.length + 1 + r1.cc.length + 1))) ∧ cdAt [(43, 0)] (b + e.cc.length + 1 + r1.cc.length) (wI M5 230 (b + e.cc.length) (nI (b + e.cc.length + 1 + r1.cc.length + 1))) ∧ kpB b M (wI M5 230 (b + e.cc.length) (nI (b + e.cc.length + 1 + r1.cc.length + 1))) := fun M5 ⟨z1, z2, z3, z4⟩ => by
                  obtain ⟨q1, q2⟩ := RS.pt (i := b + e.cc.length) (v := nI (b + e.cc.length + 1 + r1.cc.length + 1)) z1
                  refine ⟨q1, ((((hA.tr hQ.1).tr y2.j3).tr z4.j7).tr q2.j7), ?_, z2.pt (Or.inl (by omega)), ((((u3.tr (hkp1.le (by omega))).tr (kz b)).tr (z3.le (by omega))).tr (kpB.pt (by omega)))⟩
                  have a1 : cdAt e.cc b (wI M5 230 (b + e.cc.length) (nI (b + e.cc.length + 1 + r1.cc.length + 1))) := (((u1.kp hkp1 (by omega)).kp (kz (b + e.cc.length)) (Nat.le_refl _)).kp z3 (by omega)).pt (Or.inr (Nat.le_refl _))
                  have a2 : cdAt [(44, b + e.cc.length + 1 + r1.cc.length + 1)] (b + e.cc.length) (wI M5 230 (b + e.cc.length) (nI (b + e.cc.length + 1 + r1.cc.length + 1))) := (((u2.kp hkp1 (Nat.le_refl _)).kp (kz (b + e.cc.length + 1)) (Nat.le_refl _)).kp z3 (by show b + e.cc.length + 1 ≤ _; omega)).pu
                  have a3 : cdAt r1.cc (b + e.cc.length + 1) (wI M5 230 (b + e.cc.length) (nI (b + e.cc.length + 1 + r1.cc.length + 1))) := ((hcd1.kp (kz (b + e.cc.length + 1 + r1.cc.length)) (Nat.le_refl _)).kp z3 (Nat.le_refl _)).pt (Or.inl (by omega))
                  refine (a1.app a2).app ?_
                  have eL : b + (e.cc ++ [(44, b + e.cc.length + 1 + r1.cc.length + 1)]).length = b + e.cc.length + 1 := by rw [List.length_append]; rfl
                  rw [eL]
                  exact a3
                first | refine E_aload_n d_Re_readIf_34 rfl ?_ | refine E_aload_nN d_Re_readIf_34 rfl ?_
                refine E_getI d_Re_readIf_35 gf_Re_35 (by exact hG.s (by decide) rfl) (by exact y1.z) ?_
                refine E_istore_3 d_Re_readIf_38 rfl ?_
                first | refine E_aload_n d_Re_readIf_39 rfl ?_ | refine E_aload_nN d_Re_readIf_39 rfl ?_
                refine E_bipush (v := nI 43) d_Re_readIf_40 (by decide) ?_
                refine E_iconst (v := nI 0) d_Re_readIf_42 rfl ?_
                refine E_V2 (wr) d_Re_readIf_43 ml_Re_142 cb_Re_write cv_Re_write (by exact hG.s (by decide) rfl) ⟨by decide, rfl⟩ ⟨by omega, by decide⟩ rfl (Nat.le_of_ble_eq_true rfl) (Nat.le_of_ble_eq_true rfl) (kV fun M1 hc => ?_)
                have n5 := nx _ hc; have z1 := hc.1; clear hR; have hR := z1.R
                first | refine E_aload_n d_Re_readIf_46 rfl ?_ | refine E_aload_nN d_Re_readIf_46 rfl ?_
                refine E_getR d_Re_readIf_47 gf_Re_24 (by exact hG.s (by decide) rfl) (by exact hR.o rfl) ?_
                refine E_iload_n d_Re_readIf_50 rfl ?_
                first | refine E_aload_n d_Re_readIf_51 rfl ?_ | refine E_aload_nN d_Re_readIf_51 rfl ?_
                refine E_getI d_Re_readIf_52 gf_Re_35 (by exact hG.s (by decide) rfl) (by exact z1.z) ?_
                refine E_SN3 (sp_TP_put (hG.s (k := 230) (by decide) rfl) (by decide) (by omega)) d_Re_readIf_55 nl_Re_119 cb_TP_put cs_TP_put ⟨by omega, by decide⟩ rfl (Nat.le_of_ble_eq_true rfl) (Nat.le_of_ble_eq_true rfl) (kV fun M1 hc => ?_)
                subst hc
                first | refine E_aload_n d_Re_readIf_58 rfl ?_ | refine E_aload_nN d_Re_readIf_58 rfl ?_
                refine E_iload_n d_Re_readIf_59 rfl ?_
                refine E_V1 (hSc2 _ n5.1) d_Re_readIf_60 ml_Re_129 cb_Re_readSum cv_Re_readSum (by exact hG.s (by decide) rfl) ⟨by decide, rfl⟩ ⟨by omega, by decide⟩ rfl (Nat.le_of_ble_eq_true rfl) (Nat.le_of_ble_eq_true rfl) (kV fun M1 hc => ?_)
                skip
                exact K63 _ _ n5.2.1 n5.2.2.1 n5.2.2.2.1 n5.2.2.2.2 hc
              first | refine E_aload_n d_Re_readIf_28 rfl ?_ | refine E_aload_nN d_Re_readIf_28 rfl ?_
              refine E_bipush (v := nI 14) d_Re_readIf_29 (by decide) ?_
              refine E_V1 (tk1) d_Re_readIf_31 ml_Re_126 cb_Re_take cv_Re_take (by exact hG.s (by decide) rfl) ⟨by decide, rfl⟩ ⟨by omega, by decide⟩ rfl (Nat.le_of_ble_eq_true rfl) (Nat.le_of_ble_eq_true rfl) (kV fun M1 hc => ?_)
              skip
              exact M34 _ (hc.1 g1) hc.2.2
        have M11 : ∀ M2, RS l sw (e.k + 1) (b + e.cc.length) M2 → Fo 225 (fun j => 13 ≤ j ∧ j ≤ 17) An M1 M2 → E (d + 3) 0 0 Y_Re_readIf 11 [some (.ref 225), some (.int (nI o)), none, none] [] G M2 (QV G fun M' => PR l sw (if r1.f ≠ 0 then r1 else if SS l r1.k ≠ 14 then rF 1 r1.k else if3 (SS l) sm e r1 b) b M M') := by
          intro M2 y1 y2
          have kz : ∀ n, kpB n M1 M2 := fun n => kpB.an y2
          have hv := y1.v.le
          have hR := y1.R
          have wr := sp_Re_write (w := 44) (m := 0) hG y1 (by omega)
          first | refine E_aload_n d_Re_readIf_11 rfl ?_ | refine E_aload_nN d_Re_readIf_11 rfl ?_
          refine E_getI d_Re_readIf_12 gf_Re_35 (by exact hG.s (by decide) rfl) (by exact y1.z) ?_
          refine E_istore_2 d_Re_readIf_15 rfl ?_
          first | refine E_aload_n d_Re_readIf_16 rfl ?_ | refine E_aload_nN d_Re_readIf_16 rfl ?_
          refine E_bipush (v := nI 44) d_Re_readIf_17 (by decide) ?_
          refine E_iconst (v := nI 0) d_Re_readIf_19 rfl ?_
          refine E_V2 (wr) d_Re_readIf_20 ml_Re_142 cb_Re_write cv_Re_write (by exact hG.s (by decide) rfl) ⟨by decide, rfl⟩ ⟨by omega, by decide⟩ rfl (Nat.le_of_ble_eq_true rfl) (Nat.le_of_ble_eq_true rfl) (kV fun M1 hc => ?_)
          obtain ⟨z1, z2, z3, z4⟩ := hc
          first | refine E_aload_n d_Re_readIf_23 rfl ?_ | refine E_aload_nN d_Re_readIf_23 rfl ?_
          refine E_iload_n d_Re_readIf_24 rfl ?_
          refine E_V1 (hSc _ z1) d_Re_readIf_25 ml_Re_129 cb_Re_readSum cv_Re_readSum (by exact hG.s (by decide) rfl) ⟨by decide, rfl⟩ ⟨by omega, by decide⟩ rfl (Nat.le_of_ble_eq_true rfl) (Nat.le_of_ble_eq_true rfl) (kV fun M1 hc => ?_)
          skip
          exact K28 _ _ ((hP.1.tr y2.j3).tr z4.j7) ((hcd.kp (kz (b + e.cc.length)) (Nat.le_refl _)).kp z3 (Nat.le_refl _)) z2 ((hkp.tr (kz b)).tr (z3.le (by omega))) hc
        first | refine E_aload_n d_Re_readIf_5 rfl ?_ | refine E_aload_nN d_Re_readIf_5 rfl ?_
        refine E_bipush (v := nI 13) d_Re_readIf_6 (by decide) ?_
        refine E_V1 (tk) d_Re_readIf_8 ml_Re_126 cb_Re_take cv_Re_take (by exact hG.s (by decide) rfl) ⟨by decide, rfl⟩ ⟨by omega, by decide⟩ rfl (Nat.le_of_ble_eq_true rfl) (Nat.le_of_ble_eq_true rfl) (kV fun M1 hc => ?_)
        skip
        exact M11 _ (hc.1 h1) hc.2.2
  first | refine E_aload_n d_Re_readIf_0 rfl ?_ | refine E_aload_nN d_Re_readIf_0 rfl ?_
  refine E_iload_n d_Re_readIf_1 rfl ?_
  refine E_V1 (hEc) d_Re_readIf_2 ml_Re_164 cb_Re_readEither cv_Re_readEither (by exact hG.s (by decide) rfl) ⟨by decide, rfl⟩ ⟨by omega, by decide⟩ rfl (Nat.le_of_ble_eq_true rfl) (Nat.le_of_ble_eq_true rfl) (kV fun M1 hc => ?_)
  skip
  exact K5 _ hc
end RDf
