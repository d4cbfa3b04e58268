section CMh
variable {c : Cr} {G : Geo} {M : Mem}
def pm3 (c : Cr) (m : Mo) (f : Nat) : Mo := (nlW c m f, m.book, m.people, answered c m f, pc9 (answered c m f), m.round, nxs m.people m.x)
theorem sp_Ro_pass {a f : Nat} {m : Mo} (hA : AB c m a G M) (h2 : a = 2 ∨ a = 209) (hnow : a = 2 → c.now = m) (hf : f ≤ 8) (hr : m.round < 9999) : E 4 0 0 Y_Ro_pass 0 [some (.ref 214), some (.ref a), some (.int (nI f)), none, none, none, none, none] [] G M (QV G fun M' => AB (cU c a (passW true c m f)) (passW true c m f) a G M' ∧ Sc (SR a) M M') := by
  have hG := hA.1.G
  have hR := hA.1.R
  have ha := hA.2.1
  have hal := ha.lt
  have hk := hA.2.2.2.1
  have hp8 := hk.p8
  have hal2 := answered_lt c m f
  have h256 : 2 ^ m.people ≤ 256 := show 2 ^ m.people ≤ 2 ^ 8 from Nat.pow_le_pow_right (by decide) hp8
  have hA0 : AB (cU c a (m.setX (nxs 0 m.x))) (m.setX (nxs 0 m.x)) a G M := by
    have e0 : m.setX (nxs 0 m.x) = m := rfl
    rw [e0]
    have : cU c a m = c := by
      unfold cU
      split
      · rename_i q; rw [← hnow q]; rfl
      · rfl
    rw [this]
    exact hA
  have T : ∀ M1 u1 u2 (r : Option Value), AB (cU c a (m.setX (nxs m.people m.x))) (m.setX (nxs m.people m.x)) a G M1 → Sc (SR a) M M1 → (∀ j, j < m.people → mI M1 215 j = nI (nlW c m f j)) → E 4 0 0 Y_Ro_pass 144 [some (.ref 214), some (.ref a), some (.int (nI f)), r, some (.int (nI (answered c m f))), some (.int (nI m.people)), u1, u2] [] G M1 (QV G fun M' => AB (cU c a (passW true c m f)) (passW true c m f) a G M' ∧ Sc (SR a) M M') := by
    intro M1 u1 u2 r hA1 hX1 hv
    have hR1 := hA1.1.R
    have hpe : mI M1 a 2 = nI m.people := hA1.2.2.1.people
    have F : ∀ M2, Sc (fun k => k = a + 1) M1 M2 → (∀ j, j < m.people → mI M2 (a + 1) j = nI (nlW c m f j)) → E 4 0 0 Y_Ro_pass 180 [some (.ref 214), some (.ref a), some (.int (nI f)), r, some (.int (nI (answered c m f))), some (.int (nI m.people)), u1, u2] [] G M2 (QV G fun M' => AB (cU c a (passW true c m f)) (passW true c m f) a G M' ∧ Sc (SR a) M M') := by
      intro M2 hX2 hv2
      have b0 : SR a a := Or.inl ⟨by omega, by omega⟩
      have s2 : Sc (SR a) M1 M2 := hX2.wk (fun k q => Or.inl (by unfold Bk; omega))
      have hX3 : Sc (SR a) M1 (wI (wI M2 a 3 (nI (answered c m f))) a 4 (nI (pc9 (answered c m f)))) := (s2.wI b0).wI b0
      have hR := hR1.sc hX3
      have hm3 : MoC (pm3 c m f) a (wI (wI M2 a 3 (nI (answered c m f))) a 4 (nI (pc9 (answered c m f)))) := by
        obtain ⟨m0, m1, m2, m3, m4, m5, m6, m7⟩ := hA1.2.2.1
        have g : ∀ j, j ≠ 3 → j ≠ 4 → mI (wI (wI M2 a 3 (nI (answered c m f))) a 4 (nI (pc9 (answered c m f)))) a j = mI M1 a j := fun j q1 q2 => by rw [mI_wa, if_neg q2, mI_wa, if_neg q1, (hX2.2 a (by omega)).1]
        refine ⟨(g _ (by decide) (by decide)).trans m0, by rw [mI_wa, if_neg (by decide), mI_wa, if_pos rfl]; rfl, by rw [mI_wa, if_pos rfl]; rfl, (g _ (by decide) (by decide)).trans m3, (g _ (by decide) (by decide)).trans m4, (g _ (by decide) (by decide)).trans m5, fun p hp => ?_, fun i hi => ?_⟩
        · rw [mI_wx (by omega), mI_wx (by omega)]; exact hv2 p hp
        · rw [mI_wx (by omega), mI_wx (by omega), mI_wx (by omega), mI_wx (by omega), mI_wx (by omega), mI_wx (by omega), (hX2.2 (a + 2) (by omega)).1]
          exact m7 i hi
      have hwd := sp_Mo_writeDown (t := f) hG hR ha hm3 hk.book
      have fin : ∀ M4, Sc (Bk a) (wI (wI M2 a 3 (nI (answered c m f))) a 4 (nI (pc9 (answered c m f)))) M4 → MoC ((pm3 c m f).setB (push30 m.book (m.round, f, pc9 (answered c m f)))) a M4 → mI M4 a 5 = nI m.round ∧ (AB (cU c a (passW true c m f)) (passW true c m f) a G (wI M4 a 5 (nI (m.round + 1))) ∧ Sc (SR a) M (wI M4 a 5 (nI (m.round + 1)))) := by
        intro M4 hX4 hm4
        have s4 : Sc (SR a) M1 M4 := hX3.tr (hX4.wk (fun k q => Or.inl q))
        have s5 : Sc (SR a) M1 (wI M4 a 5 (nI (m.round + 1))) := s4.wI b0
        obtain ⟨m0, m1, m2, m3, m4, m5, m6, m7⟩ := hm4
        have g : ∀ j, j ≠ 5 → mI (wI M4 a 5 (nI (m.round + 1))) a j = mI M4 a j := fun j q => by rw [mI_wa, if_neg q]
        have hm5 : MoC (passW true c m f) a (wI M4 a 5 (nI (m.round + 1))) := by
          refine ⟨(g _ (by decide)).trans m0, (g _ (by decide)).trans m1, (g _ (by decide)).trans m2, by rw [mI_wa, if_pos rfl]; rfl, (g _ (by decide)).trans m4, (g _ (by decide)).trans m5, fun p hp => ?_, fun i hi => ?_⟩
          · rw [mI_wx (by omega)]; exact m6 p hp
          · rw [mI_wx (by omega), mI_wx (by omega), mI_wx (by omega)]; exact m7 i hi
        exact ⟨m3, AB_up h2 hA1 s5 hm5 (Mok_pass true hk hf hr) rfl, hX1.tr s5⟩
      first | refine E_aload_n d_Ro_pass_180 rfl ?_ | refine E_aload_nN d_Ro_pass_180 rfl ?_
      refine E_iload d_Ro_pass_181 rfl ?_
      refine E_putI d_Ro_pass_183 gf_Ro_66 (by first | exact hG.s (by decide) rfl | exact hG.m ha | exact hG.m1 ha) rfl rfl ?_
      first | refine E_aload_n d_Ro_pass_186 rfl ?_ | refine E_aload_nN d_Ro_pass_186 rfl ?_
      refine E_iload d_Ro_pass_187 rfl ?_
      refine E_S1 (sp_JI_bitCount (by omega)) d_Ro_pass_189 ml_Ro_69 cb_JI_bitCount cs_JI_bitCount ⟨by decide, by decide⟩ rfl (Nat.le_of_ble_eq_true rfl) (Nat.le_of_ble_eq_true rfl) (kI fun r1 M1 hc => ?_)
      obtain ⟨rfl, rfl⟩ := hc
      refine E_putI d_Ro_pass_192 gf_Ro_75 (by first | exact hG.s (by decide) rfl | exact hG.m ha | exact hG.m1 ha) rfl rfl ?_
      first | refine E_aload_n d_Ro_pass_195 rfl ?_ | refine E_aload_nN d_Ro_pass_195 rfl ?_
      refine E_iload_n d_Ro_pass_196 rfl ?_
      refine E_V1 (hwd) d_Ro_pass_197 ml_Ro_78 cb_Mo_writeDown cv_Mo_writeDown (by first | exact hG.s (by decide) rfl | exact hG.m ha | exact hG.m1 ha) ⟨by decide, rfl⟩ ⟨by decide, by decide⟩ rfl (Nat.le_of_ble_eq_true rfl) (Nat.le_of_ble_eq_true rfl) (kV fun M1 hc => ?_)
      obtain ⟨hX4, hm4⟩ := hc; obtain ⟨hrd, hfin⟩ := fin _ hX4 hm4
      first | refine E_aload_n d_Ro_pass_200 rfl ?_ | refine E_aload_nN d_Ro_pass_200 rfl ?_
      refine E_dup d_Ro_pass_201 rfl ?_
      refine E_getI d_Ro_pass_202 gf_Ro_82 (by first | exact hG.s (by decide) rfl | exact hG.m ha | exact hG.m1 ha) (by exact hrd) ?_
      refine E_iconst (v := nI 1) d_Ro_pass_205 rfl ?_
      first | (with_reducible refine E_isN2 ?_; refine E_iaddN d_Ro_pass_206 ?_) | refine E_iadd d_Ro_pass_206 ?_
      refine E_putI d_Ro_pass_207 gf_Ro_82 (by first | exact hG.s (by decide) rfl | exact hG.m ha | exact hG.m1 ha) rfl rfl ?_
      refine E_retV d_Ro_pass_210 rfl ?_
      exact hfin
    refine E_iconst (v := nI 0) d_Ro_pass_144 rfl ?_
    refine E_istore_5 d_Ro_pass_145 rfl ?_
    exact lp_Ro_pass3 hG ha hR1 hp8 hpe hv F m.people 0 M1 (Nat.zero_add _) Sc.rf (fun j hj => absurd hj (Nat.not_lt_zero j))
  have K8 : ∀ r, LawV (ruler c) r G M → E 4 0 0 Y_Ro_pass 8 [some (.ref 214), some (.ref a), some (.int (nI f)), some (oV r), none, none, none, none] [] G M (QV G fun M' => AB (cU c a (passW true c m f)) (passW true c m f) a G M' ∧ Sc (SR a) M M') := by
    intro r hL
    have S2 : ∀ M1 u1 u2, AB (cU c a (m.setX (nxs m.people m.x))) (m.setX (nxs m.people m.x)) a G M1 → Sc (SR a) M M1 → E 4 0 0 Y_Ro_pass 76 [some (.ref 214), some (.ref a), some (.int (nI f)), some (oV r), some (.int (nI (answered c m f))), some (.int (nI m.people)), u1, u2] [] G M1 (QV G fun M' => AB (cU c a (passW true c m f)) (passW true c m f) a G M' ∧ Sc (SR a) M M') := by
      intro M1 u1 u2 hA1 hX1
      have l2 := lp_Ro_pass2 (M0 := M) (x := nxs m.people m.x) h2 hk hf (some (oV r)) (fun M u1 u2 q1 q2 q3 => T M u1 u2 (some (oV r)) q1 q2 q3) m.people 0 M1 u1 u2 (Nat.zero_add _) hA1 hX1 (fun j hj => absurd hj (Nat.not_lt_zero j))
      refine E_iconst (v := nI 0) d_Ro_pass_76 rfl ?_
      refine E_istore_5 d_Ro_pass_77 rfl ?_
      exact l2
    have l1 := lp_Ro_pass1 (M0 := M) h2 hk hf r S2 m.people 0 M none none (Nat.zero_add _) hA0 hL Sc.rf
    clear S2
    revert l1
    cases r with
    | none =>
      intro l1
      refine E_iconst (v := nI 0) d_Ro_pass_8 rfl ?_
      refine E_istore_4 d_Ro_pass_9 rfl ?_
      refine E_iconst (v := nI 0) d_Ro_pass_11 rfl ?_
      refine E_istore_5 d_Ro_pass_12 rfl ?_
      exact l1
    | some la =>
      intro l1
      refine E_iconst (v := nI 0) d_Ro_pass_8 rfl ?_
      refine E_istore_4 d_Ro_pass_9 rfl ?_
      refine E_iconst (v := nI 0) d_Ro_pass_11 rfl ?_
      refine E_istore_5 d_Ro_pass_12 rfl ?_
      exact l1
  have K7 : ∀ r, LawV (ruler c) r G M → E 4 0 0 Y_Ro_pass 7 [some (.ref 214), some (.ref a), some (.int (nI f)), none, none, none, none, none] [oV r] G M (QV G fun M' => AB (cU c a (passW true c m f)) (passW true c m f) a G M' ∧ Sc (SR a) M M') := by
    intro r hL
    have k := K8 r hL
    revert k
    cases r with
    | none => intro k; exact E_astoreN_3 d_Ro_pass_7 rfl k
    | some la => intro k; exact E_astore_3 d_Ro_pass_7 rfl k
  first | refine E_aload_n d_Ro_pass_0 rfl ?_ | refine E_aload_nN d_Ro_pass_0 rfl ?_
  refine E_getR d_Ro_pass_1 gf_Ro_15 (by first | exact hG.s (by decide) rfl | exact hG.m ha | exact hG.m1 ha) (by first | exact hR.o rfl | exact hR.c cr1 rfl | exact hR.m0 ha) ?_
  refine E_V0 (sp_Cr_rulingText hA.1) d_Ro_pass_4 ml_Ro_23 cb_Cr_rulingText cv_Cr_rulingText (by first | exact hG.s (by decide) rfl | exact hG.m ha | exact hG.m1 ha) ⟨by decide, rfl⟩ ⟨by decide, by decide⟩ rfl (Nat.le_of_ble_eq_true rfl) (Nat.le_of_ble_eq_true rfl) (kR fun r1 M1 hc => ?_)
  obtain ⟨hL, rfl⟩ := hc
  exact K7 r1 hL
end CMh
