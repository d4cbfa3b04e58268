section CMg
variable {c : Cr} {G : Geo} {M : Mem}
def nlW (c : Cr) (m : Mo) (f p : Nat) : Nat := (clampZ ((m.lean p : Int) + sway c m p f (if (answered c m f).testBit p = true then 1 else 0)) 0 9).toNat
theorem bit_if (s q : Nat) : s / 2 ^ q &&& 1 = if s.testBit q = true then 1 else 0 := by
  have h1 : s / 2 ^ q &&& 1 ≤ 1 := Nat.and_le_right
  by_cases h : s.testBit q = true
  · rw [if_pos h]; exact (tb_div _ _).mp h
  · rw [if_neg h]
    have : ¬ s / 2 ^ q &&& 1 = 1 := fun q2 => h ((tb_div _ _).mpr q2)
    omega
theorem clamp_nn (z : Int) : 0 ≤ clampZ z 0 9 := by
  unfold clampZ
  split
  · omega
  · split <;> omega
theorem lp_Ro_pass2 {a f : Nat} {m : Mo} {M0 : Mem} {x : Nat} {Q : Option Value → Geo → Mem → Prop} (h2 : a = 2 ∨ a = 209) (hk : Mok m) (hf : f ≤ 8) (r : Option Value)
    (K : ∀ M u1 u2, AB (cU c a (m.setX x)) (m.setX x) a G M → Sc (SR a) M0 M → (∀ j, j < m.people → mI M 215 j = nI (nlW c m f j)) → E 4 0 0 Y_Ro_pass 144 [some (.ref 214), some (.ref a), some (.int (nI f)), r, some (.int (nI (answered c m f))), some (.int (nI m.people)), u1, u2] [] G M Q) :
    ∀ k q M u1 u2, q + k = m.people → AB (cU c a (m.setX x)) (m.setX x) a G M → Sc (SR a) M0 M → (∀ j, j < q → mI M 215 j = nI (nlW c m f j)) → E 4 0 0 Y_Ro_pass 79 [some (.ref 214), some (.ref a), some (.int (nI f)), r, some (.int (nI (answered c m f))), some (.int (nI q)), u1, u2] [] G M Q := by
  have hp8 := hk.p8
  intro k
  induction k with
  | zero =>
    intro q M u1 u2 hq hA hX hv
    have hG := hA.1.G
    have hR := hA.1.R
    have ha := hA.2.1
    have hpp : mI M a 2 = nI m.people := hA.2.2.1.people
    have hq2 : q = m.people := by omega
    subst hq2
    have K1 := K M u1 u2 hA hX hv
    refine E_iload d_Ro_pass_79 rfl ?_
    first | refine E_aload_n d_Ro_pass_81 rfl ?_ | refine E_aload_nN d_Ro_pass_81 rfl ?_
    refine E_getI d_Ro_pass_82 gf_Ro_29 (by first | exact hG.s (by decide) rfl | exact hG.m ha | exact hG.m1 ha) (by first | exact hpp | rfl) ?_
    first | (with_reducible refine E_isN2 ?_; refine E_icmp_ge 144 d_Ro_pass_85 rfl (nb_le (by omega) (by omega) fun h85 => ?_) (nb_nle (by omega) (by omega) fun h85 => ?_)) | refine E_icmp_ge 144 d_Ro_pass_85 rfl (fun h85 => ?_) (fun h85 => ?_)
    rotate_left
    · exfalso; omega
    exact K1
  | succ k ih =>
    intro q M u1 u2 hq hA hX hv
    have hG := hA.1.G
    have hR := hA.1.R
    have ha := hA.2.1
    have hal := ha.lt
    have hpp : mI M a 2 = nI m.people := hA.2.2.1.people
    have hal2 := answered_lt c m f
    have h256 : 2 ^ m.people ≤ 256 := show 2 ^ m.people ≤ 2 ^ 8 from Nat.pow_le_pow_right (by decide) hp8
    have hy : answered c m f / 2 ^ q &&& 1 ≤ 1 := Nat.and_le_right
    have hs := sp_As_swayOf hA (show q < m.people by omega) hf hy
    rw [sway_cg (c := c) (c' := cU c a (m.setX x)) (m := m) (m' := m.setX x) (cU_ruler _ _ _) (cU_sort _ _ _) (cU_hears _ _ _) rfl rfl rfl rfl q f] at hs
    have sb := sway_bd c m q f (answered c m f / 2 ^ q &&& 1)
    have en : nlW c m f q = (clampZ ((m.lean q : Int) + sway c m q f (answered c m f / 2 ^ q &&& 1)) 0 9).toNat := by rw [nlW, bit_if]
    generalize hsw : sway c m q f (answered c m f / 2 ^ q &&& 1) = s at hs sb en
    have hl9 := hk.lean9 q
    have hz : zM ((m.lean q : Int) + s) := ⟨by omega, by omega⟩
    have e126 : (nI (m.lean q) + iI s).toInt64 = iL ((m.lean q : Int) + s) := by rw [nI_iI, iI_add, iI_l hz]
    have l0 : lN 0 = iL 0 := by decide
    have l9 : lN 9 = iL 9 := by decide
    have ev : iI (clampZ ((m.lean q : Int) + s) 0 9) = nI (nlW c m f q) := by rw [en, nI_iI, Int.toNat_of_nonneg (clamp_nn _)]
    have N : ∀ M1 u1 u2, Sc SA M M1 → E 4 0 0 Y_Ro_pass 138 [some (.ref 214), some (.ref a), some (.int (nI f)), r, some (.int (nI (answered c m f))), some (.int (nI q)), u1, u2] [] G (wI M1 215 q (nI (nlW c m f q))) Q := by
      intro M1 u1 u2 hS
      have hA1 := hA.sc hS
      have s2 : Sc (SR a) M1 (wI M1 215 q (nI (nlW c m f q))) := Sc.rf.wI (Or.inr (Or.inr (Or.inr rfl)))
      have s1 : Sc (SR a) M M1 := hS.wk (fun k q => by unfold SA at q; unfold SR; omega)
      have e : ∀ k, k ≠ 215 → mI (wI M1 215 q (nI (nlW c m f q))) k = mI M1 k := fun k hk => mI_ne hk
      have hA2 := AB_up h2 hA1 s2 (hA1.2.2.1.cg (e a (by omega)) (e (a + 1) (by omega)) (e (a + 2) (by omega))) hA1.2.2.2.1 rfl
      have k2 := fun u1 u2 => ih (q + 1) _ u1 u2 (by omega) hA2 (hX.tr (s1.tr s2)) (fun j hj => by
        rw [mI_wa]
        by_cases qj : j = q
        · rw [if_pos qj, qj]
        · rw [if_neg qj, (hS.2 215 (by unfold SA; decide)).1]; exact hv j (by omega))
      first | (with_reducible refine E_isL5 ?_; refine E_iincN5 (m := 1) d_Ro_pass_138 rfl rfl ?_) | refine E_iinc_5 d_Ro_pass_138 rfl rfl ?_
      refine E_goto 79 d_Ro_pass_141 rfl ?_
      exact k2 _ _
    clear ih K
    refine E_iload d_Ro_pass_79 rfl ?_
    first | refine E_aload_n d_Ro_pass_81 rfl ?_ | refine E_aload_nN d_Ro_pass_81 rfl ?_
    refine E_getI d_Ro_pass_82 gf_Ro_29 (by first | exact hG.s (by decide) rfl | exact hG.m ha | exact hG.m1 ha) (by first | exact hpp | rfl) ?_
    first | (with_reducible refine E_isN2 ?_; refine E_icmp_ge 144 d_Ro_pass_85 rfl (nb_le (by omega) (by omega) fun h85 => ?_) (nb_nle (by omega) (by omega) fun h85 => ?_)) | refine E_icmp_ge 144 d_Ro_pass_85 rfl (fun h85 => ?_) (fun h85 => ?_)
    · exfalso; omega
    first | refine E_aload_n d_Ro_pass_88 rfl ?_ | refine E_aload_nN d_Ro_pass_88 rfl ?_
    refine E_getR d_Ro_pass_89 gf_Ro_19 (by first | exact hG.s (by decide) rfl | exact hG.m ha | exact hG.m1 ha) (by first | exact hR.o rfl | exact hR.c cr1 rfl | exact hR.m0 ha) ?_
    first | refine E_aload_n d_Ro_pass_92 rfl ?_ | refine E_aload_nN d_Ro_pass_92 rfl ?_
    refine E_iload d_Ro_pass_93 rfl ?_
    refine E_iload_n d_Ro_pass_95 rfl ?_
    refine E_iload d_Ro_pass_96 rfl ?_
    refine E_iload d_Ro_pass_98 rfl ?_
    first | (with_reducible refine E_isN2 ?_; refine E_ishrN d_Ro_pass_100 (by omega) (by omega) ?_) | refine E_ishr d_Ro_pass_100 ?_
    refine E_iconst (v := nI 1) d_Ro_pass_101 rfl ?_
    first | (with_reducible refine E_isN2 ?_; refine E_iandN d_Ro_pass_102 ?_) | refine E_iand d_Ro_pass_102 ?_
    refine E_V4 (hs) d_Ro_pass_103 ml_Ro_45 cb_As_swayOf cv_As_swayOf (by first | exact hG.s (by decide) rfl | exact hG.m ha | exact hG.m1 ha) ⟨by decide, rfl⟩ ⟨by decide, by decide⟩ rfl (Nat.le_of_ble_eq_true rfl) (Nat.le_of_ble_eq_true rfl) (kI fun r1 M1 hc => ?_)
    obtain ⟨rfl, hS1⟩ := hc; have hA1 := hA.sc hS1; have hR := hA1.1.R; have hlq : mI _ (a + 1) q = nI (m.lean q) := hA1.2.2.1.lean (show q < m.people by omega)
    refine E_istore_6 d_Ro_pass_106 rfl ?_
    first | refine E_aload_n d_Ro_pass_108 rfl ?_ | refine E_aload_nN d_Ro_pass_108 rfl ?_
    refine E_getR d_Ro_pass_109 gf_Ro_9 (by first | exact hG.s (by decide) rfl | exact hG.m ha | exact hG.m1 ha) (by exact hR.o rfl) ?_
    refine E_iload d_Ro_pass_112 rfl ?_
    first | refine E_aload_n d_Ro_pass_114 rfl ?_ | refine E_aload_nN d_Ro_pass_114 rfl ?_
    refine E_getR d_Ro_pass_115 gf_Ro_49 (by first | exact hG.s (by decide) rfl | exact hG.m ha | exact hG.m1 ha) (by first | exact hR.m0 ha) ?_
    refine E_iload d_Ro_pass_118 rfl ?_
    refine E_SN2 (sp_TP_at (hG.m1 ha) (by decide) (by omega) hlq) d_Ro_pass_120 nl_Ro_52 cb_TP_at cs_TP_at ⟨by decide, by decide⟩ rfl (Nat.le_of_ble_eq_true rfl) (Nat.le_of_ble_eq_true rfl) (kI fun r1 M1 hc => ?_)
    obtain ⟨rfl, rfl⟩ := hc
    refine E_iload d_Ro_pass_123 rfl ?_
    first | (with_reducible refine E_isN2 ?_; refine E_iaddN d_Ro_pass_125 ?_) | refine E_iadd d_Ro_pass_125 ?_
    first | (with_reducible refine E_isN1 ?_; refine E_i2lN d_Ro_pass_126 (by omega) ?_) | refine E_i2l d_Ro_pass_126 ?_
    rw [e126]
    refine E_lconst (v := lN 0) d_Ro_pass_127 rfl ?_
    refine E_ldc2 (v := lN 9) d_Ro_pass_128 kc_Ro_56 ?_
    rw [l0, l9]
    refine E_SN3 (sp_TP_within hz.b ⟨by decide, by decide⟩ ⟨by decide, by decide⟩ (by decide)) d_Ro_pass_131 nl_Ro_58 cb_TP_within cs_TP_within ⟨by decide, by decide⟩ rfl (Nat.le_of_ble_eq_true rfl) (Nat.le_of_ble_eq_true rfl) (kL fun r1 M1 hc => ?_)
    obtain ⟨rfl, rfl⟩ := hc
    refine E_l2i d_Ro_pass_134 ?_
    rw [iL_i32, ev]
    refine E_SN3 (sp_TP_put (hG.s (k := 215) (by decide) rfl) (by decide) (by omega)) d_Ro_pass_135 nl_Ro_62 cb_TP_put cs_TP_put ⟨by decide, by decide⟩ rfl (Nat.le_of_ble_eq_true rfl) (Nat.le_of_ble_eq_true rfl) (kV fun M1 hc => ?_)
    subst hc
    exact N _ _ _ hS1
theorem lp_Ro_pass3 {a f : Nat} {m : Mo} {M0 : Mem} {Q : Option Value → Geo → Mem → Prop} (hG : GC G) (ha : MoAd a) (hR0 : RC M0) (hm8 : m.people ≤ 8) (hpe : mI M0 a 2 = nI m.people) (hfr : ∀ j, j < m.people → mI M0 215 j = nI (nlW c m f j)) {r u1 u2 : Option Value} {v : Int32}
    (K : ∀ M, Sc (fun k => k = a + 1) M0 M → (∀ j, j < m.people → mI M (a + 1) j = nI (nlW c m f j)) → E 4 0 0 Y_Ro_pass 180 [some (.ref 214), some (.ref a), some (.int (nI f)), r, some (.int v), some (.int (nI m.people)), u1, u2] [] G M Q) :
    ∀ k q M, q + k = m.people → Sc (fun k => k = a + 1) M0 M → (∀ j, j < q → mI M (a + 1) j = nI (nlW c m f j)) → E 4 0 0 Y_Ro_pass 147 [some (.ref 214), some (.ref a), some (.int (nI f)), r, some (.int v), some (.int (nI q)), u1, u2] [] G M Q := by
  have hal := ha.lt
  intro k
  induction k with
  | zero =>
    intro q M hq hX hv
    have hR := hR0.sc hX
    have hpp : mI M a 2 = nI m.people := by rw [(hX.2 a (by omega)).1]; exact hpe
    have hq2 : q = m.people := by omega
    subst hq2
    have K1 := K M hX hv
    refine E_iload d_Ro_pass_147 rfl ?_
    first | refine E_aload_n d_Ro_pass_149 rfl ?_ | refine E_aload_nN d_Ro_pass_149 rfl ?_
    refine E_getI d_Ro_pass_150 gf_Ro_29 (by first | exact hG.s (by decide) rfl | exact hG.m ha | exact hG.m1 ha) (by first | exact hpp | rfl) ?_
    first | (with_reducible refine E_isN2 ?_; refine E_icmp_ge 180 d_Ro_pass_153 rfl (nb_le (by omega) (by omega) fun h153 => ?_) (nb_nle (by omega) (by omega) fun h153 => ?_)) | refine E_icmp_ge 180 d_Ro_pass_153 rfl (fun h153 => ?_) (fun h153 => ?_)
    rotate_left
    · exfalso; omega
    exact K1
  | succ k ih =>
    intro q M hq hX hv
    have hR := hR0.sc hX
    have hpp : mI M a 2 = nI m.people := by rw [(hX.2 a (by omega)).1]; exact hpe
    have hf2 : mI M 215 q = nI (nlW c m f q) := by rw [(hX.2 215 (by omega)).1]; exact hfr q (by omega)
    have k2 := ih (q + 1) (wI M (a + 1) q (nI (nlW c m f q))) (by omega) (hX.wI rfl) (fun j hj => by
      rw [mI_wa]
      by_cases qj : j = q
      · rw [if_pos qj, qj]
      · rw [if_neg qj]; exact hv j (by omega))
    clear ih K
    refine E_iload d_Ro_pass_147 rfl ?_
    first | refine E_aload_n d_Ro_pass_149 rfl ?_ | refine E_aload_nN d_Ro_pass_149 rfl ?_
    refine E_getI d_Ro_pass_150 gf_Ro_29 (by first | exact hG.s (by decide) rfl | exact hG.m ha | exact hG.m1 ha) (by first | exact hpp | rfl) ?_
    first | (with_reducible refine E_isN2 ?_; refine E_icmp_ge 180 d_Ro_pass_153 rfl (nb_le (by omega) (by omega) fun h153 => ?_) (nb_nle (by omega) (by omega) fun h153 => ?_)) | refine E_icmp_ge 180 d_Ro_pass_153 rfl (fun h153 => ?_) (fun h153 => ?_)
    · exfalso; omega
    first | refine E_aload_n d_Ro_pass_156 rfl ?_ | refine E_aload_nN d_Ro_pass_156 rfl ?_
    refine E_getR d_Ro_pass_157 gf_Ro_49 (by first | exact hG.s (by decide) rfl | exact hG.m ha | exact hG.m1 ha) (by first | exact hR.o rfl | exact hR.c cr1 rfl | exact hR.m0 ha) ?_
    refine E_iload d_Ro_pass_160 rfl ?_
    first | refine E_aload_n d_Ro_pass_162 rfl ?_ | refine E_aload_nN d_Ro_pass_162 rfl ?_
    refine E_getR d_Ro_pass_163 gf_Ro_9 (by first | exact hG.s (by decide) rfl | exact hG.m ha | exact hG.m1 ha) (by first | exact hR.o rfl | exact hR.c cr1 rfl | exact hR.m0 ha) ?_
    refine E_iload d_Ro_pass_166 rfl ?_
    refine E_SN2 (sp_TP_at (hG.s (k := 215) (by decide) rfl) (by decide) (by omega) hf2) d_Ro_pass_168 nl_Ro_52 cb_TP_at cs_TP_at ⟨by decide, by decide⟩ rfl (Nat.le_of_ble_eq_true rfl) (Nat.le_of_ble_eq_true rfl) (kI fun r1 M1 hc => ?_)
    obtain ⟨rfl, rfl⟩ := hc
    refine E_SN3 (sp_TP_put (hG.m1 ha) (by decide) (by omega)) d_Ro_pass_171 nl_Ro_62 cb_TP_put cs_TP_put ⟨by decide, by decide⟩ rfl (Nat.le_of_ble_eq_true rfl) (Nat.le_of_ble_eq_true rfl) (kV fun M1 hc => ?_)
    subst hc
    first | (with_reducible refine E_isL5 ?_; refine E_iincN5 (m := 1) d_Ro_pass_174 rfl rfl ?_) | refine E_iinc_5 d_Ro_pass_174 rfl rfl ?_
    refine E_goto 147 d_Ro_pass_177 rfl ?_
    exact k2
end CMg
