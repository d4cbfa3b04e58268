def joB (s : Nat) : Prop := (26 ≤ s ∧ s ≤ 35) ∨ s = 16 ∨ s = 17
def chB (s : Nat) : Prop := s = 10 ∨ s = 11 ∨ s = 18 ∨ s = 42
theorem sp_Sg_joinsTwo {G : Geo} {M : Mem} {s : Nat} (hs : s < 100) : E 0 0 0 Y_Sg_joinsTwo 0 [some (.int (nI s))] [] G M (QI G fun r M' => (joB s → r = nI 1) ∧ (¬ joB s → r = nI 0) ∧ M' = M) := by
  refine E_iload_n d_Sg_joinsTwo_0 rfl ?_
  refine E_bipush (v := nI 26) d_Sg_joinsTwo_1 (by decide) ?_
  first | (with_reducible refine E_isN2 ?_; refine E_icmp_lt 12 d_Sg_joinsTwo_3 rfl (nb_lt (by omega) (by omega) fun h3 => ?_) (nb_nlt (by omega) (by omega) fun h3 => ?_)) | refine E_icmp_lt 12 d_Sg_joinsTwo_3 rfl (fun h3 => ?_) (fun h3 => ?_)
  · refine E_iload_n d_Sg_joinsTwo_12 rfl ?_
    refine E_bipush (v := nI 16) d_Sg_joinsTwo_13 (by decide) ?_
    first | (with_reducible refine E_isN2 ?_; refine E_icmp_eq 24 d_Sg_joinsTwo_15 rfl (nb_eq (by omega) (by omega) fun h15 => ?_) (nb_ne fun h15 => ?_)) | refine E_icmp_eq 24 d_Sg_joinsTwo_15 rfl (fun h15 => ?_) (fun h15 => ?_)
    · refine E_iconst (v := nI 1) d_Sg_joinsTwo_24 rfl ?_
      refine E_goto 29 d_Sg_joinsTwo_25 rfl ?_
      refine E_retZ d_Sg_joinsTwo_29 rfl (by decide) ?_
      first | exact ⟨fun _ => rfl, fun q => absurd (show joB s by unfold joB; omega) q, rfl⟩ | exact ⟨fun q => absurd q (show ¬ joB s by unfold joB; omega), fun _ => rfl, rfl⟩
    · refine E_iload_n d_Sg_joinsTwo_18 rfl ?_
      refine E_bipush (v := nI 17) d_Sg_joinsTwo_19 (by decide) ?_
      first | (with_reducible refine E_isN2 ?_; refine E_icmp_ne 28 d_Sg_joinsTwo_21 rfl (nb_ne fun h21 => ?_) (nb_eq (by omega) (by omega) fun h21 => ?_)) | refine E_icmp_ne 28 d_Sg_joinsTwo_21 rfl (fun h21 => ?_) (fun h21 => ?_)
      · refine E_iconst (v := nI 0) d_Sg_joinsTwo_28 rfl ?_
        refine E_retZ d_Sg_joinsTwo_29 rfl (by decide) ?_
        first | exact ⟨fun _ => rfl, fun q => absurd (show joB s by unfold joB; omega) q, rfl⟩ | exact ⟨fun q => absurd q (show ¬ joB s by unfold joB; omega), fun _ => rfl, rfl⟩
      · refine E_iconst (v := nI 1) d_Sg_joinsTwo_24 rfl ?_
        refine E_goto 29 d_Sg_joinsTwo_25 rfl ?_
        refine E_retZ d_Sg_joinsTwo_29 rfl (by decide) ?_
        first | exact ⟨fun _ => rfl, fun q => absurd (show joB s by unfold joB; omega) q, rfl⟩ | exact ⟨fun q => absurd q (show ¬ joB s by unfold joB; omega), fun _ => rfl, rfl⟩
  · refine E_iload_n d_Sg_joinsTwo_6 rfl ?_
    refine E_bipush (v := nI 35) d_Sg_joinsTwo_7 (by decide) ?_
    first | (with_reducible refine E_isN2 ?_; refine E_icmp_le 24 d_Sg_joinsTwo_9 rfl (nb_le (by omega) (by omega) fun h9 => ?_) (nb_nle (by omega) (by omega) fun h9 => ?_)) | refine E_icmp_le 24 d_Sg_joinsTwo_9 rfl (fun h9 => ?_) (fun h9 => ?_)
    · refine E_iconst (v := nI 1) d_Sg_joinsTwo_24 rfl ?_
      refine E_goto 29 d_Sg_joinsTwo_25 rfl ?_
      refine E_retZ d_Sg_joinsTwo_29 rfl (by decide) ?_
      first | exact ⟨fun _ => rfl, fun q => absurd (show joB s by unfold joB; omega) q, rfl⟩ | exact ⟨fun q => absurd q (show ¬ joB s by unfold joB; omega), fun _ => rfl, rfl⟩
    · refine E_iload_n d_Sg_joinsTwo_12 rfl ?_
      refine E_bipush (v := nI 16) d_Sg_joinsTwo_13 (by decide) ?_
      first | (with_reducible refine E_isN2 ?_; refine E_icmp_eq 24 d_Sg_joinsTwo_15 rfl (nb_eq (by omega) (by omega) fun h15 => ?_) (nb_ne fun h15 => ?_)) | refine E_icmp_eq 24 d_Sg_joinsTwo_15 rfl (fun h15 => ?_) (fun h15 => ?_)
      · refine E_iconst (v := nI 1) d_Sg_joinsTwo_24 rfl ?_
        refine E_goto 29 d_Sg_joinsTwo_25 rfl ?_
        refine E_retZ d_Sg_joinsTwo_29 rfl (by decide) ?_
        first | exact ⟨fun _ => rfl, fun q => absurd (show joB s by unfold joB; omega) q, rfl⟩ | exact ⟨fun q => absurd q (show ¬ joB s by unfold joB; omega), fun _ => rfl, rfl⟩
      · refine E_iload_n d_Sg_joinsTwo_18 rfl ?_
        refine E_bipush (v := nI 17) d_Sg_joinsTwo_19 (by decide) ?_
        first | (with_reducible refine E_isN2 ?_; refine E_icmp_ne 28 d_Sg_joinsTwo_21 rfl (nb_ne fun h21 => ?_) (nb_eq (by omega) (by omega) fun h21 => ?_)) | refine E_icmp_ne 28 d_Sg_joinsTwo_21 rfl (fun h21 => ?_) (fun h21 => ?_)
        · refine E_iconst (v := nI 0) d_Sg_joinsTwo_28 rfl ?_
          refine E_retZ d_Sg_joinsTwo_29 rfl (by decide) ?_
          first | exact ⟨fun _ => rfl, fun q => absurd (show joB s by unfold joB; omega) q, rfl⟩ | exact ⟨fun q => absurd q (show ¬ joB s by unfold joB; omega), fun _ => rfl, rfl⟩
        · refine E_iconst (v := nI 1) d_Sg_joinsTwo_24 rfl ?_
          refine E_goto 29 d_Sg_joinsTwo_25 rfl ?_
          refine E_retZ d_Sg_joinsTwo_29 rfl (by decide) ?_
          first | exact ⟨fun _ => rfl, fun q => absurd (show joB s by unfold joB; omega) q, rfl⟩ | exact ⟨fun q => absurd q (show ¬ joB s by unfold joB; omega), fun _ => rfl, rfl⟩
theorem sp_Sg_changesOne {G : Geo} {M : Mem} {s : Nat} (hs : s < 100) : E 0 0 0 Y_Sg_changesOne 0 [some (.int (nI s))] [] G M (QI G fun r M' => (chB s → r = nI 1) ∧ (¬ chB s → r = nI 0) ∧ M' = M) := by
  refine E_iload_n d_Sg_changesOne_0 rfl ?_
  refine E_bipush (v := nI 10) d_Sg_changesOne_1 (by decide) ?_
  first | (with_reducible refine E_isN2 ?_; refine E_icmp_eq 24 d_Sg_changesOne_3 rfl (nb_eq (by omega) (by omega) fun h3 => ?_) (nb_ne fun h3 => ?_)) | refine E_icmp_eq 24 d_Sg_changesOne_3 rfl (fun h3 => ?_) (fun h3 => ?_)
  · refine E_iconst (v := nI 1) d_Sg_changesOne_24 rfl ?_
    refine E_goto 29 d_Sg_changesOne_25 rfl ?_
    refine E_retZ d_Sg_changesOne_29 rfl (by decide) ?_
    first | exact ⟨fun _ => rfl, fun q => absurd (show chB s by unfold chB; omega) q, rfl⟩ | exact ⟨fun q => absurd q (show ¬ chB s by unfold chB; omega), fun _ => rfl, rfl⟩
  · refine E_iload_n d_Sg_changesOne_6 rfl ?_
    refine E_bipush (v := nI 11) d_Sg_changesOne_7 (by decide) ?_
    first | (with_reducible refine E_isN2 ?_; refine E_icmp_eq 24 d_Sg_changesOne_9 rfl (nb_eq (by omega) (by omega) fun h9 => ?_) (nb_ne fun h9 => ?_)) | refine E_icmp_eq 24 d_Sg_changesOne_9 rfl (fun h9 => ?_) (fun h9 => ?_)
    · refine E_iconst (v := nI 1) d_Sg_changesOne_24 rfl ?_
      refine E_goto 29 d_Sg_changesOne_25 rfl ?_
      refine E_retZ d_Sg_changesOne_29 rfl (by decide) ?_
      first | exact ⟨fun _ => rfl, fun q => absurd (show chB s by unfold chB; omega) q, rfl⟩ | exact ⟨fun q => absurd q (show ¬ chB s by unfold chB; omega), fun _ => rfl, rfl⟩
    · refine E_iload_n d_Sg_changesOne_12 rfl ?_
      refine E_bipush (v := nI 18) d_Sg_changesOne_13 (by decide) ?_
      first | (with_reducible refine E_isN2 ?_; refine E_icmp_eq 24 d_Sg_changesOne_15 rfl (nb_eq (by omega) (by omega) fun h15 => ?_) (nb_ne fun h15 => ?_)) | refine E_icmp_eq 24 d_Sg_changesOne_15 rfl (fun h15 => ?_) (fun h15 => ?_)
      · refine E_iconst (v := nI 1) d_Sg_changesOne_24 rfl ?_
        refine E_goto 29 d_Sg_changesOne_25 rfl ?_
        refine E_retZ d_Sg_changesOne_29 rfl (by decide) ?_
        first | exact ⟨fun _ => rfl, fun q => absurd (show chB s by unfold chB; omega) q, rfl⟩ | exact ⟨fun q => absurd q (show ¬ chB s by unfold chB; omega), fun _ => rfl, rfl⟩
      · refine E_iload_n d_Sg_changesOne_18 rfl ?_
        refine E_bipush (v := nI 42) d_Sg_changesOne_19 (by decide) ?_
        first | (with_reducible refine E_isN2 ?_; refine E_icmp_ne 28 d_Sg_changesOne_21 rfl (nb_ne fun h21 => ?_) (nb_eq (by omega) (by omega) fun h21 => ?_)) | refine E_icmp_ne 28 d_Sg_changesOne_21 rfl (fun h21 => ?_) (fun h21 => ?_)
        · refine E_iconst (v := nI 0) d_Sg_changesOne_28 rfl ?_
          refine E_retZ d_Sg_changesOne_29 rfl (by decide) ?_
          first | exact ⟨fun _ => rfl, fun q => absurd (show chB s by unfold chB; omega) q, rfl⟩ | exact ⟨fun q => absurd q (show ¬ chB s by unfold chB; omega), fun _ => rfl, rfl⟩
        · refine E_iconst (v := nI 1) d_Sg_changesOne_24 rfl ?_
          refine E_goto 29 d_Sg_changesOne_25 rfl ?_
          refine E_retZ d_Sg_changesOne_29 rfl (by decide) ?_
          first | exact ⟨fun _ => rfl, fun q => absurd (show chB s by unfold chB; omega) q, rfl⟩ | exact ⟨fun q => absurd q (show ¬ chB s by unfold chB; omega), fun _ => rfl, rfl⟩
def AK (c : Cr) (m : Mo) (ma p f y : Nat) (G : Geo) (M : Mem) : Prop := CM c G M ∧ MoAd ma ∧ MoC m ma M ∧ Mok m ∧ m.people ≤ c.now.people ∧ p < m.people ∧ f ≤ 8 ∧ y ≤ 1 ∧ mR M 212 2 = some ma ∧ mI M 212 3 = nI p ∧ mI M 212 4 = nI f ∧ mI M 212 5 = nI y
theorem AK.sc {c : Cr} {m : Mo} {ma p f y : Nat} {G : Geo} {M M' : Mem} (h : AK c m ma p f y G M) (g : Sc (fun a => a = 213) M M') (g2 : mR M' 212 2 = mR M 212 2) : AK c m ma p f y G M' := by
  obtain ⟨h1, h2, h3, h4, h5, h6, h7, h8, h9, h10, h11, h12⟩ := h
  have hlt := h2.lt
  have e : ∀ a, a ≠ 213 → mI M' a = mI M a := fun a ha => (g.2 a ha).1
  exact ⟨h1.sc g (fun a q => by omega), h2, h3.cg (e _ (by omega)) (e _ (by unfold MoAd at h2; omega)) (e _ (by unfold MoAd at h2; omega)), h4, h5, h6, h7, h8, by rw [g2]; exact h9, by rw [e 212 (by decide)]; exact h10, by rw [e 212 (by decide)]; exact h11, by rw [e 212 (by decide)]; exact h12⟩
theorem sp_As_named {c : Cr} {m : Mo} {ma p f y k s : Nat} {G : Geo} {M : Mem} (hk : AK c m ma p f y G M) (hks : nmP k s) : E 1 0 0 Y_As_named 0 [some (.ref 212), some (.int (nI s))] [] G M (QI G fun r M' => r = iI (nmOf c m p f y k) ∧ M' = M) := by
  obtain ⟨hC, hma, hm, hmk, hpl, hp, hf, hy, hmo, hp3, hf4, hy5⟩ := hk
  have hG := hC.G
  have hR := hC.R
  have hp8 := hmk.p8
  rcases hks with ⟨rfl, rfl⟩ | ⟨rfl, rfl⟩ | ⟨rfl, rfl⟩ | ⟨rfl, rfl⟩ | ⟨rfl, rfl⟩ | ⟨rfl, rfl⟩ | ⟨rfl, rfl⟩ | ⟨rfl, rfl⟩
  · refine E_iload_n d_As_named_0 rfl ?_
    refine E_tableIn 104 d_As_named_1 (by decide) (by decide) (by first | rfl | decide) rfl ?_
    first | refine E_aload_n d_As_named_104 rfl ?_ | refine E_aload_nN d_As_named_104 rfl ?_
    refine E_getR d_As_named_105 gf_As_25 (by first | exact hG.s (by decide) rfl | exact hG.m hma | exact hG.m1 hma | exact hG.m2 hma) (by first | exact hR.o rfl | exact hmo | exact hR.c cr1 rfl | exact hR.m0 hma) ?_
    refine E_getI d_As_named_108 gf_As_131 (by first | exact hG.s (by decide) rfl | exact hG.m hma | exact hG.m1 hma | exact hG.m2 hma) (by first | exact hp3 | exact hf4 | exact hy5 | exact hm.people | exact hm.answers | exact hm.round) ?_
    refine E_retI d_As_named_111 rfl ?_
    exact ⟨nI_iI _, rfl⟩
  · refine E_iload_n d_As_named_0 rfl ?_
    refine E_tableIn 112 d_As_named_1 (by decide) (by decide) (by first | rfl | decide) rfl ?_
    first | refine E_aload_n d_As_named_112 rfl ?_ | refine E_aload_nN d_As_named_112 rfl ?_
    refine E_getI d_As_named_113 gf_As_38 (by first | exact hG.s (by decide) rfl | exact hG.m hma | exact hG.m1 hma | exact hG.m2 hma) (by first | exact hp3 | exact hf4 | exact hy5 | exact hm.people | exact hm.answers | exact hm.round) ?_
    refine E_retI d_As_named_116 rfl ?_
    exact ⟨nI_iI _, rfl⟩
  · refine E_iload_n d_As_named_0 rfl ?_
    refine E_tableIn 117 d_As_named_1 (by decide) (by decide) (by first | rfl | decide) rfl ?_
    first | refine E_aload_n d_As_named_117 rfl ?_ | refine E_aload_nN d_As_named_117 rfl ?_
    refine E_getR d_As_named_118 gf_As_25 (by first | exact hG.s (by decide) rfl | exact hG.m hma | exact hG.m1 hma | exact hG.m2 hma) (by first | exact hR.o rfl | exact hmo | exact hR.c cr1 rfl | exact hR.m0 hma) ?_
    refine E_getR d_As_named_121 gf_As_63 (by first | exact hG.s (by decide) rfl | exact hG.m hma | exact hG.m1 hma | exact hG.m2 hma) (by first | exact hR.o rfl | exact hmo | exact hR.c cr1 rfl | exact hR.m0 hma) ?_
    first | refine E_aload_n d_As_named_124 rfl ?_ | refine E_aload_nN d_As_named_124 rfl ?_
    refine E_getI d_As_named_125 gf_As_38 (by first | exact hG.s (by decide) rfl | exact hG.m hma | exact hG.m1 hma | exact hG.m2 hma) (by first | exact hp3 | exact hf4 | exact hy5 | exact hm.people | exact hm.answers | exact hm.round) ?_
    refine E_SN2 (sp_TP_at (hG.m1 hma) (by decide) (by omega) (hm.lean hp)) d_As_named_128 nl_As_66 cb_TP_at cs_TP_at ⟨by decide, by decide⟩ rfl (Nat.le_of_ble_eq_true rfl) (Nat.le_of_ble_eq_true rfl) (kI fun r1 M1 hc => ?_)
    obtain ⟨rfl, rfl⟩ := hc
    refine E_retI d_As_named_131 rfl ?_
    exact ⟨nI_iI _, rfl⟩
  · refine E_iload_n d_As_named_0 rfl ?_
    refine E_tableIn 132 d_As_named_1 (by decide) (by decide) (by first | rfl | decide) rfl ?_
    first | refine E_aload_n d_As_named_132 rfl ?_ | refine E_aload_nN d_As_named_132 rfl ?_
    refine E_getR d_As_named_133 gf_As_15 (by first | exact hG.s (by decide) rfl | exact hG.m hma | exact hG.m1 hma | exact hG.m2 hma) (by first | exact hR.o rfl | exact hmo | exact hR.c cr1 rfl | exact hR.m0 hma) ?_
    refine E_getR d_As_named_136 gf_As_70 (by first | exact hG.s (by decide) rfl | exact hG.m hma | exact hG.m1 hma | exact hG.m2 hma) (by first | exact hR.o rfl | exact hmo | exact hR.c cr1 rfl | exact hR.m0 hma) ?_
    first | refine E_aload_n d_As_named_139 rfl ?_ | refine E_aload_nN d_As_named_139 rfl ?_
    refine E_getI d_As_named_140 gf_As_38 (by first | exact hG.s (by decide) rfl | exact hG.m hma | exact hG.m1 hma | exact hG.m2 hma) (by first | exact hp3 | exact hf4 | exact hy5 | exact hm.people | exact hm.answers | exact hm.round) ?_
    refine E_SN2 (sp_TP_at (hG.s (k := 1 + 4) (by decide) rfl) (by decide) (by omega) (hC.H.sort (by omega))) d_As_named_143 nl_As_66 cb_TP_at cs_TP_at ⟨by decide, by decide⟩ rfl (Nat.le_of_ble_eq_true rfl) (Nat.le_of_ble_eq_true rfl) (kI fun r1 M1 hc => ?_)
    obtain ⟨rfl, rfl⟩ := hc
    refine E_retI d_As_named_146 rfl ?_
    exact ⟨nI_iI _, rfl⟩
  · refine E_iload_n d_As_named_0 rfl ?_
    refine E_tableIn 147 d_As_named_1 (by decide) (by decide) (by first | rfl | decide) rfl ?_
    first | refine E_aload_n d_As_named_147 rfl ?_ | refine E_aload_nN d_As_named_147 rfl ?_
    refine E_getR d_As_named_148 gf_As_25 (by first | exact hG.s (by decide) rfl | exact hG.m hma | exact hG.m1 hma | exact hG.m2 hma) (by first | exact hR.o rfl | exact hmo | exact hR.c cr1 rfl | exact hR.m0 hma) ?_
    refine E_getI d_As_named_151 gf_As_28 (by first | exact hG.s (by decide) rfl | exact hG.m hma | exact hG.m1 hma | exact hG.m2 hma) (by first | exact hp3 | exact hf4 | exact hy5 | exact hm.people | exact hm.answers | exact hm.round) ?_
    refine E_retI d_As_named_154 rfl ?_
    exact ⟨nI_iI _, rfl⟩
  · have hb : c.hears p &&& m.answers < 512 := Nat.lt_of_le_of_lt Nat.and_le_right (by have := hmk.ans8; omega)
    refine E_iload_n d_As_named_0 rfl ?_
    refine E_tableIn 155 d_As_named_1 (by decide) (by decide) (by first | rfl | decide) rfl ?_
    first | refine E_aload_n d_As_named_155 rfl ?_ | refine E_aload_nN d_As_named_155 rfl ?_
    refine E_getR d_As_named_156 gf_As_15 (by first | exact hG.s (by decide) rfl | exact hG.m hma | exact hG.m1 hma | exact hG.m2 hma) (by first | exact hR.o rfl | exact hmo | exact hR.c cr1 rfl | exact hR.m0 hma) ?_
    refine E_getR d_As_named_159 gf_As_134 (by first | exact hG.s (by decide) rfl | exact hG.m hma | exact hG.m1 hma | exact hG.m2 hma) (by first | exact hR.o rfl | exact hmo | exact hR.c cr1 rfl | exact hR.m0 hma) ?_
    first | refine E_aload_n d_As_named_162 rfl ?_ | refine E_aload_nN d_As_named_162 rfl ?_
    refine E_getI d_As_named_163 gf_As_38 (by first | exact hG.s (by decide) rfl | exact hG.m hma | exact hG.m1 hma | exact hG.m2 hma) (by first | exact hp3 | exact hf4 | exact hy5 | exact hm.people | exact hm.answers | exact hm.round) ?_
    refine E_SN2 (sp_TP_at (hG.s (k := 1 + 6) (by decide) rfl) (by decide) (by omega) (hC.H.hears (by omega))) d_As_named_166 nl_As_66 cb_TP_at cs_TP_at ⟨by decide, by decide⟩ rfl (Nat.le_of_ble_eq_true rfl) (Nat.le_of_ble_eq_true rfl) (kI fun r1 M1 hc => ?_)
    obtain ⟨rfl, rfl⟩ := hc
    first | refine E_aload_n d_As_named_169 rfl ?_ | refine E_aload_nN d_As_named_169 rfl ?_
    refine E_getR d_As_named_170 gf_As_25 (by first | exact hG.s (by decide) rfl | exact hG.m hma | exact hG.m1 hma | exact hG.m2 hma) (by first | exact hR.o rfl | exact hmo | exact hR.c cr1 rfl | exact hR.m0 hma) ?_
    refine E_getI d_As_named_173 gf_As_137 (by first | exact hG.s (by decide) rfl | exact hG.m hma | exact hG.m1 hma | exact hG.m2 hma) (by first | exact hp3 | exact hf4 | exact hy5 | exact hm.people | exact hm.answers | exact hm.round) ?_
    first | (with_reducible refine E_isN2 ?_; refine E_iandN d_As_named_176 ?_) | refine E_iand d_As_named_176 ?_
    refine E_S1 (sp_JI_bitCount hb) d_As_named_177 ml_As_140 cb_JI_bitCount cs_JI_bitCount ⟨by decide, by decide⟩ rfl (Nat.le_of_ble_eq_true rfl) (Nat.le_of_ble_eq_true rfl) (kI fun r1 M1 hc => ?_)
    obtain ⟨rfl, rfl⟩ := hc
    refine E_retI d_As_named_180 rfl ?_
    exact ⟨nI_iI _, rfl⟩
  · refine E_iload_n d_As_named_0 rfl ?_
    refine E_tableIn 181 d_As_named_1 (by decide) (by decide) (by first | rfl | decide) rfl ?_
    first | refine E_aload_n d_As_named_181 rfl ?_ | refine E_aload_nN d_As_named_181 rfl ?_
    refine E_getI d_As_named_182 gf_As_41 (by first | exact hG.s (by decide) rfl | exact hG.m hma | exact hG.m1 hma | exact hG.m2 hma) (by first | exact hp3 | exact hf4 | exact hy5 | exact hm.people | exact hm.answers | exact hm.round) ?_
    refine E_retI d_As_named_185 rfl ?_
    exact ⟨nI_iI _, rfl⟩
  · refine E_iload_n d_As_named_0 rfl ?_
    refine E_tableOut 186 d_As_named_1 (by decide) rfl ?_
    first | refine E_aload_n d_As_named_186 rfl ?_ | refine E_aload_nN d_As_named_186 rfl ?_
    refine E_getI d_As_named_187 gf_As_44 (by first | exact hG.s (by decide) rfl | exact hG.m hma | exact hG.m1 hma | exact hG.m2 hma) (by first | exact hp3 | exact hf4 | exact hy5 | exact hm.people | exact hm.answers | exact hm.round) ?_
    refine E_retI d_As_named_190 rfl ?_
    exact ⟨nI_iI _, rfl⟩
theorem iI_neg (v : Int) : -iI v = iI (-v) := (Int32.ofInt_neg v).symm
theorem iI_lt0 {v : Int} (h : zM v) : iI v < 0 ↔ v < 0 := by rw [lt_toInt, iI_toInt ⟨by have := h.1; omega, by have := h.2; omega⟩, z32]
theorem iI_leN {v : Int} {n : Nat} (h : zM v) (hn : n < 1000000) : nI n ≤ iI v ↔ (n : Int) ≤ v := by rw [le_toInt, iI_toInt ⟨by have := h.1; omega, by have := h.2; omega⟩, nI_toInt (by omega)]
theorem sp_As_changed {c : Cr} {m : Mo} {ma p f y u s : Nat} {v : Int} {G : Geo} {M : Mem} (hk : AK c m ma p f y G M) (hus : unP u s) (hv : zM v) : E 1 0 0 Y_As_changed 0 [some (.ref 212), some (.int (nI s)), some (.int (iI v)), none] [] G M (QI G fun r M' => r = iI (oneBy m u v) ∧ M' = M) := by
  obtain ⟨hC, hma, hm, hmk, hpl, hp, hf, hy, hmo, hp3, hf4, hy5⟩ := hk
  have hG := hC.G
  have hR := hC.R
  have hp8 := hmk.p8
  have hans := hmk.ans8
  have hlt := iI_lt0 hv
  have hle := iI_leN (n := m.people) hv (by omega)
  by_cases hn : v < 0
  · rcases hus with ⟨rfl, rfl⟩ | ⟨rfl, rfl⟩ | ⟨rfl, rfl⟩
    · refine E_iload_n d_As_changed_0 rfl ?_
      first | (with_reducible refine E_isN1 ?_; refine E_if_lt 19 d_As_changed_1 rfl (nz_lt (by omega) fun h1 => ?_) (nz_nlt (by omega) fun h1 => ?_)) | refine E_if_lt 19 d_As_changed_1 rfl (fun h1 => ?_) (fun h1 => ?_)
      rotate_left
      · exfalso; exact h1 (hlt.mpr hn)
      refine E_iconst (v := nI 0) d_As_changed_19 rfl ?_
      refine E_istore_3 d_As_changed_20 rfl ?_
      refine E_iload_n d_As_changed_21 rfl ?_
      refine E_lookup (off := 78) 100 d_As_changed_22 (by decide) (by rfl) rfl ?_
      refine E_iload_n d_As_changed_100 rfl ?_
      refine E_ineg d_As_changed_101 ?_
      refine E_retI d_As_changed_102 rfl ?_
      exact ⟨by rw [oneBy_5, iI_neg], rfl⟩
    · refine E_iload_n d_As_changed_0 rfl ?_
      first | (with_reducible refine E_isN1 ?_; refine E_if_lt 19 d_As_changed_1 rfl (nz_lt (by omega) fun h1 => ?_) (nz_nlt (by omega) fun h1 => ?_)) | refine E_if_lt 19 d_As_changed_1 rfl (fun h1 => ?_) (fun h1 => ?_)
      rotate_left
      · exfalso; exact h1 (hlt.mpr hn)
      refine E_iconst (v := nI 0) d_As_changed_19 rfl ?_
      refine E_istore_3 d_As_changed_20 rfl ?_
      refine E_iload_n d_As_changed_21 rfl ?_
      refine E_lookup (off := 34) 56 d_As_changed_22 (by decide) (by rfl) rfl ?_
      refine E_iload_n d_As_changed_56 rfl ?_
      first | (with_reducible refine E_isP ?_; refine E_if_eq 74 d_As_changed_57 rfl (pb_0 fun h57 => ?_) (pb_1 fun h57 => ?_)) | (with_reducible refine E_isN1 ?_; refine E_if_eq 74 d_As_changed_57 rfl (nz_eq (by omega) fun h57 => ?_) (nz_ne fun h57 => ?_)) | refine E_if_eq 74 d_As_changed_57 rfl (fun h57 => ?_) (fun h57 => ?_)
      rotate_left
      · exfalso; exact h57 rfl
      refine E_iconst (v := nI 0) d_As_changed_74 rfl ?_
      refine E_retI d_As_changed_75 rfl ?_
      exact ⟨by rw [oneBy_out (by decide) (Or.inl hn)]; rfl, rfl⟩
    · refine E_iload_n d_As_changed_0 rfl ?_
      first | (with_reducible refine E_isN1 ?_; refine E_if_lt 19 d_As_changed_1 rfl (nz_lt (by omega) fun h1 => ?_) (nz_nlt (by omega) fun h1 => ?_)) | refine E_if_lt 19 d_As_changed_1 rfl (fun h1 => ?_) (fun h1 => ?_)
      rotate_left
      · exfalso; exact h1 (hlt.mpr hn)
      refine E_iconst (v := nI 0) d_As_changed_19 rfl ?_
      refine E_istore_3 d_As_changed_20 rfl ?_
      refine E_iload_n d_As_changed_21 rfl ?_
      refine E_lookup (off := 54) 76 d_As_changed_22 (by decide) (by rfl) rfl ?_
      refine E_iload_n d_As_changed_76 rfl ?_
      first | (with_reducible refine E_isP ?_; refine E_if_eq 94 d_As_changed_77 rfl (pb_0 fun h77 => ?_) (pb_1 fun h77 => ?_)) | (with_reducible refine E_isN1 ?_; refine E_if_eq 94 d_As_changed_77 rfl (nz_eq (by omega) fun h77 => ?_) (nz_ne fun h77 => ?_)) | refine E_if_eq 94 d_As_changed_77 rfl (fun h77 => ?_) (fun h77 => ?_)
      rotate_left
      · exfalso; exact h77 rfl
      refine E_iconst (v := nI 0) d_As_changed_94 rfl ?_
      refine E_retI d_As_changed_95 rfl ?_
      exact ⟨by rw [oneBy_out (by decide) (Or.inl hn)]; rfl, rfl⟩
  · by_cases hb : (m.people : Int) ≤ v
    · rcases hus with ⟨rfl, rfl⟩ | ⟨rfl, rfl⟩ | ⟨rfl, rfl⟩
      · refine E_iload_n d_As_changed_0 rfl ?_
        first | (with_reducible refine E_isN1 ?_; refine E_if_lt 19 d_As_changed_1 rfl (nz_lt (by omega) fun h1 => ?_) (nz_nlt (by omega) fun h1 => ?_)) | refine E_if_lt 19 d_As_changed_1 rfl (fun h1 => ?_) (fun h1 => ?_)
        · exfalso; exact hn (hlt.mp h1)
        refine E_iload_n d_As_changed_4 rfl ?_
        first | refine E_aload_n d_As_changed_5 rfl ?_ | refine E_aload_nN d_As_changed_5 rfl ?_
        refine E_getR d_As_changed_6 gf_As_25 (by first | exact hG.s (by decide) rfl | exact hG.m hma | exact hG.m1 hma | exact hG.m2 hma) (by first | exact hR.o rfl | exact hmo | exact hR.c cr1 rfl | exact hR.m0 hma) ?_
        refine E_getI d_As_changed_9 gf_As_28 (by first | exact hG.s (by decide) rfl | exact hG.m hma | exact hG.m1 hma | exact hG.m2 hma) (by first | exact hp3 | exact hf4 | exact hy5 | exact hm.people | exact hm.answers | exact hm.round) ?_
        first | (with_reducible refine E_isN2 ?_; refine E_icmp_ge 19 d_As_changed_12 rfl (nb_le (by omega) (by omega) fun h12 => ?_) (nb_nle (by omega) (by omega) fun h12 => ?_)) | refine E_icmp_ge 19 d_As_changed_12 rfl (fun h12 => ?_) (fun h12 => ?_)
        rotate_left
        · exfalso; exact h12 (hle.mpr hb)
        refine E_iconst (v := nI 0) d_As_changed_19 rfl ?_
        refine E_istore_3 d_As_changed_20 rfl ?_
        refine E_iload_n d_As_changed_21 rfl ?_
        refine E_lookup (off := 78) 100 d_As_changed_22 (by decide) (by rfl) rfl ?_
        refine E_iload_n d_As_changed_100 rfl ?_
        refine E_ineg d_As_changed_101 ?_
        refine E_retI d_As_changed_102 rfl ?_
        exact ⟨by rw [oneBy_5, iI_neg], rfl⟩
      · refine E_iload_n d_As_changed_0 rfl ?_
        first | (with_reducible refine E_isN1 ?_; refine E_if_lt 19 d_As_changed_1 rfl (nz_lt (by omega) fun h1 => ?_) (nz_nlt (by omega) fun h1 => ?_)) | refine E_if_lt 19 d_As_changed_1 rfl (fun h1 => ?_) (fun h1 => ?_)
        · exfalso; exact hn (hlt.mp h1)
        refine E_iload_n d_As_changed_4 rfl ?_
        first | refine E_aload_n d_As_changed_5 rfl ?_ | refine E_aload_nN d_As_changed_5 rfl ?_
        refine E_getR d_As_changed_6 gf_As_25 (by first | exact hG.s (by decide) rfl | exact hG.m hma | exact hG.m1 hma | exact hG.m2 hma) (by first | exact hR.o rfl | exact hmo | exact hR.c cr1 rfl | exact hR.m0 hma) ?_
        refine E_getI d_As_changed_9 gf_As_28 (by first | exact hG.s (by decide) rfl | exact hG.m hma | exact hG.m1 hma | exact hG.m2 hma) (by first | exact hp3 | exact hf4 | exact hy5 | exact hm.people | exact hm.answers | exact hm.round) ?_
        first | (with_reducible refine E_isN2 ?_; refine E_icmp_ge 19 d_As_changed_12 rfl (nb_le (by omega) (by omega) fun h12 => ?_) (nb_nle (by omega) (by omega) fun h12 => ?_)) | refine E_icmp_ge 19 d_As_changed_12 rfl (fun h12 => ?_) (fun h12 => ?_)
        rotate_left
        · exfalso; exact h12 (hle.mpr hb)
        refine E_iconst (v := nI 0) d_As_changed_19 rfl ?_
        refine E_istore_3 d_As_changed_20 rfl ?_
        refine E_iload_n d_As_changed_21 rfl ?_
        refine E_lookup (off := 34) 56 d_As_changed_22 (by decide) (by rfl) rfl ?_
        refine E_iload_n d_As_changed_56 rfl ?_
        first | (with_reducible refine E_isP ?_; refine E_if_eq 74 d_As_changed_57 rfl (pb_0 fun h57 => ?_) (pb_1 fun h57 => ?_)) | (with_reducible refine E_isN1 ?_; refine E_if_eq 74 d_As_changed_57 rfl (nz_eq (by omega) fun h57 => ?_) (nz_ne fun h57 => ?_)) | refine E_if_eq 74 d_As_changed_57 rfl (fun h57 => ?_) (fun h57 => ?_)
        rotate_left
        · exfalso; exact h57 rfl
        refine E_iconst (v := nI 0) d_As_changed_74 rfl ?_
        refine E_retI d_As_changed_75 rfl ?_
        exact ⟨by rw [oneBy_out (by decide) (Or.inr hb)]; rfl, rfl⟩
      · refine E_iload_n d_As_changed_0 rfl ?_
        first | (with_reducible refine E_isN1 ?_; refine E_if_lt 19 d_As_changed_1 rfl (nz_lt (by omega) fun h1 => ?_) (nz_nlt (by omega) fun h1 => ?_)) | refine E_if_lt 19 d_As_changed_1 rfl (fun h1 => ?_) (fun h1 => ?_)
        · exfalso; exact hn (hlt.mp h1)
        refine E_iload_n d_As_changed_4 rfl ?_
        first | refine E_aload_n d_As_changed_5 rfl ?_ | refine E_aload_nN d_As_changed_5 rfl ?_
        refine E_getR d_As_changed_6 gf_As_25 (by first | exact hG.s (by decide) rfl | exact hG.m hma | exact hG.m1 hma | exact hG.m2 hma) (by first | exact hR.o rfl | exact hmo | exact hR.c cr1 rfl | exact hR.m0 hma) ?_
        refine E_getI d_As_changed_9 gf_As_28 (by first | exact hG.s (by decide) rfl | exact hG.m hma | exact hG.m1 hma | exact hG.m2 hma) (by first | exact hp3 | exact hf4 | exact hy5 | exact hm.people | exact hm.answers | exact hm.round) ?_
        first | (with_reducible refine E_isN2 ?_; refine E_icmp_ge 19 d_As_changed_12 rfl (nb_le (by omega) (by omega) fun h12 => ?_) (nb_nle (by omega) (by omega) fun h12 => ?_)) | refine E_icmp_ge 19 d_As_changed_12 rfl (fun h12 => ?_) (fun h12 => ?_)
        rotate_left
        · exfalso; exact h12 (hle.mpr hb)
        refine E_iconst (v := nI 0) d_As_changed_19 rfl ?_
        refine E_istore_3 d_As_changed_20 rfl ?_
        refine E_iload_n d_As_changed_21 rfl ?_
        refine E_lookup (off := 54) 76 d_As_changed_22 (by decide) (by rfl) rfl ?_
        refine E_iload_n d_As_changed_76 rfl ?_
        first | (with_reducible refine E_isP ?_; refine E_if_eq 94 d_As_changed_77 rfl (pb_0 fun h77 => ?_) (pb_1 fun h77 => ?_)) | (with_reducible refine E_isN1 ?_; refine E_if_eq 94 d_As_changed_77 rfl (nz_eq (by omega) fun h77 => ?_) (nz_ne fun h77 => ?_)) | refine E_if_eq 94 d_As_changed_77 rfl (fun h77 => ?_) (fun h77 => ?_)
        rotate_left
        · exfalso; exact h77 rfl
        refine E_iconst (v := nI 0) d_As_changed_94 rfl ?_
        refine E_retI d_As_changed_95 rfl ?_
        exact ⟨by rw [oneBy_out (by decide) (Or.inr hb)]; rfl, rfl⟩
    · obtain ⟨n, rfl⟩ : ∃ n : Nat, v = (n : Int) := ⟨v.toNat, by omega⟩
      have hnp : n < m.people := by omega
      have en : iI (n : Int) = nI n := (nI_iI n).symm
      rcases hus with ⟨rfl, rfl⟩ | ⟨rfl, rfl⟩ | ⟨rfl, rfl⟩
      · refine E_iload_n d_As_changed_0 rfl ?_
        first | (with_reducible refine E_isN1 ?_; refine E_if_lt 19 d_As_changed_1 rfl (nz_lt (by omega) fun h1 => ?_) (nz_nlt (by omega) fun h1 => ?_)) | refine E_if_lt 19 d_As_changed_1 rfl (fun h1 => ?_) (fun h1 => ?_)
        · exfalso; exact hn (hlt.mp h1)
        refine E_iload_n d_As_changed_4 rfl ?_
        first | refine E_aload_n d_As_changed_5 rfl ?_ | refine E_aload_nN d_As_changed_5 rfl ?_
        refine E_getR d_As_changed_6 gf_As_25 (by first | exact hG.s (by decide) rfl | exact hG.m hma | exact hG.m1 hma | exact hG.m2 hma) (by first | exact hR.o rfl | exact hmo | exact hR.c cr1 rfl | exact hR.m0 hma) ?_
        refine E_getI d_As_changed_9 gf_As_28 (by first | exact hG.s (by decide) rfl | exact hG.m hma | exact hG.m1 hma | exact hG.m2 hma) (by first | exact hp3 | exact hf4 | exact hy5 | exact hm.people | exact hm.answers | exact hm.round) ?_
        first | (with_reducible refine E_isN2 ?_; refine E_icmp_ge 19 d_As_changed_12 rfl (nb_le (by omega) (by omega) fun h12 => ?_) (nb_nle (by omega) (by omega) fun h12 => ?_)) | refine E_icmp_ge 19 d_As_changed_12 rfl (fun h12 => ?_) (fun h12 => ?_)
        · exfalso; exact hb (hle.mp h12)
        refine E_iconst (v := nI 1) d_As_changed_15 rfl ?_
        refine E_goto 20 d_As_changed_16 rfl ?_
        refine E_istore_3 d_As_changed_20 rfl ?_
        refine E_iload_n d_As_changed_21 rfl ?_
        refine E_lookup (off := 78) 100 d_As_changed_22 (by decide) (by rfl) rfl ?_
        refine E_iload_n d_As_changed_100 rfl ?_
        refine E_ineg d_As_changed_101 ?_
        refine E_retI d_As_changed_102 rfl ?_
        exact ⟨by rw [oneBy_5, iI_neg], rfl⟩
      · rw [en] at hlt hle ⊢
        refine E_iload_n d_As_changed_0 rfl ?_
        first | (with_reducible refine E_isN1 ?_; refine E_if_lt 19 d_As_changed_1 rfl (nz_lt (by omega) fun h1 => ?_) (nz_nlt (by omega) fun h1 => ?_)) | refine E_if_lt 19 d_As_changed_1 rfl (fun h1 => ?_) (fun h1 => ?_)
        · exfalso; exact absurd h1 (Nat.not_lt_zero n)
        refine E_iload_n d_As_changed_4 rfl ?_
        first | refine E_aload_n d_As_changed_5 rfl ?_ | refine E_aload_nN d_As_changed_5 rfl ?_
        refine E_getR d_As_changed_6 gf_As_25 (by first | exact hG.s (by decide) rfl | exact hG.m hma | exact hG.m1 hma | exact hG.m2 hma) (by first | exact hR.o rfl | exact hmo | exact hR.c cr1 rfl | exact hR.m0 hma) ?_
        refine E_getI d_As_changed_9 gf_As_28 (by first | exact hG.s (by decide) rfl | exact hG.m hma | exact hG.m1 hma | exact hG.m2 hma) (by first | exact hp3 | exact hf4 | exact hy5 | exact hm.people | exact hm.answers | exact hm.round) ?_
        first | (with_reducible refine E_isN2 ?_; refine E_icmp_ge 19 d_As_changed_12 rfl (nb_le (by omega) (by omega) fun h12 => ?_) (nb_nle (by omega) (by omega) fun h12 => ?_)) | refine E_icmp_ge 19 d_As_changed_12 rfl (fun h12 => ?_) (fun h12 => ?_)
        · exfalso; omega
        refine E_iconst (v := nI 1) d_As_changed_15 rfl ?_
        refine E_goto 20 d_As_changed_16 rfl ?_
        refine E_istore_3 d_As_changed_20 rfl ?_
        refine E_iload_n d_As_changed_21 rfl ?_
        refine E_lookup (off := 34) 56 d_As_changed_22 (by decide) (by rfl) rfl ?_
        refine E_iload_n d_As_changed_56 rfl ?_
        first | (with_reducible refine E_isP ?_; refine E_if_eq 74 d_As_changed_57 rfl (pb_0 fun h57 => ?_) (pb_1 fun h57 => ?_)) | (with_reducible refine E_isN1 ?_; refine E_if_eq 74 d_As_changed_57 rfl (nz_eq (by omega) fun h57 => ?_) (nz_ne fun h57 => ?_)) | refine E_if_eq 74 d_As_changed_57 rfl (fun h57 => ?_) (fun h57 => ?_)
        · exfalso; exact absurd h57 (by decide)
        first | refine E_aload_n d_As_changed_60 rfl ?_ | refine E_aload_nN d_As_changed_60 rfl ?_
        refine E_getR d_As_changed_61 gf_As_25 (by first | exact hG.s (by decide) rfl | exact hG.m hma | exact hG.m1 hma | exact hG.m2 hma) (by first | exact hR.o rfl | exact hmo | exact hR.c cr1 rfl | exact hR.m0 hma) ?_
        refine E_getR d_As_changed_64 gf_As_63 (by first | exact hG.s (by decide) rfl | exact hG.m hma | exact hG.m1 hma | exact hG.m2 hma) (by first | exact hR.o rfl | exact hmo | exact hR.c cr1 rfl | exact hR.m0 hma) ?_
        refine E_iload_n d_As_changed_67 rfl ?_
        refine E_SN2 (sp_TP_at (hG.m1 hma) (by decide) (by omega) (hm.lean hnp)) d_As_changed_68 nl_As_66 cb_TP_at cs_TP_at ⟨by decide, by decide⟩ rfl (Nat.le_of_ble_eq_true rfl) (Nat.le_of_ble_eq_true rfl) (kI fun r1 M1 hc => ?_)
        obtain ⟨rfl, rfl⟩ := hc
        refine E_goto 75 d_As_changed_71 rfl ?_
        refine E_retI d_As_changed_75 rfl ?_
        exact ⟨by rw [oneBy_2 hnp]; exact nI_iI _, rfl⟩
      · rw [en] at hlt hle ⊢
        refine E_iload_n d_As_changed_0 rfl ?_
        first | (with_reducible refine E_isN1 ?_; refine E_if_lt 19 d_As_changed_1 rfl (nz_lt (by omega) fun h1 => ?_) (nz_nlt (by omega) fun h1 => ?_)) | refine E_if_lt 19 d_As_changed_1 rfl (fun h1 => ?_) (fun h1 => ?_)
        · exfalso; exact absurd h1 (Nat.not_lt_zero n)
        refine E_iload_n d_As_changed_4 rfl ?_
        first | refine E_aload_n d_As_changed_5 rfl ?_ | refine E_aload_nN d_As_changed_5 rfl ?_
        refine E_getR d_As_changed_6 gf_As_25 (by first | exact hG.s (by decide) rfl | exact hG.m hma | exact hG.m1 hma | exact hG.m2 hma) (by first | exact hR.o rfl | exact hmo | exact hR.c cr1 rfl | exact hR.m0 hma) ?_
        refine E_getI d_As_changed_9 gf_As_28 (by first | exact hG.s (by decide) rfl | exact hG.m hma | exact hG.m1 hma | exact hG.m2 hma) (by first | exact hp3 | exact hf4 | exact hy5 | exact hm.people | exact hm.answers | exact hm.round) ?_
        first | (with_reducible refine E_isN2 ?_; refine E_icmp_ge 19 d_As_changed_12 rfl (nb_le (by omega) (by omega) fun h12 => ?_) (nb_nle (by omega) (by omega) fun h12 => ?_)) | refine E_icmp_ge 19 d_As_changed_12 rfl (fun h12 => ?_) (fun h12 => ?_)
        · exfalso; omega
        refine E_iconst (v := nI 1) d_As_changed_15 rfl ?_
        refine E_goto 20 d_As_changed_16 rfl ?_
        refine E_istore_3 d_As_changed_20 rfl ?_
        refine E_iload_n d_As_changed_21 rfl ?_
        refine E_lookup (off := 54) 76 d_As_changed_22 (by decide) (by rfl) rfl ?_
        refine E_iload_n d_As_changed_76 rfl ?_
        first | (with_reducible refine E_isP ?_; refine E_if_eq 94 d_As_changed_77 rfl (pb_0 fun h77 => ?_) (pb_1 fun h77 => ?_)) | (with_reducible refine E_isN1 ?_; refine E_if_eq 94 d_As_changed_77 rfl (nz_eq (by omega) fun h77 => ?_) (nz_ne fun h77 => ?_)) | refine E_if_eq 94 d_As_changed_77 rfl (fun h77 => ?_) (fun h77 => ?_)
        · exfalso; exact absurd h77 (by decide)
        first | refine E_aload_n d_As_changed_80 rfl ?_ | refine E_aload_nN d_As_changed_80 rfl ?_
        refine E_getR d_As_changed_81 gf_As_25 (by first | exact hG.s (by decide) rfl | exact hG.m hma | exact hG.m1 hma | exact hG.m2 hma) (by first | exact hR.o rfl | exact hmo | exact hR.c cr1 rfl | exact hR.m0 hma) ?_
        refine E_getI d_As_changed_84 gf_As_137 (by first | exact hG.s (by decide) rfl | exact hG.m hma | exact hG.m1 hma | exact hG.m2 hma) (by first | exact hp3 | exact hf4 | exact hy5 | exact hm.people | exact hm.answers | exact hm.round) ?_
        refine E_iload_n d_As_changed_87 rfl ?_
        first | (with_reducible refine E_isN2 ?_; refine E_ishrN d_As_changed_88 (by omega) (by omega) ?_) | refine E_ishr d_As_changed_88 ?_
        refine E_iconst (v := nI 1) d_As_changed_89 rfl ?_
        first | (with_reducible refine E_isN2 ?_; refine E_iandN d_As_changed_90 ?_) | refine E_iand d_As_changed_90 ?_
        refine E_goto 95 d_As_changed_91 rfl ?_
        refine E_retI d_As_changed_95 rfl ?_
        exact ⟨by rw [oneBy_4 hnp (by decide) (by decide), tb_and]; exact nI_iI _, rfl⟩
theorem sp_As_changedN {c : Cr} {m : Mo} {ma p f y : Nat} {t : Bool} {G : Geo} {M : Mem} (hk : AK c m ma p f y G M) : E 1 0 0 Y_As_changed 0 [some (.ref 212), some (.int (nI 18)), some (.int (iI (if t = true then 1 else 0))), none] [] G M (QI G fun r M' => r = iI (if (!t) = true then 1 else 0) ∧ M' = M) := by
  obtain ⟨hC, hma, hm, hmk, hpl, hp, hf, hy, hmo, hp3, hf4, hy5⟩ := hk
  have hG := hC.G
  have hR := hC.R
  cases t
  · refine E_iload_n d_As_changed_0 rfl ?_
    first | (with_reducible refine E_isN1 ?_; refine E_if_lt 19 d_As_changed_1 rfl (nz_lt (by omega) fun h1 => ?_) (nz_nlt (by omega) fun h1 => ?_)) | refine E_if_lt 19 d_As_changed_1 rfl (fun h1 => ?_) (fun h1 => ?_)
    · refine E_iconst (v := nI 0) d_As_changed_19 rfl ?_
      refine E_istore_3 d_As_changed_20 rfl ?_
      refine E_iload_n d_As_changed_21 rfl ?_
      refine E_lookup (off := 74) 96 d_As_changed_22 (by decide) (by rfl) rfl ?_
      refine E_iconst (v := nI 1) d_As_changed_96 rfl ?_
      refine E_iload_n d_As_changed_97 rfl ?_
      first | (with_reducible refine E_isN2 ?_; refine E_isubN d_As_changed_98 (by omega) ?_) | refine E_isub d_As_changed_98 ?_
      refine E_retI d_As_changed_99 rfl ?_
      exact ⟨by decide, rfl⟩
    · refine E_iload_n d_As_changed_4 rfl ?_
      first | refine E_aload_n d_As_changed_5 rfl ?_ | refine E_aload_nN d_As_changed_5 rfl ?_
      refine E_getR d_As_changed_6 gf_As_25 (by first | exact hG.s (by decide) rfl | exact hG.m hma | exact hG.m1 hma | exact hG.m2 hma) (by first | exact hR.o rfl | exact hmo | exact hR.c cr1 rfl | exact hR.m0 hma) ?_
      refine E_getI d_As_changed_9 gf_As_28 (by first | exact hG.s (by decide) rfl | exact hG.m hma | exact hG.m1 hma | exact hG.m2 hma) (by first | exact hp3 | exact hf4 | exact hy5 | exact hm.people | exact hm.answers | exact hm.round) ?_
      first | (with_reducible refine E_isN2 ?_; refine E_icmp_ge 19 d_As_changed_12 rfl (nb_le (by omega) (by omega) fun h12 => ?_) (nb_nle (by omega) (by omega) fun h12 => ?_)) | refine E_icmp_ge 19 d_As_changed_12 rfl (fun h12 => ?_) (fun h12 => ?_)
      · refine E_iconst (v := nI 0) d_As_changed_19 rfl ?_
        refine E_istore_3 d_As_changed_20 rfl ?_
        refine E_iload_n d_As_changed_21 rfl ?_
        refine E_lookup (off := 74) 96 d_As_changed_22 (by decide) (by rfl) rfl ?_
        refine E_iconst (v := nI 1) d_As_changed_96 rfl ?_
        refine E_iload_n d_As_changed_97 rfl ?_
        first | (with_reducible refine E_isN2 ?_; refine E_isubN d_As_changed_98 (by omega) ?_) | refine E_isub d_As_changed_98 ?_
        refine E_retI d_As_changed_99 rfl ?_
        exact ⟨by decide, rfl⟩
      · refine E_iconst (v := nI 1) d_As_changed_15 rfl ?_
        refine E_goto 20 d_As_changed_16 rfl ?_
        refine E_istore_3 d_As_changed_20 rfl ?_
        refine E_iload_n d_As_changed_21 rfl ?_
        refine E_lookup (off := 74) 96 d_As_changed_22 (by decide) (by rfl) rfl ?_
        refine E_iconst (v := nI 1) d_As_changed_96 rfl ?_
        refine E_iload_n d_As_changed_97 rfl ?_
        first | (with_reducible refine E_isN2 ?_; refine E_isubN d_As_changed_98 (by omega) ?_) | refine E_isub d_As_changed_98 ?_
        refine E_retI d_As_changed_99 rfl ?_
        exact ⟨by decide, rfl⟩
  · refine E_iload_n d_As_changed_0 rfl ?_
    first | (with_reducible refine E_isN1 ?_; refine E_if_lt 19 d_As_changed_1 rfl (nz_lt (by omega) fun h1 => ?_) (nz_nlt (by omega) fun h1 => ?_)) | refine E_if_lt 19 d_As_changed_1 rfl (fun h1 => ?_) (fun h1 => ?_)
    · refine E_iconst (v := nI 0) d_As_changed_19 rfl ?_
      refine E_istore_3 d_As_changed_20 rfl ?_
      refine E_iload_n d_As_changed_21 rfl ?_
      refine E_lookup (off := 74) 96 d_As_changed_22 (by decide) (by rfl) rfl ?_
      refine E_iconst (v := nI 1) d_As_changed_96 rfl ?_
      refine E_iload_n d_As_changed_97 rfl ?_
      first | (with_reducible refine E_isN2 ?_; refine E_isubN d_As_changed_98 (by omega) ?_) | refine E_isub d_As_changed_98 ?_
      refine E_retI d_As_changed_99 rfl ?_
      exact ⟨by decide, rfl⟩
    · refine E_iload_n d_As_changed_4 rfl ?_
      first | refine E_aload_n d_As_changed_5 rfl ?_ | refine E_aload_nN d_As_changed_5 rfl ?_
      refine E_getR d_As_changed_6 gf_As_25 (by first | exact hG.s (by decide) rfl | exact hG.m hma | exact hG.m1 hma | exact hG.m2 hma) (by first | exact hR.o rfl | exact hmo | exact hR.c cr1 rfl | exact hR.m0 hma) ?_
      refine E_getI d_As_changed_9 gf_As_28 (by first | exact hG.s (by decide) rfl | exact hG.m hma | exact hG.m1 hma | exact hG.m2 hma) (by first | exact hp3 | exact hf4 | exact hy5 | exact hm.people | exact hm.answers | exact hm.round) ?_
      first | (with_reducible refine E_isN2 ?_; refine E_icmp_ge 19 d_As_changed_12 rfl (nb_le (by omega) (by omega) fun h12 => ?_) (nb_nle (by omega) (by omega) fun h12 => ?_)) | refine E_icmp_ge 19 d_As_changed_12 rfl (fun h12 => ?_) (fun h12 => ?_)
      · refine E_iconst (v := nI 0) d_As_changed_19 rfl ?_
        refine E_istore_3 d_As_changed_20 rfl ?_
        refine E_iload_n d_As_changed_21 rfl ?_
        refine E_lookup (off := 74) 96 d_As_changed_22 (by decide) (by rfl) rfl ?_
        refine E_iconst (v := nI 1) d_As_changed_96 rfl ?_
        refine E_iload_n d_As_changed_97 rfl ?_
        first | (with_reducible refine E_isN2 ?_; refine E_isubN d_As_changed_98 (by omega) ?_) | refine E_isub d_As_changed_98 ?_
        refine E_retI d_As_changed_99 rfl ?_
        exact ⟨by decide, rfl⟩
      · refine E_iconst (v := nI 1) d_As_changed_15 rfl ?_
        refine E_goto 20 d_As_changed_16 rfl ?_
        refine E_istore_3 d_As_changed_20 rfl ?_
        refine E_iload_n d_As_changed_21 rfl ?_
        refine E_lookup (off := 74) 96 d_As_changed_22 (by decide) (by rfl) rfl ?_
        refine E_iconst (v := nI 1) d_As_changed_96 rfl ?_
        refine E_iload_n d_As_changed_97 rfl ?_
        first | (with_reducible refine E_isN2 ?_; refine E_isubN d_As_changed_98 (by omega) ?_) | refine E_isub d_As_changed_98 ?_
        refine E_retI d_As_changed_99 rfl ?_
        exact ⟨by decide, rfl⟩
