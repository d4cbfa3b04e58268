def WK (c : Cr) (m : Mo) (ma p f y : Nat) (G : Geo) (M : Mem) (la kk : Nat) : Prop := AK c m ma p f y G M ∧ 234 ≤ la ∧ Sh G la (0, 7) ∧ Sh G (la + 4) (1, kk) ∧ Sh G (la + 5) (1, kk) ∧ kk ≤ 300 ∧ mR M la 3 = some (la + 4) ∧ mR M la 4 = some (la + 5)
theorem WK.sx {c : Cr} {m : Mo} {ma p f y : Nat} {G : Geo} {M M' : Mem} {la kk : Nat} (h : WK c m ma p f y G M la kk) (g : Sx S213 M M') : WK c m ma p f y G M' la kk := by
  obtain ⟨h1, h2, h3, h4, h5, h6, h7, h8⟩ := h
  exact ⟨h1.sc g.sc (by rw [g.1]), h2, h3, h4, h5, h6, by rw [g.1]; exact h7, by rw [g.1]; exact h8⟩
def AH (G : Geo) (la fr to : Nat) (Q : Option Value → Geo → Mem → Prop) (k b i : Nat) (M : Mem) : Prop := E 2 0 0 Y_As_worth 9 [some (.ref 212), some (.ref la), some (.int (nI fr)), some (.int (nI to)), some (.int (nI k)), some (.int (nI b)), some (.int (nI i)), none, none, none, none] [] G M Q
theorem lp_As_pre {c : Cr} {m : Mo} {ma p f y la kk fr to k b i s v : Nat} {G : Geo} {M : Mem} {Q : Option Value → Geo → Mem → Prop} (hW : WK c m ma p f y G M la kk) (hto : to ≤ kk) (hb : b < to) (hi : fr + i ≤ b) (h1 : mI M (la + 4) b = nI s) (h2 : mI M (la + 5) b = nI v)
    (K : E 2 0 0 Y_As_worth 48 [some (.ref 212), some (.ref la), some (.int (nI fr)), some (.int (nI to)), some (.int (nI k)), some (.int (nI (b + 1))), some (.int (nI i)), some (.int (nI s)), some (.int (nI v)), none, none] [] G M Q) : AH G la fr to Q k b i M := by
  obtain ⟨hK, h234, hs0, hs4, hs5, hk3, hr3, hr4⟩ := hW
  have hG := hK.1.G
  have hR := hK.1.R
  unfold AH
  refine E_iload d_As_worth_9 rfl ?_
  refine E_sipush (v := nI 300) d_As_worth_11 (by decide) ?_
  first | (with_reducible refine E_isN2 ?_; refine E_icmp_ge 237 d_As_worth_14 rfl (nb_le (by omega) (by omega) fun h14 => ?_) (nb_nle (by omega) (by omega) fun h14 => ?_)) | refine E_icmp_ge 237 d_As_worth_14 rfl (fun h14 => ?_) (fun h14 => ?_)
  · exfalso; omega
  refine E_iload d_As_worth_17 rfl ?_
  refine E_iload_n d_As_worth_19 rfl ?_
  first | (with_reducible refine E_isN2 ?_; refine E_icmp_ge 237 d_As_worth_20 rfl (nb_le (by omega) (by omega) fun h20 => ?_) (nb_nle (by omega) (by omega) fun h20 => ?_)) | refine E_icmp_ge 237 d_As_worth_20 rfl (fun h20 => ?_) (fun h20 => ?_)
  · exfalso; omega
  first | refine E_aload_n d_As_worth_23 rfl ?_ | refine E_aload_nN d_As_worth_23 rfl ?_
  refine E_getR d_As_worth_24 gf_As_97 (by first | exact hG.s (by decide) rfl | exact hs0 | exact hs4 | exact hs5) (by first | exact hR.o rfl | exact hr3 | exact hr4) ?_
  refine E_iload d_As_worth_27 rfl ?_
  refine E_SN2 (sp_TP_at hs4 (by omega) (by omega) h1) d_As_worth_29 nl_As_66 cb_TP_at cs_TP_at ⟨by decide, by decide⟩ rfl (Nat.le_of_ble_eq_true rfl) (Nat.le_of_ble_eq_true rfl) (kI fun r1 M1 hc => ?_)
  obtain ⟨rfl, rfl⟩ := hc
  refine E_istore_7 d_As_worth_32 rfl ?_
  first | refine E_aload_n d_As_worth_34 rfl ?_ | refine E_aload_nN d_As_worth_34 rfl ?_
  refine E_getR d_As_worth_35 gf_As_100 (by first | exact hG.s (by decide) rfl | exact hs0 | exact hs4 | exact hs5) (by first | exact hR.o rfl | exact hr3 | exact hr4) ?_
  refine E_iload d_As_worth_38 rfl ?_
  refine E_SN2 (sp_TP_at hs5 (by omega) (by omega) h2) d_As_worth_40 nl_As_66 cb_TP_at cs_TP_at ⟨by decide, by decide⟩ rfl (Nat.le_of_ble_eq_true rfl) (Nat.le_of_ble_eq_true rfl) (kI fun r1 M1 hc => ?_)
  obtain ⟨rfl, rfl⟩ := hc
  refine E_istore_8 d_As_worth_43 rfl ?_
  first | (with_reducible refine E_isL5 ?_; refine E_iincN5 (m := 1) d_As_worth_45 rfl rfl ?_) | refine E_iinc_5 d_As_worth_45 rfl rfl ?_
  exact K
theorem lp_As_post {la fr to k b i : Nat} {x7 x8 x9 x10 : Option Value} {G : Geo} {M : Mem} {Q : Option Value → Geo → Mem → Prop} (K : AH G la fr to Q k b (i + 1) M) :
    E 2 0 0 Y_As_worth 231 [some (.ref 212), some (.ref la), some (.int (nI fr)), some (.int (nI to)), some (.int (nI k)), some (.int (nI b)), some (.int (nI i)), x7, x8, x9, x10] [] G M Q := by
  unfold AH at K
  refine E_wk (ls' := [some (.ref 212), some (.ref la), some (.int (nI fr)), some (.int (nI to)), some (.int (nI k)), some (.int (nI b)), some (.int (nI i)), none, none, none, none]) ?_ ?_
  · exact ⟨Or.inl rfl, Or.inl rfl, Or.inl rfl, Or.inl rfl, Or.inl rfl, Or.inl rfl, Or.inl rfl, Or.inr rfl, Or.inr rfl, Or.inr rfl, Or.inr rfl, trivial⟩
  · first | (with_reducible refine E_isL6 ?_; refine E_iincN6 (m := 1) d_As_worth_231 rfl rfl ?_) | refine E_iinc_6 d_As_worth_231 rfl rfl ?_
    refine E_goto 9 d_As_worth_234 rfl ?_
    exact K
def VPr (nm : Nat → Int) (m : Mo) (G : Geo) (M0 : Mem) (la fr to : Nat) (Qp : Option Value → Geo → Mem → Prop) (c d : Cd) (b h : Nat) : Prop :=
  1 ≤ h ∧ ∃ v : Int, zM v ∧ (∀ rest S, evR nm m (c ++ rest) S = evR nm m rest (v :: S.1, S.2)) ∧ (Seg d b la M0 → b + d.length ≤ to → ∀ (S : List Int) (i : Nat) (M : Mem), S.length + h ≤ 64 → fr + i ≤ b → Sx S213 M0 M → WS S M →
    (∀ i' M', fr + i' ≤ b + d.length → Sx S213 M0 M' → WS (S ++ [v]) M' → AH G la fr to Qp (S.length + 1) (b + d.length) i' M') → AH G la fr to Qp S.length b i M)
def BPr (nm : Nat → Int) (m : Mo) (G : Geo) (M0 : Mem) (la fr to : Nat) (Qp : Option Value → Geo → Mem → Prop) (c d : Cd) (b h : Nat) : Prop :=
  1 ≤ h ∧ ∃ t : Bool, (∀ rest S, evR nm m (c ++ rest) S = evR nm m rest (S.1, t :: S.2)) ∧ (Seg d b la M0 → b + d.length ≤ to → ∀ (S : List Int) (i : Nat) (M : Mem), S.length + h ≤ 64 → fr + i ≤ b → Sx S213 M0 M → WS S M →
    (∀ i' M', fr + i' ≤ b + d.length → Sx S213 M0 M' → WS (S ++ [if t = true then 1 else 0]) M' → AH G la fr to Qp (S.length + 1) (b + d.length) i' M') → AH G la fr to Qp S.length b i M)
section WorthRules
variable {c : Cr} {m : Mo} {ma p f y la kk fr to : Nat} {G : Geo} {M0 : Mem} {Qp : Option Value → Geo → Mem → Prop}
theorem seg_sx {d : Cd} {b : Nat} {M : Mem} (h : Seg d b la M0) (h234 : 234 ≤ la) (g : Sx S213 M0 M) : Seg d b la M := fun i hi => by
  rw [(g.2 (la + 4) (by unfold S213; omega)).1, (g.2 (la + 5) (by unfold S213; omega)).1]
  exact h i hi
theorem r_num (hW : WK c m ma p f y G M0 la kk) (hto : to ≤ kk) {v b h : Nat} (hv : v ≤ 9999) (hh : 1 ≤ h) : VPr (nmOf c m p f y) m G M0 la fr to Qp [(0, v)] [(39, v)] b h := by
  refine ⟨hh, (v : Int), ⟨by omega, by omega⟩, fun rest S => rfl, fun hseg hb S i M hS hi hX hWS K => ?_⟩
  have hW1 := hW.sx hX
  have hs1 := (seg_sx hseg hW.2.1 hX).one
  have hb : b + 1 ≤ to := hb
  refine lp_As_pre hW1 hto (by omega) hi hs1.1 hs1.2 ?_
  obtain ⟨hK, h234, hs0, hs4, hs5, hk3, hr3, hr4⟩ := hW1
  have hG := hK.1.G
  have hR := hK.1.R
  refine E_iload d_As_worth_48 rfl ?_
  refine E_bipush (v := nI 43) d_As_worth_50 (by decide) ?_
  first | (with_reducible refine E_isN2 ?_; refine E_icmp_ne 62 d_As_worth_52 rfl (nb_ne fun h52 => ?_) (nb_eq (by omega) (by omega) fun h52 => ?_)) | refine E_icmp_ne 62 d_As_worth_52 rfl (fun h52 => ?_) (fun h52 => ?_)
  rotate_left
  · exfalso; omega
  refine E_iload d_As_worth_62 rfl ?_
  refine E_bipush (v := nI 44) d_As_worth_64 (by decide) ?_
  first | (with_reducible refine E_isN2 ?_; refine E_icmp_ne 96 d_As_worth_66 rfl (nb_ne fun h66 => ?_) (nb_eq (by omega) (by omega) fun h66 => ?_)) | refine E_icmp_ne 96 d_As_worth_66 rfl (fun h66 => ?_) (fun h66 => ?_)
  rotate_left
  · exfalso; omega
  refine E_iload d_As_worth_96 rfl ?_
  refine E_S1 (sp_Sg_joinsTwo (by decide)) d_As_worth_98 ml_As_105 cb_Sg_joinsTwo cs_Sg_joinsTwo ⟨by decide, by decide⟩ rfl (Nat.le_of_ble_eq_true rfl) (Nat.le_of_ble_eq_true rfl) (kI fun r1 M1 hc => ?_)
  obtain ⟨q1, q0, rfl⟩ := hc; rw [q0 (by unfold joB; omega)]; clear q1 q0
  first | (with_reducible refine E_isP ?_; refine E_if_eq 162 d_As_worth_101 rfl (pb_0 fun h101 => ?_) (pb_1 fun h101 => ?_)) | (with_reducible refine E_isN1 ?_; refine E_if_eq 162 d_As_worth_101 rfl (nz_eq (by omega) fun h101 => ?_) (nz_ne fun h101 => ?_)) | refine E_if_eq 162 d_As_worth_101 rfl (fun h101 => ?_) (fun h101 => ?_)
  rotate_left
  · exfalso; omega
  refine E_iload d_As_worth_162 rfl ?_
  refine E_S1 (sp_Sg_changesOne (by decide)) d_As_worth_164 ml_As_121 cb_Sg_changesOne cs_Sg_changesOne ⟨by decide, by decide⟩ rfl (Nat.le_of_ble_eq_true rfl) (Nat.le_of_ble_eq_true rfl) (kI fun r1 M1 hc => ?_)
  obtain ⟨q1, q0, rfl⟩ := hc; rw [q0 (by unfold chB; omega)]; clear q1 q0
  first | (with_reducible refine E_isP ?_; refine E_if_eq 201 d_As_worth_167 rfl (pb_0 fun h167 => ?_) (pb_1 fun h167 => ?_)) | (with_reducible refine E_isN1 ?_; refine E_if_eq 201 d_As_worth_167 rfl (nz_eq (by omega) fun h167 => ?_) (nz_ne fun h167 => ?_)) | refine E_if_eq 201 d_As_worth_167 rfl (fun h167 => ?_) (fun h167 => ?_)
  rotate_left
  · exfalso; omega
  first | refine E_aload_n d_As_worth_201 rfl ?_ | refine E_aload_nN d_As_worth_201 rfl ?_
  refine E_getR d_As_worth_202 gf_As_9 (by first | exact hG.s (by decide) rfl | exact hs0 | exact hs4 | exact hs5) (by first | exact hR.o rfl | exact hr3 | exact hr4) ?_
  refine E_iload d_As_worth_205 rfl ?_
  refine E_iload d_As_worth_207 rfl ?_
  refine E_bipush (v := nI 39) d_As_worth_209 (by decide) ?_
  first | (with_reducible refine E_isN2 ?_; refine E_icmp_ne 219 d_As_worth_211 rfl (nb_ne fun h211 => ?_) (nb_eq (by omega) (by omega) fun h211 => ?_)) | refine E_icmp_ne 219 d_As_worth_211 rfl (fun h211 => ?_) (fun h211 => ?_)
  · exfalso; omega
  refine E_iload d_As_worth_214 rfl ?_
  refine E_goto 225 d_As_worth_216 rfl ?_
  refine E_SN3 (sp_TP_put (hG.s (k := 213) (by decide) rfl) (by decide) (by omega)) d_As_worth_225 nl_As_117 cb_TP_put cs_TP_put ⟨by decide, by decide⟩ rfl (Nat.le_of_ble_eq_true rfl) (Nat.le_of_ble_eq_true rfl) (kV fun M1 hc => ?_)
  subst hc
  first | (with_reducible refine E_isL4 ?_; refine E_iincN4 (m := 1) d_As_worth_228 rfl rfl ?_) | refine E_iinc_4 d_As_worth_228 rfl rfl ?_
  refine lp_As_post ?_
  have hw2 := hWS.push (v := (v : Int))
  rw [← nI_iI] at hw2
  exact K (i + 1) _ (by show fr + (i + 1) ≤ b + 1; omega) (hX.wI rfl) hw2
theorem r_nam (hW : WK c m ma p f y G M0 la kk) (hto : to ≤ kk) {k s b h : Nat} (hks : nmP k s) (hh : 1 ≤ h) : VPr (nmOf c m p f y) m G M0 la fr to Qp [(1, k)] [(s, 0)] b h := by
  have hA := hW.1
  have hk8 : k < 8 := by unfold nmP at hks; omega
  have hs26 : s < 26 ∧ s ≠ 10 ∧ s ≠ 11 ∧ s ≠ 18 ∧ s ≠ 16 ∧ s ≠ 17 := by unfold nmP at hks; omega
  have hp8 := hA.2.2.2.1.p8
  have hz : zM (nmOf c m p f y k) := by
    have q : ∀ n : Nat, n ≤ 1000000 → zM (n : Int) := fun n hn => ⟨by omega, by omega⟩
    have hw := hA.1.w
    have hmk := hA.2.2.2.1
    have hh2 : pc9 (c.hears p &&& m.answers) ≤ 9 := pc9_le9 (Nat.lt_of_le_of_lt Nat.and_le_left (by have := hw.hears8 p; omega))
    have hpp := hA.2.2.2.2.2.1
    have hf8 := hA.2.2.2.2.2.2.1
    have hy1 := hA.2.2.2.2.2.2.2.1
    rcases (show k = 0 ∨ k = 1 ∨ k = 2 ∨ k = 3 ∨ k = 4 ∨ k = 5 ∨ k = 6 ∨ k = 7 by omega) with rfl | rfl | rfl | rfl | rfl | rfl | rfl | rfl
    · exact q _ (by have := hmk.round; omega)
    · exact q p (by omega)
    · exact q _ (by have := hmk.lean9 p; omega)
    · exact q _ (by have := hw.sort3 p; omega)
    · exact q _ (by omega)
    · exact q _ (by omega)
    · exact q f (by omega)
    · exact q y (by omega)
  refine ⟨hh, nmOf c m p f y k, hz, fun rest S => rfl, fun hseg hb S i M hS hi hX hWS K => ?_⟩
  have hW1 := hW.sx hX
  have hs1 := (seg_sx hseg hW.2.1 hX).one
  have hb : b + 1 ≤ to := hb
  refine lp_As_pre hW1 hto (by omega) hi hs1.1 hs1.2 ?_
  obtain ⟨hK, h234, hs0, hs4, hs5, hk3, hr3, hr4⟩ := hW1
  have hG := hK.1.G
  have hR := hK.1.R
  refine E_iload d_As_worth_48 rfl ?_
  refine E_bipush (v := nI 43) d_As_worth_50 (by decide) ?_
  first | (with_reducible refine E_isN2 ?_; refine E_icmp_ne 62 d_As_worth_52 rfl (nb_ne fun h52 => ?_) (nb_eq (by omega) (by omega) fun h52 => ?_)) | refine E_icmp_ne 62 d_As_worth_52 rfl (fun h52 => ?_) (fun h52 => ?_)
  rotate_left
  · exfalso; omega
  refine E_iload d_As_worth_62 rfl ?_
  refine E_bipush (v := nI 44) d_As_worth_64 (by decide) ?_
  first | (with_reducible refine E_isN2 ?_; refine E_icmp_ne 96 d_As_worth_66 rfl (nb_ne fun h66 => ?_) (nb_eq (by omega) (by omega) fun h66 => ?_)) | refine E_icmp_ne 96 d_As_worth_66 rfl (fun h66 => ?_) (fun h66 => ?_)
  rotate_left
  · exfalso; omega
  refine E_iload d_As_worth_96 rfl ?_
  refine E_S1 (sp_Sg_joinsTwo (by omega)) d_As_worth_98 ml_As_105 cb_Sg_joinsTwo cs_Sg_joinsTwo ⟨by decide, by decide⟩ rfl (Nat.le_of_ble_eq_true rfl) (Nat.le_of_ble_eq_true rfl) (kI fun r1 M1 hc => ?_)
  obtain ⟨q1, q0, rfl⟩ := hc; rw [q0 (by unfold joB; omega)]; clear q1 q0
  first | (with_reducible refine E_isP ?_; refine E_if_eq 162 d_As_worth_101 rfl (pb_0 fun h101 => ?_) (pb_1 fun h101 => ?_)) | (with_reducible refine E_isN1 ?_; refine E_if_eq 162 d_As_worth_101 rfl (nz_eq (by omega) fun h101 => ?_) (nz_ne fun h101 => ?_)) | refine E_if_eq 162 d_As_worth_101 rfl (fun h101 => ?_) (fun h101 => ?_)
  rotate_left
  · exfalso; omega
  refine E_iload d_As_worth_162 rfl ?_
  refine E_S1 (sp_Sg_changesOne (by omega)) d_As_worth_164 ml_As_121 cb_Sg_changesOne cs_Sg_changesOne ⟨by decide, by decide⟩ rfl (Nat.le_of_ble_eq_true rfl) (Nat.le_of_ble_eq_true rfl) (kI fun r1 M1 hc => ?_)
  obtain ⟨q1, q0, rfl⟩ := hc; rw [q0 (by unfold chB; omega)]; clear q1 q0
  first | (with_reducible refine E_isP ?_; refine E_if_eq 201 d_As_worth_167 rfl (pb_0 fun h167 => ?_) (pb_1 fun h167 => ?_)) | (with_reducible refine E_isN1 ?_; refine E_if_eq 201 d_As_worth_167 rfl (nz_eq (by omega) fun h167 => ?_) (nz_ne fun h167 => ?_)) | refine E_if_eq 201 d_As_worth_167 rfl (fun h167 => ?_) (fun h167 => ?_)
  rotate_left
  · exfalso; omega
  first | refine E_aload_n d_As_worth_201 rfl ?_ | refine E_aload_nN d_As_worth_201 rfl ?_
  refine E_getR d_As_worth_202 gf_As_9 (by first | exact hG.s (by decide) rfl | exact hs0 | exact hs4 | exact hs5) (by first | exact hR.o rfl | exact hr3 | exact hr4) ?_
  refine E_iload d_As_worth_205 rfl ?_
  refine E_iload d_As_worth_207 rfl ?_
  refine E_bipush (v := nI 39) d_As_worth_209 (by decide) ?_
  first | (with_reducible refine E_isN2 ?_; refine E_icmp_ne 219 d_As_worth_211 rfl (nb_ne fun h211 => ?_) (nb_eq (by omega) (by omega) fun h211 => ?_)) | refine E_icmp_ne 219 d_As_worth_211 rfl (fun h211 => ?_) (fun h211 => ?_)
  rotate_left
  · exfalso; omega
  first | refine E_aload_n d_As_worth_219 rfl ?_ | refine E_aload_nN d_As_worth_219 rfl ?_
  refine E_iload d_As_worth_220 rfl ?_
  refine E_V1 (sp_As_named hK hks) d_As_worth_222 ml_As_128 cb_As_named cv_As_named (by first | exact hG.s (by decide) rfl | exact hs0 | exact hs4 | exact hs5) ⟨by decide, rfl⟩ ⟨by decide, by decide⟩ rfl (Nat.le_of_ble_eq_true rfl) (Nat.le_of_ble_eq_true rfl) (kI fun r1 M1 hc => ?_)
  obtain ⟨rfl, rfl⟩ := hc
  refine E_SN3 (sp_TP_put (hG.s (k := 213) (by decide) rfl) (by decide) (by omega)) d_As_worth_225 nl_As_117 cb_TP_put cs_TP_put ⟨by decide, by decide⟩ rfl (Nat.le_of_ble_eq_true rfl) (Nat.le_of_ble_eq_true rfl) (kV fun M1 hc => ?_)
  subst hc
  first | (with_reducible refine E_isL4 ?_; refine E_iincN4 (m := 1) d_As_worth_228 rfl rfl ?_) | refine E_iinc_4 d_As_worth_228 rfl rfl ?_
  refine lp_As_post ?_
  exact K (i + 1) _ (by show fr + (i + 1) ≤ b + 1; omega) (hX.wI rfl) (hWS.push (v := nmOf c m p f y k))
theorem WS.set {S : List Int} {M : Mem} {v w : Int} (h : WS (S ++ [v]) M) : WS (S ++ [w]) (wI M 213 S.length (iI w)) := h.pop.push
theorem ev_app1 {nm : Nat → Int} {c1 : Cd} {v : Int} (h : ∀ rest S, evR nm m (c1 ++ rest) S = evR nm m rest (v :: S.1, S.2)) (q : Nat × Nat) (rest : Cd) (S : List Int × List Bool) : evR nm m (c1 ++ [q] ++ rest) S = evR nm m rest (evR1 nm m q.1 q.2 (v :: S.1, S.2)) := by
  rw [List.append_assoc, h]
  rfl
theorem r_un (hW : WK c m ma p f y G M0 la kk) (hto : to ≤ kk) {u s b h : Nat} {c1 d1 : Cd} (hus : unP u s) (ih : VPr (nmOf c m p f y) m G M0 la fr to Qp c1 d1 b h) : VPr (nmOf c m p f y) m G M0 la fr to Qp (c1 ++ [(u, 0)]) (d1 ++ [(s, 0)]) b h := by
  obtain ⟨hh, v, hv, hev, hE⟩ := ih
  have hmk := hW.1.2.2.2.1
  have hu5 : u = 5 ∨ u = 2 ∨ u = 4 := by unfold unP at hus; omega
  have hs3 : s = 42 ∨ s = 10 ∨ s = 11 := by unfold unP at hus; omega
  refine ⟨hh, oneBy m u v, oneByM_zM hmk hv, fun rest S => ?_, fun hseg hb S i M hS hi hX hWS K => ?_⟩
  · rw [ev_app1 hev, ev_o _ _ _ _ (by omega) (by omega) (by omega)]
    rfl
  · rw [List.length_append] at hb K
    have hb : b + (d1.length + 1) ≤ to := hb
    refine hE hseg.l (by omega) S i M hS hi hX hWS (fun i1 M1 hi1 hX1 hW1s => ?_)
    have hW1 := hW.sx hX1
    have hs1 := (seg_sx hseg.r hW.2.1 hX1).one
    refine lp_As_pre hW1 hto (by omega) hi1 hs1.1 hs1.2 ?_
    obtain ⟨hK, h234, hs0, hs4, hs5, hk3, hr3, hr4⟩ := hW1
    have hG := hK.1.G
    have hR := hK.1.R
    refine E_iload d_As_worth_48 rfl ?_
    refine E_bipush (v := nI 43) d_As_worth_50 (by decide) ?_
    first | (with_reducible refine E_isN2 ?_; refine E_icmp_ne 62 d_As_worth_52 rfl (nb_ne fun h52 => ?_) (nb_eq (by omega) (by omega) fun h52 => ?_)) | refine E_icmp_ne 62 d_As_worth_52 rfl (fun h52 => ?_) (fun h52 => ?_)
    rotate_left
    · exfalso; omega
    refine E_iload d_As_worth_62 rfl ?_
    refine E_bipush (v := nI 44) d_As_worth_64 (by decide) ?_
    first | (with_reducible refine E_isN2 ?_; refine E_icmp_ne 96 d_As_worth_66 rfl (nb_ne fun h66 => ?_) (nb_eq (by omega) (by omega) fun h66 => ?_)) | refine E_icmp_ne 96 d_As_worth_66 rfl (fun h66 => ?_) (fun h66 => ?_)
    rotate_left
    · exfalso; omega
    refine E_iload d_As_worth_96 rfl ?_
    refine E_S1 (sp_Sg_joinsTwo (by omega)) d_As_worth_98 ml_As_105 cb_Sg_joinsTwo cs_Sg_joinsTwo ⟨by decide, by decide⟩ rfl (Nat.le_of_ble_eq_true rfl) (Nat.le_of_ble_eq_true rfl) (kI fun r1 M1 hc => ?_)
    obtain ⟨q1, q0, rfl⟩ := hc; rw [q0 (by unfold joB; omega)]; clear q1 q0
    first | (with_reducible refine E_isP ?_; refine E_if_eq 162 d_As_worth_101 rfl (pb_0 fun h101 => ?_) (pb_1 fun h101 => ?_)) | (with_reducible refine E_isN1 ?_; refine E_if_eq 162 d_As_worth_101 rfl (nz_eq (by omega) fun h101 => ?_) (nz_ne fun h101 => ?_)) | refine E_if_eq 162 d_As_worth_101 rfl (fun h101 => ?_) (fun h101 => ?_)
    rotate_left
    · exfalso; omega
    refine E_iload d_As_worth_162 rfl ?_
    refine E_S1 (sp_Sg_changesOne (by omega)) d_As_worth_164 ml_As_121 cb_Sg_changesOne cs_Sg_changesOne ⟨by decide, by decide⟩ rfl (Nat.le_of_ble_eq_true rfl) (Nat.le_of_ble_eq_true rfl) (kI fun r1 M1 hc => ?_)
    obtain ⟨q1, q0, rfl⟩ := hc; rw [q1 (by unfold chB; omega)]; clear q1 q0
    first | (with_reducible refine E_isP ?_; refine E_if_eq 201 d_As_worth_167 rfl (pb_0 fun h167 => ?_) (pb_1 fun h167 => ?_)) | (with_reducible refine E_isN1 ?_; refine E_if_eq 201 d_As_worth_167 rfl (nz_eq (by omega) fun h167 => ?_) (nz_ne fun h167 => ?_)) | refine E_if_eq 201 d_As_worth_167 rfl (fun h167 => ?_) (fun h167 => ?_)
    · exfalso; omega
    first | refine E_aload_n d_As_worth_170 rfl ?_ | refine E_aload_nN d_As_worth_170 rfl ?_
    refine E_getR d_As_worth_171 gf_As_9 (by first | exact hG.s (by decide) rfl | exact hs0 | exact hs4 | exact hs5) (by first | exact hR.o rfl | exact hr3 | exact hr4) ?_
    refine E_iload d_As_worth_174 rfl ?_
    refine E_iconst (v := nI 1) d_As_worth_176 rfl ?_
    first | (with_reducible refine E_isN2 ?_; refine E_isubN d_As_worth_177 (by omega) ?_) | refine E_isub d_As_worth_177 ?_
    rw [Nat.add_sub_cancel]
    first | refine E_aload_n d_As_worth_178 rfl ?_ | refine E_aload_nN d_As_worth_178 rfl ?_
    refine E_iload d_As_worth_179 rfl ?_
    first | refine E_aload_n d_As_worth_181 rfl ?_ | refine E_aload_nN d_As_worth_181 rfl ?_
    refine E_getR d_As_worth_182 gf_As_9 (by first | exact hG.s (by decide) rfl | exact hs0 | exact hs4 | exact hs5) (by first | exact hR.o rfl | exact hr3 | exact hr4) ?_
    refine E_iload d_As_worth_185 rfl ?_
    refine E_iconst (v := nI 1) d_As_worth_187 rfl ?_
    first | (with_reducible refine E_isN2 ?_; refine E_isubN d_As_worth_188 (by omega) ?_) | refine E_isub d_As_worth_188 ?_
    rw [Nat.add_sub_cancel]
    refine E_SN2 (sp_TP_at (hG.s (k := 213) (by decide) rfl) (by decide) (by omega) hW1s.top) d_As_worth_189 nl_As_66 cb_TP_at cs_TP_at ⟨by decide, by decide⟩ rfl (Nat.le_of_ble_eq_true rfl) (Nat.le_of_ble_eq_true rfl) (kI fun r1 M1 hc => ?_)
    obtain ⟨rfl, rfl⟩ := hc
    refine E_V2 (sp_As_changed hK hus hv) d_As_worth_192 ml_As_124 cb_As_changed cv_As_changed (by first | exact hG.s (by decide) rfl | exact hs0 | exact hs4 | exact hs5) ⟨by decide, rfl⟩ ⟨by decide, by decide⟩ rfl (Nat.le_of_ble_eq_true rfl) (Nat.le_of_ble_eq_true rfl) (kI fun r1 M1 hc => ?_)
    obtain ⟨rfl, rfl⟩ := hc
    refine E_SN3 (sp_TP_put (hG.s (k := 213) (by decide) rfl) (by decide) (by omega)) d_As_worth_195 nl_As_117 cb_TP_put cs_TP_put ⟨by decide, by decide⟩ rfl (Nat.le_of_ble_eq_true rfl) (Nat.le_of_ble_eq_true rfl) (kV fun M1 hc => ?_)
    subst hc
    refine E_goto 231 d_As_worth_198 rfl ?_
    refine lp_As_post ?_
    exact K (i1 + 1) _ (by show fr + (i1 + 1) ≤ b + (d1.length + 1); omega) (hX1.wI rfl) hW1s.set
theorem r_not (hW : WK c m ma p f y G M0 la kk) (hto : to ≤ kk) {b h : Nat} {c1 d1 : Cd} (ih : BPr (nmOf c m p f y) m G M0 la fr to Qp c1 d1 b h) : BPr (nmOf c m p f y) m G M0 la fr to Qp (c1 ++ [(20, 0)]) (d1 ++ [(18, 0)]) b h := by
  obtain ⟨hh, t, hev, hE⟩ := ih
  refine ⟨hh, !t, fun rest S => ?_, fun hseg hb S i M hS hi hX hWS K => ?_⟩
  · rw [List.append_assoc, hev]
    rfl
  · rw [List.length_append] at hb K
    have hb : b + (d1.length + 1) ≤ to := hb
    refine hE hseg.l (by omega) S i M hS hi hX hWS (fun i1 M1 hi1 hX1 hW1s => ?_)
    have hW1 := hW.sx hX1
    have hs1 := (seg_sx hseg.r hW.2.1 hX1).one
    refine lp_As_pre hW1 hto (by omega) hi1 hs1.1 hs1.2 ?_
    obtain ⟨hK, h234, hs0, hs4, hs5, hk3, hr3, hr4⟩ := hW1
    have hG := hK.1.G
    have hR := hK.1.R
    refine E_iload d_As_worth_48 rfl ?_
    refine E_bipush (v := nI 43) d_As_worth_50 (by decide) ?_
    first | (with_reducible refine E_isN2 ?_; refine E_icmp_ne 62 d_As_worth_52 rfl (nb_ne fun h52 => ?_) (nb_eq (by omega) (by omega) fun h52 => ?_)) | refine E_icmp_ne 62 d_As_worth_52 rfl (fun h52 => ?_) (fun h52 => ?_)
    rotate_left
    · exfalso; omega
    refine E_iload d_As_worth_62 rfl ?_
    refine E_bipush (v := nI 44) d_As_worth_64 (by decide) ?_
    first | (with_reducible refine E_isN2 ?_; refine E_icmp_ne 96 d_As_worth_66 rfl (nb_ne fun h66 => ?_) (nb_eq (by omega) (by omega) fun h66 => ?_)) | refine E_icmp_ne 96 d_As_worth_66 rfl (fun h66 => ?_) (fun h66 => ?_)
    rotate_left
    · exfalso; omega
    refine E_iload d_As_worth_96 rfl ?_
    refine E_S1 (sp_Sg_joinsTwo (by omega)) d_As_worth_98 ml_As_105 cb_Sg_joinsTwo cs_Sg_joinsTwo ⟨by decide, by decide⟩ rfl (Nat.le_of_ble_eq_true rfl) (Nat.le_of_ble_eq_true rfl) (kI fun r1 M1 hc => ?_)
    obtain ⟨q1, q0, rfl⟩ := hc; rw [q0 (by unfold joB; omega)]; clear q1 q0
    first | (with_reducible refine E_isP ?_; refine E_if_eq 162 d_As_worth_101 rfl (pb_0 fun h101 => ?_) (pb_1 fun h101 => ?_)) | (with_reducible refine E_isN1 ?_; refine E_if_eq 162 d_As_worth_101 rfl (nz_eq (by omega) fun h101 => ?_) (nz_ne fun h101 => ?_)) | refine E_if_eq 162 d_As_worth_101 rfl (fun h101 => ?_) (fun h101 => ?_)
    rotate_left
    · exfalso; omega
    refine E_iload d_As_worth_162 rfl ?_
    refine E_S1 (sp_Sg_changesOne (by omega)) d_As_worth_164 ml_As_121 cb_Sg_changesOne cs_Sg_changesOne ⟨by decide, by decide⟩ rfl (Nat.le_of_ble_eq_true rfl) (Nat.le_of_ble_eq_true rfl) (kI fun r1 M1 hc => ?_)
    obtain ⟨q1, q0, rfl⟩ := hc; rw [q1 (by unfold chB; omega)]; clear q1 q0
    first | (with_reducible refine E_isP ?_; refine E_if_eq 201 d_As_worth_167 rfl (pb_0 fun h167 => ?_) (pb_1 fun h167 => ?_)) | (with_reducible refine E_isN1 ?_; refine E_if_eq 201 d_As_worth_167 rfl (nz_eq (by omega) fun h167 => ?_) (nz_ne fun h167 => ?_)) | refine E_if_eq 201 d_As_worth_167 rfl (fun h167 => ?_) (fun h167 => ?_)
    · exfalso; omega
    first | refine E_aload_n d_As_worth_170 rfl ?_ | refine E_aload_nN d_As_worth_170 rfl ?_
    refine E_getR d_As_worth_171 gf_As_9 (by first | exact hG.s (by decide) rfl | exact hs0 | exact hs4 | exact hs5) (by first | exact hR.o rfl | exact hr3 | exact hr4) ?_
    refine E_iload d_As_worth_174 rfl ?_
    refine E_iconst (v := nI 1) d_As_worth_176 rfl ?_
    first | (with_reducible refine E_isN2 ?_; refine E_isubN d_As_worth_177 (by omega) ?_) | refine E_isub d_As_worth_177 ?_
    rw [Nat.add_sub_cancel]
    first | refine E_aload_n d_As_worth_178 rfl ?_ | refine E_aload_nN d_As_worth_178 rfl ?_
    refine E_iload d_As_worth_179 rfl ?_
    first | refine E_aload_n d_As_worth_181 rfl ?_ | refine E_aload_nN d_As_worth_181 rfl ?_
    refine E_getR d_As_worth_182 gf_As_9 (by first | exact hG.s (by decide) rfl | exact hs0 | exact hs4 | exact hs5) (by first | exact hR.o rfl | exact hr3 | exact hr4) ?_
    refine E_iload d_As_worth_185 rfl ?_
    refine E_iconst (v := nI 1) d_As_worth_187 rfl ?_
    first | (with_reducible refine E_isN2 ?_; refine E_isubN d_As_worth_188 (by omega) ?_) | refine E_isub d_As_worth_188 ?_
    rw [Nat.add_sub_cancel]
    refine E_SN2 (sp_TP_at (hG.s (k := 213) (by decide) rfl) (by decide) (by omega) hW1s.top) d_As_worth_189 nl_As_66 cb_TP_at cs_TP_at ⟨by decide, by decide⟩ rfl (Nat.le_of_ble_eq_true rfl) (Nat.le_of_ble_eq_true rfl) (kI fun r1 M1 hc => ?_)
    obtain ⟨rfl, rfl⟩ := hc
    refine E_V2 (sp_As_changedN hK) d_As_worth_192 ml_As_124 cb_As_changed cv_As_changed (by first | exact hG.s (by decide) rfl | exact hs0 | exact hs4 | exact hs5) ⟨by decide, rfl⟩ ⟨by decide, by decide⟩ rfl (Nat.le_of_ble_eq_true rfl) (Nat.le_of_ble_eq_true rfl) (kI fun r1 M1 hc => ?_)
    obtain ⟨rfl, rfl⟩ := hc
    refine E_SN3 (sp_TP_put (hG.s (k := 213) (by decide) rfl) (by decide) (by omega)) d_As_worth_195 nl_As_117 cb_TP_put cs_TP_put ⟨by decide, by decide⟩ rfl (Nat.le_of_ble_eq_true rfl) (Nat.le_of_ble_eq_true rfl) (kV fun M1 hc => ?_)
    subst hc
    refine E_goto 231 d_As_worth_198 rfl ?_
    refine lp_As_post ?_
    exact K (i1 + 1) _ (by show fr + (i1 + 1) ≤ b + (d1.length + 1); omega) (hX1.wI rfl) hW1s.set
theorem lp_As_join {k b i s : Nat} {xa ya : Int} {M : Mem} {Q : Option Value → Geo → Mem → Prop} {S : List Int} (hW : WK c m ma p f y G M la kk) (hs : joB s) (hx : zM xa) (hy : zM ya) (hWS : WS (S ++ [xa] ++ [ya]) M) (hS : S.length + 2 ≤ 64) (hk : k = S.length + 2) (hb : b < 1000) (hi : i < 1000) {res : Int}
    (sp : E 1 0 0 Y_As_joined 0 [some (.int (nI s)), some (.long (iL xa)), none, some (.long (iL ya)), none] [] G M (QL G fun r M' => (∃ z, r = iL z ∧ zB z ∧ clip z = res) ∧ M' = M))
    (K : WS (S ++ [res]) (wI M 213 S.length (iI res)) → AH G la fr to Q (S.length + 1) b (i + 1) (wI M 213 S.length (iI res))) :
    E 2 0 0 Y_As_worth 48 [some (.ref 212), some (.ref la), some (.int (nI fr)), some (.int (nI to)), some (.int (nI k)), some (.int (nI b)), some (.int (nI i)), some (.int (nI s)), some (.int (nI 0)), none, none] [] G M Q := by
  subst hk
  have hW2 := hW
  obtain ⟨hK, h234, hs0, hs4, hs5, hk3, hr3, hr4⟩ := hW
  have hG := hK.1.G
  have hR := hK.1.R
  have hs100 : s < 100 ∧ s ≠ 43 ∧ s ≠ 44 := by unfold joB at hs; omega
  have ty := hWS.top
  have tx := hWS.pop.top
  rw [List.length_append] at ty
  have ty : mI M 213 (S.length + 1) = iI ya := ty
  have w2 := hWS.pop.set (w := res)
  refine E_iload d_As_worth_48 rfl ?_
  refine E_bipush (v := nI 43) d_As_worth_50 (by decide) ?_
  first | (with_reducible refine E_isN2 ?_; refine E_icmp_ne 62 d_As_worth_52 rfl (nb_ne fun h52 => ?_) (nb_eq (by omega) (by omega) fun h52 => ?_)) | refine E_icmp_ne 62 d_As_worth_52 rfl (fun h52 => ?_) (fun h52 => ?_)
  rotate_left
  · exfalso; omega
  refine E_iload d_As_worth_62 rfl ?_
  refine E_bipush (v := nI 44) d_As_worth_64 (by decide) ?_
  first | (with_reducible refine E_isN2 ?_; refine E_icmp_ne 96 d_As_worth_66 rfl (nb_ne fun h66 => ?_) (nb_eq (by omega) (by omega) fun h66 => ?_)) | refine E_icmp_ne 96 d_As_worth_66 rfl (fun h66 => ?_) (fun h66 => ?_)
  rotate_left
  · exfalso; omega
  refine E_iload d_As_worth_96 rfl ?_
  refine E_S1 (sp_Sg_joinsTwo (by omega)) d_As_worth_98 ml_As_105 cb_Sg_joinsTwo cs_Sg_joinsTwo ⟨by decide, by decide⟩ rfl (Nat.le_of_ble_eq_true rfl) (Nat.le_of_ble_eq_true rfl) (kI fun r1 M1 hc => ?_)
  obtain ⟨q1, q0, rfl⟩ := hc; rw [q1 hs]; clear q1 q0
  first | (with_reducible refine E_isP ?_; refine E_if_eq 162 d_As_worth_101 rfl (pb_0 fun h101 => ?_) (pb_1 fun h101 => ?_)) | (with_reducible refine E_isN1 ?_; refine E_if_eq 162 d_As_worth_101 rfl (nz_eq (by omega) fun h101 => ?_) (nz_ne fun h101 => ?_)) | refine E_if_eq 162 d_As_worth_101 rfl (fun h101 => ?_) (fun h101 => ?_)
  · exfalso; omega
  first | (with_reducible refine E_isL4 ?_; refine E_iincD4 (m := 1) d_As_worth_104 (by decide) (by omega) rfl ?_) | refine E_iinc_4 d_As_worth_104 rfl rfl ?_
  rw [show S.length + 2 - 1 = S.length + 1 by omega]
  refine E_iload d_As_worth_107 rfl ?_
  first | refine E_aload_n d_As_worth_109 rfl ?_ | refine E_aload_nN d_As_worth_109 rfl ?_
  refine E_getR d_As_worth_110 gf_As_9 (by first | exact hG.s (by decide) rfl | exact hs0 | exact hs4 | exact hs5) (by first | exact hR.o rfl | exact hr3 | exact hr4) ?_
  refine E_iload d_As_worth_113 rfl ?_
  refine E_iconst (v := nI 1) d_As_worth_115 rfl ?_
  first | (with_reducible refine E_isN2 ?_; refine E_isubN d_As_worth_116 (by omega) ?_) | refine E_isub d_As_worth_116 ?_
  rw [Nat.add_sub_cancel]
  refine E_SN2 (sp_TP_at (hG.s (k := 213) (by decide) rfl) (by decide) (by omega) tx) d_As_worth_117 nl_As_66 cb_TP_at cs_TP_at ⟨by decide, by decide⟩ rfl (Nat.le_of_ble_eq_true rfl) (Nat.le_of_ble_eq_true rfl) (kI fun r1 M1 hc => ?_)
  obtain ⟨rfl, rfl⟩ := hc
  first | (with_reducible refine E_isN1 ?_; refine E_i2lN d_As_worth_120 (by omega) ?_) | refine E_i2l d_As_worth_120 ?_
  rw [iI_l hx]
  first | refine E_aload_n d_As_worth_121 rfl ?_ | refine E_aload_nN d_As_worth_121 rfl ?_
  refine E_getR d_As_worth_122 gf_As_9 (by first | exact hG.s (by decide) rfl | exact hs0 | exact hs4 | exact hs5) (by first | exact hR.o rfl | exact hr3 | exact hr4) ?_
  refine E_iload d_As_worth_125 rfl ?_
  refine E_SN2 (sp_TP_at (hG.s (k := 213) (by decide) rfl) (by decide) (by omega) ty) d_As_worth_127 nl_As_66 cb_TP_at cs_TP_at ⟨by decide, by decide⟩ rfl (Nat.le_of_ble_eq_true rfl) (Nat.le_of_ble_eq_true rfl) (kI fun r1 M1 hc => ?_)
  obtain ⟨rfl, rfl⟩ := hc
  first | (with_reducible refine E_isN1 ?_; refine E_i2lN d_As_worth_130 (by omega) ?_) | refine E_i2l d_As_worth_130 ?_
  rw [iI_l hy]
  refine E_S3 (sp) d_As_worth_131 ml_As_109 cb_As_joined cs_As_joined ⟨by decide, by decide⟩ rfl (Nat.le_of_ble_eq_true rfl) (Nat.le_of_ble_eq_true rfl) (kL fun r1 M1 hc => ?_)
  obtain ⟨⟨z, rfl, hz, hres⟩, rfl⟩ := hc
  refine E_lstore_9 d_As_worth_134 rfl ?_
  first | refine E_aload_n d_As_worth_136 rfl ?_ | refine E_aload_nN d_As_worth_136 rfl ?_
  refine E_getR d_As_worth_137 gf_As_9 (by first | exact hG.s (by decide) rfl | exact hs0 | exact hs4 | exact hs5) (by first | exact hR.o rfl | exact hr3 | exact hr4) ?_
  refine E_iload d_As_worth_140 rfl ?_
  refine E_iconst (v := nI 1) d_As_worth_142 rfl ?_
  first | (with_reducible refine E_isN2 ?_; refine E_isubN d_As_worth_143 (by omega) ?_) | refine E_isub d_As_worth_143 ?_
  rw [Nat.add_sub_cancel]
  refine E_lload d_As_worth_144 rfl ?_
  refine E_ldc2 d_As_worth_146 kc_As_113 ?_
  rw [show (-1000000 : Int64) = iL (-1000000) from by decide]
  refine E_ldc2 (v := lN 1000000) d_As_worth_149 kc_As_115 ?_
  rw [lN_iL]
  refine E_SN3 (sp_TP_within hz ⟨by decide, by decide⟩ ⟨by decide, by decide⟩ (by decide)) d_As_worth_152 nl_As_93 cb_TP_within cs_TP_within ⟨by decide, by decide⟩ rfl (Nat.le_of_ble_eq_true rfl) (Nat.le_of_ble_eq_true rfl) (kL fun r1 M1 hc => ?_)
  obtain ⟨rfl, rfl⟩ := hc
  refine E_l2i d_As_worth_155 ?_
  rw [clampZ_clip, hres, iL_i32]
  refine E_SN3 (sp_TP_put (hG.s (k := 213) (by decide) rfl) (by decide) (by omega)) d_As_worth_156 nl_As_117 cb_TP_put cs_TP_put ⟨by decide, by decide⟩ rfl (Nat.le_of_ble_eq_true rfl) (Nat.le_of_ble_eq_true rfl) (kV fun M1 hc => ?_)
  subst hc
  refine E_goto 231 d_As_worth_159 rfl ?_
  exact lp_As_post (K w2)
end WorthRules
