section LXn
variable {M : Mem}
theorem lL_tn {w : Nat} (h : w < 2 ^ 64) : (lN w).toBitVec.toNat = w := by
  show (BitVec.ofNat 64 w).toNat = w
  rw [BitVec.toNat_ofNat]
  exact Nat.mod_eq_of_lt h
theorem lL_shl {w : Nat} (h : w < 281474976710656) : lN w <<< ((nI 8).toInt64 &&& 63) = lN (w * 256) := by
  apply Int64.toBitVec_inj.mp
  apply BitVec.eq_of_toNat_eq
  have e : (((nI 8).toInt64 &&& 63).toBitVec.smod 64).toNat = 8 := by decide
  have e2 : (lN w <<< ((nI 8).toInt64 &&& 63)).toBitVec.toNat = (lN w).toBitVec.toNat * 2 ^ 8 % 2 ^ 64 := by
    show ((lN w).toBitVec <<< (((nI 8).toInt64 &&& 63).toBitVec.smod 64).toNat).toNat = _
    rw [e, BitVec.toNat_shiftLeft, Nat.shiftLeft_eq]
  rw [e2, lL_tn (by omega), lL_tn (by omega)]
  omega
theorem lL_or {w b : Nat} (h : w < 281474976710656) (hb : b < 256) : lN (w * 256) ||| lN b = lN (w * 256 + b) := by
  apply Int64.toBitVec_inj.mp
  apply BitVec.eq_of_toNat_eq
  rw [Int64.toBitVec_or, BitVec.toNat_or, lL_tn (by omega), lL_tn (by omega), lL_tn (by omega)]
  have := Nat.two_pow_add_eq_or_of_lt (i := 8) (b := b) (by omega) w
  rw [show w * 256 = 2 ^ 8 * w by omega, ← this]
theorem lL_shr {w : Nat} (h : w ≤ 1152921504606846976) : lN w >>> ((nI 48).toInt64 &&& 63) = lN (w / 281474976710656) := by
  have hd : w / 281474976710656 ≤ w := Nat.div_le_self _ _
  apply Int64.toInt_inj.mp
  have e0 : (((nI 48).toInt64 &&& 63).toBitVec.smod 64).toNat = 48 := by decide
  have e : (lN w >>> ((nI 48).toInt64 &&& 63)).toInt = (lN w).toInt >>> 48 := by
    rw [← e0]
    exact BitVec.toInt_sshiftRight ..
  rw [e, Int.shiftRight_eq_div_pow, pk_lT (by omega), pk_lT (by omega)]
  rfl
theorem lp_TM_let {M0 : Mem} {l : List Nat} {k : Nat} (hR0 : MR M0) (hT0 : TapeM l M0) (hp : PP l k < l.length) (hd : isL (l.getD (PP l k) 0) = true) {x : Option Value} {N0 : Nat} (hN0 : N0 ≤ 1000000) : ∀ j i M n, l.length - i = j → i ≤ l.length → rl isL l i = rl isL l (PP l k) → wvM l (rl isL l i - i) i n = wvM l (rl isL l (PP l k) - PP l k) (PP l k) 0 → n ≤ 1152921504606846976 → Fx Jn An M0 M → mI M 0 8 = nI (PP l k) → mI M 0 7 = nI i → mI M 0 9 = nI 2 → mI M 0 10 = nI N0 → mL M 0 11 = lN n →
    E 1 0 0 Y_TM_nextToken 168 [some (.ref 0), x] [] GM M (QV GM fun M' => TKM l k M' ∧ Fx Jn An M0 M') := by
  intro j
  induction j with
  | zero =>
    intro i M n hj hi hE hv hn hX h8 h7 h9 h10 h11
    have hR := hR0.fx hX
    have hT := hT0.fx hX (by unfold Jn; omega) (fun q => q)
    have hil : i = l.length := by omega
    have e0 : rl isL l i = i := rl_stop (fun q => by omega)
    have ok : TKM l k M := by
      refine ⟨h8, ?_, 2, N0, n, h9, h10, h11, ?_, fun q => absurd q (by decide), fun _ => ?_, by decide, hN0, hn⟩
      · rw [h7]; unfold EE tkE; rw [if_pos hp, if_pos hd]; show nI i = nI (rl isL l (PP l k)); rw [← hE, e0]
      · unfold SS tkE; rw [if_pos hp, if_pos hd]; show sgN _ = sgN n; rw [← hv, e0, Nat.sub_self]; rfl
      · unfold VV tkE; rw [if_pos hp, if_pos hd]
    first | refine E_aload_n d_TM_nextToken_168 rfl ?_ | refine E_aload_nN d_TM_nextToken_168 rfl ?_
    first | refine E_aload_n d_TM_nextToken_169 rfl ?_ | refine E_aload_nN d_TM_nextToken_169 rfl ?_
    refine E_getI d_TM_nextToken_170 gf_TM_84 (by exact ⟨by decide, rfl⟩) (by exact h7) ?_
    refine E_V1 (sp_TM_byteAtN hR hT hil) d_TM_nextToken_173 ml_TM_87 cb_TM_byteAt cv_TM_byteAt (by exact ⟨by decide, rfl⟩) ⟨by decide, rfl⟩ ⟨by decide, by decide⟩ rfl (Nat.le_of_ble_eq_true rfl) (Nat.le_of_ble_eq_true rfl) (kI fun r1 M1 hc => ?_)
    obtain ⟨rfl, rfl⟩ := hc
    refine E_S1 (sp_TM_isLetterByteN) d_TM_nextToken_176 ml_TM_104 cb_TM_isLetterByte cs_TM_isLetterByte ⟨by decide, by decide⟩ rfl (Nat.le_of_ble_eq_true rfl) (Nat.le_of_ble_eq_true rfl) (kI fun r1 M1 hc => ?_)
    obtain ⟨rfl, rfl⟩ := hc
    first | (with_reducible refine E_isP ?_; refine E_if_eq 310 d_TM_nextToken_179 rfl (pb_0 fun h179 => ?_) (pb_1 fun h179 => ?_)) | (with_reducible refine E_isN1 ?_; refine E_if_eq 310 d_TM_nextToken_179 rfl (nz_eq (by omega) fun h179 => ?_) (nz_ne fun h179 => ?_)) | refine E_if_eq 310 d_TM_nextToken_179 rfl (fun h179 => ?_) (fun h179 => ?_)
    rotate_left
    · exfalso; omega
    refine E_retV d_TM_nextToken_310 rfl ?_
    exact ⟨ok, hX⟩
  | succ j ih =>
    intro i M n hj hi hE hv hn hX h8 h7 h9 h10 h11
    have hR := hR0.fx hX
    have hT := hT0.fx hX (by unfold Jn; omega) (fun q => q)
    have hil : i < l.length := by omega
    have hb := hT.b hil
    by_cases hdi : isL (l.getD i 0) = true
    · have e1 : rl isL l i = rl isL l (i + 1) := rl_step hil hdi
      have hge : i + 1 ≤ rl isL l (i + 1) := rl_ge hil
      have hv2 : ∀ n', n' = (if 281474976710656 ≤ n then 1152921504606846976 else n * 256 + l.getD i 0) → wvM l (rl isL l (i + 1) - (i + 1)) (i + 1) n' = wvM l (rl isL l (PP l k) - PP l k) (PP l k) 0 := fun n' e => by
        rw [e, ← hv, e1, show rl isL l (i + 1) - i = rl isL l (i + 1) - (i + 1) + 1 by omega, wvM]
      have kk : ∀ n', n' = (if 281474976710656 ≤ n then 1152921504606846976 else n * 256 + l.getD i 0) → E 1 0 0 Y_TM_nextToken 168 [some (.ref 0), x] [] GM (wI (wL M 0 11 (lN n')) 0 7 (nI (i + 1))) (QV GM fun M' => TKM l k M' ∧ Fx Jn An M0 M') := fun n' e => by
        refine ih (i + 1) _ n' (by omega) hil (e1.symm.trans hE) (hv2 n' e) (by rw [e]; split <;> omega) (hX.wL.wI (by unfold Jn; omega)) ?_ ?_ ?_ ?_ ?_
        · rw [mI_wa, if_neg (by decide), mI_wL]; exact h8
        · rw [mI_wa, if_pos rfl]
        · rw [mI_wa, if_neg (by decide), mI_wL]; exact h9
        · rw [mI_wa, if_neg (by decide), mI_wL]; exact h10
        · rw [mL_wI, mL_wL, if_pos ⟨rfl, rfl⟩]
      have r7 : ∀ v, mI (wL M 0 11 v) 0 7 = nI i := fun v => by rw [mI_wL]; exact h7
      have ka := fun h : 281474976710656 ≤ n => kk 1152921504606846976 (by rw [if_pos h])
      have kb := fun h : n < 281474976710656 => kk (n * 256 + l.getD i 0) (by rw [if_neg (by omega)])
      generalize hbb : l.getD i 0 = b at *
      have sb : E 0 0 0 Y_TM_byteAt 0 [some (.ref 0), some (.int (nI i))] [] GM M (QI GM fun r M' => r = nI b ∧ M' = M) := by rw [← hbb]; exact sp_TM_byteAt hR hT hil
      by_cases h48 : n < 281474976710656
      · have hz : lg_cmp (lN (n / 281474976710656)) (lN 0) = 0 := (lg_eq0 (by omega) (by decide)).mpr (by omega)
        first | refine E_aload_n d_TM_nextToken_168 rfl ?_ | refine E_aload_nN d_TM_nextToken_168 rfl ?_
        first | refine E_aload_n d_TM_nextToken_169 rfl ?_ | refine E_aload_nN d_TM_nextToken_169 rfl ?_
        refine E_getI d_TM_nextToken_170 gf_TM_84 (by exact ⟨by decide, rfl⟩) (by exact h7) ?_
        refine E_V1 (sb) d_TM_nextToken_173 ml_TM_87 cb_TM_byteAt cv_TM_byteAt (by exact ⟨by decide, rfl⟩) ⟨by decide, rfl⟩ ⟨by decide, by decide⟩ rfl (Nat.le_of_ble_eq_true rfl) (Nat.le_of_ble_eq_true rfl) (kI fun r1 M1 hc => ?_)
        obtain ⟨rfl, rfl⟩ := hc
        refine E_S1 (sp_TM_isLetterByte hb) d_TM_nextToken_176 ml_TM_104 cb_TM_isLetterByte cs_TM_isLetterByte ⟨by decide, by decide⟩ rfl (Nat.le_of_ble_eq_true rfl) (Nat.le_of_ble_eq_true rfl) (kI fun r1 M1 hc => ?_)
        obtain ⟨rfl, rfl⟩ := hc
        first | (with_reducible refine E_isP ?_; refine E_if_eq 310 d_TM_nextToken_179 rfl (pb_0 fun h179 => ?_) (pb_1 fun h179 => ?_)) | (with_reducible refine E_isN1 ?_; refine E_if_eq 310 d_TM_nextToken_179 rfl (nz_eq (by omega) fun h179 => ?_) (nz_ne fun h179 => ?_)) | refine E_if_eq 310 d_TM_nextToken_179 rfl (fun h179 => ?_) (fun h179 => ?_)
        · exfalso; exact h179 hdi
        first | refine E_aload_n d_TM_nextToken_182 rfl ?_ | refine E_aload_nN d_TM_nextToken_182 rfl ?_
        first | refine E_aload_n d_TM_nextToken_183 rfl ?_ | refine E_aload_nN d_TM_nextToken_183 rfl ?_
        refine E_getL d_TM_nextToken_184 gf_TM_107 (by exact ⟨by decide, rfl⟩) (by exact h11) ?_
        refine E_bipush (v := nI 48) d_TM_nextToken_187 (by decide) ?_
        refine E_lshr d_TM_nextToken_189 ?_
        rw [lL_shr hn]
        refine E_lconst (v := lN 0) d_TM_nextToken_190 rfl ?_
        refine E_lcmp d_TM_nextToken_191 ?_
        first | (with_reducible refine E_isP ?_; refine E_if_eq 201 d_TM_nextToken_192 rfl (pb_0 fun h192 => ?_) (pb_1 fun h192 => ?_)) | (with_reducible refine E_isN1 ?_; refine E_if_eq 201 d_TM_nextToken_192 rfl (nz_eq (by omega) fun h192 => ?_) (nz_ne fun h192 => ?_)) | refine E_if_eq 201 d_TM_nextToken_192 rfl (fun h192 => ?_) (fun h192 => ?_)
        rotate_left
        · exfalso; exact h192 hz
        first | refine E_aload_n d_TM_nextToken_201 rfl ?_ | refine E_aload_nN d_TM_nextToken_201 rfl ?_
        refine E_getL d_TM_nextToken_202 gf_TM_107 (by exact ⟨by decide, rfl⟩) (by exact h11) ?_
        refine E_bipush (v := nI 8) d_TM_nextToken_205 (by decide) ?_
        refine E_lshl d_TM_nextToken_207 ?_
        rw [lL_shl h48]
        first | refine E_aload_n d_TM_nextToken_208 rfl ?_ | refine E_aload_nN d_TM_nextToken_208 rfl ?_
        first | refine E_aload_n d_TM_nextToken_209 rfl ?_ | refine E_aload_nN d_TM_nextToken_209 rfl ?_
        refine E_getI d_TM_nextToken_210 gf_TM_84 (by exact ⟨by decide, rfl⟩) (by exact h7) ?_
        refine E_V1 (sb) d_TM_nextToken_213 ml_TM_87 cb_TM_byteAt cv_TM_byteAt (by exact ⟨by decide, rfl⟩) ⟨by decide, rfl⟩ ⟨by decide, by decide⟩ rfl (Nat.le_of_ble_eq_true rfl) (Nat.le_of_ble_eq_true rfl) (kI fun r1 M1 hc => ?_)
        obtain ⟨rfl, rfl⟩ := hc
        first | (with_reducible refine E_isN1 ?_; refine E_i2lN d_TM_nextToken_216 (by omega) ?_) | refine E_i2l d_TM_nextToken_216 ?_
        refine E_lor d_TM_nextToken_217 ?_
        rw [lL_or h48 hb]
        refine E_putL d_TM_nextToken_218 gf_TM_107 (by exact ⟨by decide, rfl⟩) rfl rfl ?_
        first | refine E_aload_n d_TM_nextToken_221 rfl ?_ | refine E_aload_nN d_TM_nextToken_221 rfl ?_
        refine E_dup d_TM_nextToken_222 rfl ?_
        refine E_getI d_TM_nextToken_223 gf_TM_84 (by exact ⟨by decide, rfl⟩) (by exact r7 _) ?_
        refine E_iconst (v := nI 1) d_TM_nextToken_226 rfl ?_
        first | (with_reducible refine E_isN2 ?_; refine E_iaddN d_TM_nextToken_227 ?_) | refine E_iadd d_TM_nextToken_227 ?_
        refine E_putI d_TM_nextToken_228 gf_TM_84 (by exact ⟨by decide, rfl⟩) rfl rfl ?_
        refine E_goto 168 d_TM_nextToken_231 rfl ?_
        exact kb h48
      · have hz : ¬ lg_cmp (lN (n / 281474976710656)) (lN 0) = 0 := fun q => by have := (lg_eq0 (by omega) (by decide)).mp q; omega
        first | refine E_aload_n d_TM_nextToken_168 rfl ?_ | refine E_aload_nN d_TM_nextToken_168 rfl ?_
        first | refine E_aload_n d_TM_nextToken_169 rfl ?_ | refine E_aload_nN d_TM_nextToken_169 rfl ?_
        refine E_getI d_TM_nextToken_170 gf_TM_84 (by exact ⟨by decide, rfl⟩) (by exact h7) ?_
        refine E_V1 (sb) d_TM_nextToken_173 ml_TM_87 cb_TM_byteAt cv_TM_byteAt (by exact ⟨by decide, rfl⟩) ⟨by decide, rfl⟩ ⟨by decide, by decide⟩ rfl (Nat.le_of_ble_eq_true rfl) (Nat.le_of_ble_eq_true rfl) (kI fun r1 M1 hc => ?_)
        obtain ⟨rfl, rfl⟩ := hc
        refine E_S1 (sp_TM_isLetterByte hb) d_TM_nextToken_176 ml_TM_104 cb_TM_isLetterByte cs_TM_isLetterByte ⟨by decide, by decide⟩ rfl (Nat.le_of_ble_eq_true rfl) (Nat.le_of_ble_eq_true rfl) (kI fun r1 M1 hc => ?_)
        obtain ⟨rfl, rfl⟩ := hc
        first | (with_reducible refine E_isP ?_; refine E_if_eq 310 d_TM_nextToken_179 rfl (pb_0 fun h179 => ?_) (pb_1 fun h179 => ?_)) | (with_reducible refine E_isN1 ?_; refine E_if_eq 310 d_TM_nextToken_179 rfl (nz_eq (by omega) fun h179 => ?_) (nz_ne fun h179 => ?_)) | refine E_if_eq 310 d_TM_nextToken_179 rfl (fun h179 => ?_) (fun h179 => ?_)
        · exfalso; exact h179 hdi
        first | refine E_aload_n d_TM_nextToken_182 rfl ?_ | refine E_aload_nN d_TM_nextToken_182 rfl ?_
        first | refine E_aload_n d_TM_nextToken_183 rfl ?_ | refine E_aload_nN d_TM_nextToken_183 rfl ?_
        refine E_getL d_TM_nextToken_184 gf_TM_107 (by exact ⟨by decide, rfl⟩) (by exact h11) ?_
        refine E_bipush (v := nI 48) d_TM_nextToken_187 (by decide) ?_
        refine E_lshr d_TM_nextToken_189 ?_
        rw [lL_shr hn]
        refine E_lconst (v := lN 0) d_TM_nextToken_190 rfl ?_
        refine E_lcmp d_TM_nextToken_191 ?_
        first | (with_reducible refine E_isP ?_; refine E_if_eq 201 d_TM_nextToken_192 rfl (pb_0 fun h192 => ?_) (pb_1 fun h192 => ?_)) | (with_reducible refine E_isN1 ?_; refine E_if_eq 201 d_TM_nextToken_192 rfl (nz_eq (by omega) fun h192 => ?_) (nz_ne fun h192 => ?_)) | refine E_if_eq 201 d_TM_nextToken_192 rfl (fun h192 => ?_) (fun h192 => ?_)
        · exfalso; exact hz h192
        refine E_ldc2 (v := lN 1152921504606846976) d_TM_nextToken_195 kc_TM_111 ?_
        refine E_goto 218 d_TM_nextToken_198 rfl ?_
        refine E_putL d_TM_nextToken_218 gf_TM_107 (by exact ⟨by decide, rfl⟩) rfl rfl ?_
        first | refine E_aload_n d_TM_nextToken_221 rfl ?_ | refine E_aload_nN d_TM_nextToken_221 rfl ?_
        refine E_dup d_TM_nextToken_222 rfl ?_
        refine E_getI d_TM_nextToken_223 gf_TM_84 (by exact ⟨by decide, rfl⟩) (by exact r7 _) ?_
        refine E_iconst (v := nI 1) d_TM_nextToken_226 rfl ?_
        first | (with_reducible refine E_isN2 ?_; refine E_iaddN d_TM_nextToken_227 ?_) | refine E_iadd d_TM_nextToken_227 ?_
        refine E_putI d_TM_nextToken_228 gf_TM_84 (by exact ⟨by decide, rfl⟩) rfl rfl ?_
        refine E_goto 168 d_TM_nextToken_231 rfl ?_
        exact ka (by omega)
    · have e0 : rl isL l i = i := rl_stop (fun q => hdi q.2)
      have ok : TKM l k M := by
        refine ⟨h8, ?_, 2, N0, n, h9, h10, h11, ?_, fun q => absurd q (by decide), fun _ => ?_, by decide, hN0, hn⟩
        · rw [h7]; unfold EE tkE; rw [if_pos hp, if_pos hd]; show nI i = nI (rl isL l (PP l k)); rw [← hE, e0]
        · unfold SS tkE; rw [if_pos hp, if_pos hd]; show sgN _ = sgN n; rw [← hv, e0, Nat.sub_self]; rfl
        · unfold VV tkE; rw [if_pos hp, if_pos hd]
      first | refine E_aload_n d_TM_nextToken_168 rfl ?_ | refine E_aload_nN d_TM_nextToken_168 rfl ?_
      first | refine E_aload_n d_TM_nextToken_169 rfl ?_ | refine E_aload_nN d_TM_nextToken_169 rfl ?_
      refine E_getI d_TM_nextToken_170 gf_TM_84 (by exact ⟨by decide, rfl⟩) (by exact h7) ?_
      refine E_V1 (sp_TM_byteAt hR hT hil) d_TM_nextToken_173 ml_TM_87 cb_TM_byteAt cv_TM_byteAt (by exact ⟨by decide, rfl⟩) ⟨by decide, rfl⟩ ⟨by decide, by decide⟩ rfl (Nat.le_of_ble_eq_true rfl) (Nat.le_of_ble_eq_true rfl) (kI fun r1 M1 hc => ?_)
      obtain ⟨rfl, rfl⟩ := hc
      refine E_S1 (sp_TM_isLetterByte hb) d_TM_nextToken_176 ml_TM_104 cb_TM_isLetterByte cs_TM_isLetterByte ⟨by decide, by decide⟩ rfl (Nat.le_of_ble_eq_true rfl) (Nat.le_of_ble_eq_true rfl) (kI fun r1 M1 hc => ?_)
      obtain ⟨rfl, rfl⟩ := hc
      first | (with_reducible refine E_isP ?_; refine E_if_eq 310 d_TM_nextToken_179 rfl (pb_0 fun h179 => ?_) (pb_1 fun h179 => ?_)) | (with_reducible refine E_isN1 ?_; refine E_if_eq 310 d_TM_nextToken_179 rfl (nz_eq (by omega) fun h179 => ?_) (nz_ne fun h179 => ?_)) | refine E_if_eq 310 d_TM_nextToken_179 rfl (fun h179 => ?_) (fun h179 => ?_)
      rotate_left
      · exfalso; exact hdi h179
      refine E_retV d_TM_nextToken_310 rfl ?_
      exact ⟨ok, hX⟩
theorem kp_TM_next {M0 : Mem} {l : List Nat} {k : Nat} (hR0 : MR M0) (hT0 : TapeM l M0) {N0 W0 : Nat} (hN0 : N0 ≤ 1000000) (hW0 : W0 ≤ 1152921504606846976) (M : Mem) (hX : Fx Jn An M0 M) (h7 : mI M 0 7 = nI (PP l k)) (h10 : mI M 0 10 = nI N0) (h11 : mL M 0 11 = lN W0) {x : Option Value} :
    E 1 0 0 Y_TM_nextToken 39 [some (.ref 0), x] [] GM M (QV GM fun M' => TKM l k M' ∧ Fx Jn An M0 M') := by
  have hR := hR0.fx hX
  have hT := hT0.fx hX (by unfold Jn; omega) (fun q => q)
  have hle := PP_le l k
  have X8 := hX.wI (j := 8) (x := nI (PP l k)) (by unfold Jn; omega)
  have hR8 := hR0.fx X8
  have hT8 := hT0.fx X8 (by unfold Jn; omega) (fun q => q)
  have r7 : mI (wI M 0 8 (nI (PP l k))) 0 7 = nI (PP l k) := by rw [mI_wa, if_neg (by decide)]; exact h7
  by_cases hp : PP l k < l.length
  · have hb := hT.b hp
    have sb := sp_TM_byteAt hR8 hT8 hp
    by_cases hl : isL (l.getD (PP l k) 0) = true
    · have hnd : ¬ isD (l.getD (PP l k) 0) = true := fun q => by
        have q1 := isD_iff.mp q
        have q2 := isL_iff.mp hl
        omega
      have LL := lp_TM_let (x := some (.int (nI (l.getD (PP l k) 0)))) hR0 hT0 hp hl hN0 _ (PP l k) (wL (wI (wI M 0 8 (nI (PP l k))) 0 9 (nI 2)) 0 11 (lN 0)) 0 rfl hle rfl rfl (by decide) ((X8.wI (by unfold Jn; omega)).wL) (by rw [mI_wL, mI_wa, if_neg (by decide), mI_wa, if_pos rfl]) (by rw [mI_wL, mI_wa, if_neg (by decide)]; exact r7) (by rw [mI_wL, mI_wa, if_pos rfl]) (by rw [mI_wL, mI_wa, if_neg (by decide), mI_wa, if_neg (by decide)]; exact h10) (by rw [mL_wL, if_pos ⟨rfl, rfl⟩])
      generalize hbb : l.getD (PP l k) 0 = b at *
      first | refine E_aload_n d_TM_nextToken_39 rfl ?_ | refine E_aload_nN d_TM_nextToken_39 rfl ?_
      first | refine E_aload_n d_TM_nextToken_40 rfl ?_ | refine E_aload_nN d_TM_nextToken_40 rfl ?_
      refine E_getI d_TM_nextToken_41 gf_TM_84 (by exact ⟨by decide, rfl⟩) (by exact h7) ?_
      refine E_putI d_TM_nextToken_44 gf_TM_91 (by exact ⟨by decide, rfl⟩) rfl rfl ?_
      first | refine E_aload_n d_TM_nextToken_47 rfl ?_ | refine E_aload_nN d_TM_nextToken_47 rfl ?_
      first | refine E_aload_n d_TM_nextToken_48 rfl ?_ | refine E_aload_nN d_TM_nextToken_48 rfl ?_
      refine E_getI d_TM_nextToken_49 gf_TM_84 (by exact ⟨by decide, rfl⟩) (by exact r7) ?_
      refine E_V1 (sb) d_TM_nextToken_52 ml_TM_87 cb_TM_byteAt cv_TM_byteAt (by exact ⟨by decide, rfl⟩) ⟨by decide, rfl⟩ ⟨by decide, by decide⟩ rfl (Nat.le_of_ble_eq_true rfl) (Nat.le_of_ble_eq_true rfl) (kI fun r1 M1 hc => ?_)
      obtain ⟨rfl, rfl⟩ := hc
      refine E_istore_1 d_TM_nextToken_55 rfl ?_
      refine E_iload_n d_TM_nextToken_56 rfl ?_
      first | (with_reducible refine E_isN1 ?_; refine E_if_ge 68 d_TM_nextToken_57 rfl (nz_ge (by omega) fun h57 => ?_) (nz_nge (by omega) fun h57 => ?_)) | refine E_if_ge 68 d_TM_nextToken_57 rfl (fun h57 => ?_) (fun h57 => ?_)
      rotate_left
      · exfalso; omega
      refine E_iload_n d_TM_nextToken_68 rfl ?_
      refine E_S1 (sp_TM_isFigure hb) d_TM_nextToken_69 ml_TM_97 cb_TM_isFigure cs_TM_isFigure ⟨by decide, by decide⟩ rfl (Nat.le_of_ble_eq_true rfl) (Nat.le_of_ble_eq_true rfl) (kI fun r1 M1 hc => ?_)
      obtain ⟨rfl, rfl⟩ := hc
      first | (with_reducible refine E_isP ?_; refine E_if_eq 151 d_TM_nextToken_72 rfl (pb_0 fun h72 => ?_) (pb_1 fun h72 => ?_)) | (with_reducible refine E_isN1 ?_; refine E_if_eq 151 d_TM_nextToken_72 rfl (nz_eq (by omega) fun h72 => ?_) (nz_ne fun h72 => ?_)) | refine E_if_eq 151 d_TM_nextToken_72 rfl (fun h72 => ?_) (fun h72 => ?_)
      rotate_left
      · exfalso; exact hnd h72
      refine E_iload_n d_TM_nextToken_151 rfl ?_
      refine E_S1 (sp_TM_isLetterByte hb) d_TM_nextToken_152 ml_TM_104 cb_TM_isLetterByte cs_TM_isLetterByte ⟨by decide, by decide⟩ rfl (Nat.le_of_ble_eq_true rfl) (Nat.le_of_ble_eq_true rfl) (kI fun r1 M1 hc => ?_)
      obtain ⟨rfl, rfl⟩ := hc
      first | (with_reducible refine E_isP ?_; refine E_if_eq 234 d_TM_nextToken_155 rfl (pb_0 fun h155 => ?_) (pb_1 fun h155 => ?_)) | (with_reducible refine E_isN1 ?_; refine E_if_eq 234 d_TM_nextToken_155 rfl (nz_eq (by omega) fun h155 => ?_) (nz_ne fun h155 => ?_)) | refine E_if_eq 234 d_TM_nextToken_155 rfl (fun h155 => ?_) (fun h155 => ?_)
      · exfalso; exact h155 hl
      first | refine E_aload_n d_TM_nextToken_158 rfl ?_ | refine E_aload_nN d_TM_nextToken_158 rfl ?_
      refine E_iconst (v := nI 2) d_TM_nextToken_159 rfl ?_
      refine E_putI d_TM_nextToken_160 gf_TM_94 (by exact ⟨by decide, rfl⟩) rfl rfl ?_
      first | refine E_aload_n d_TM_nextToken_163 rfl ?_ | refine E_aload_nN d_TM_nextToken_163 rfl ?_
      refine E_lconst (v := lN 0) d_TM_nextToken_164 rfl ?_
      refine E_putL d_TM_nextToken_165 gf_TM_107 (by exact ⟨by decide, rfl⟩) rfl rfl ?_
      exact LL
    · by_cases hd : isD (l.getD (PP l k) 0) = true
      · have LL := lp_TM_dig (x := some (.int (nI (l.getD (PP l k) 0)))) hR0 hT0 hp hd hl hW0 _ (PP l k) (wI (wI (wI M 0 8 (nI (PP l k))) 0 9 (nI 1)) 0 10 (nI 0)) 0 rfl hle rfl (by unfold VV tkE; rw [if_pos hp, if_neg hl, if_pos hd]; rfl) (by decide) ((X8.wI (by unfold Jn; omega)).wI (by unfold Jn; omega)) (by rw [mI_wa, if_neg (by decide), mI_wa, if_neg (by decide), mI_wa, if_pos rfl]) (by rw [mI_wa, if_neg (by decide), mI_wa, if_neg (by decide)]; exact r7) (by rw [mI_wa, if_neg (by decide), mI_wa, if_pos rfl]) (by rw [mI_wa, if_pos rfl]) h11
        generalize hbb : l.getD (PP l k) 0 = b at *
        first | refine E_aload_n d_TM_nextToken_39 rfl ?_ | refine E_aload_nN d_TM_nextToken_39 rfl ?_
        first | refine E_aload_n d_TM_nextToken_40 rfl ?_ | refine E_aload_nN d_TM_nextToken_40 rfl ?_
        refine E_getI d_TM_nextToken_41 gf_TM_84 (by exact ⟨by decide, rfl⟩) (by exact h7) ?_
        refine E_putI d_TM_nextToken_44 gf_TM_91 (by exact ⟨by decide, rfl⟩) rfl rfl ?_
        first | refine E_aload_n d_TM_nextToken_47 rfl ?_ | refine E_aload_nN d_TM_nextToken_47 rfl ?_
        first | refine E_aload_n d_TM_nextToken_48 rfl ?_ | refine E_aload_nN d_TM_nextToken_48 rfl ?_
        refine E_getI d_TM_nextToken_49 gf_TM_84 (by exact ⟨by decide, rfl⟩) (by exact r7) ?_
        refine E_V1 (sb) d_TM_nextToken_52 ml_TM_87 cb_TM_byteAt cv_TM_byteAt (by exact ⟨by decide, rfl⟩) ⟨by decide, rfl⟩ ⟨by decide, by decide⟩ rfl (Nat.le_of_ble_eq_true rfl) (Nat.le_of_ble_eq_true rfl) (kI fun r1 M1 hc => ?_)
        obtain ⟨rfl, rfl⟩ := hc
        refine E_istore_1 d_TM_nextToken_55 rfl ?_
        refine E_iload_n d_TM_nextToken_56 rfl ?_
        first | (with_reducible refine E_isN1 ?_; refine E_if_ge 68 d_TM_nextToken_57 rfl (nz_ge (by omega) fun h57 => ?_) (nz_nge (by omega) fun h57 => ?_)) | refine E_if_ge 68 d_TM_nextToken_57 rfl (fun h57 => ?_) (fun h57 => ?_)
        rotate_left
        · exfalso; omega
        refine E_iload_n d_TM_nextToken_68 rfl ?_
        refine E_S1 (sp_TM_isFigure hb) d_TM_nextToken_69 ml_TM_97 cb_TM_isFigure cs_TM_isFigure ⟨by decide, by decide⟩ rfl (Nat.le_of_ble_eq_true rfl) (Nat.le_of_ble_eq_true rfl) (kI fun r1 M1 hc => ?_)
        obtain ⟨rfl, rfl⟩ := hc
        first | (with_reducible refine E_isP ?_; refine E_if_eq 151 d_TM_nextToken_72 rfl (pb_0 fun h72 => ?_) (pb_1 fun h72 => ?_)) | (with_reducible refine E_isN1 ?_; refine E_if_eq 151 d_TM_nextToken_72 rfl (nz_eq (by omega) fun h72 => ?_) (nz_ne fun h72 => ?_)) | refine E_if_eq 151 d_TM_nextToken_72 rfl (fun h72 => ?_) (fun h72 => ?_)
        · exfalso; exact h72 hd
        first | refine E_aload_n d_TM_nextToken_75 rfl ?_ | refine E_aload_nN d_TM_nextToken_75 rfl ?_
        refine E_iconst (v := nI 1) d_TM_nextToken_76 rfl ?_
        refine E_putI d_TM_nextToken_77 gf_TM_94 (by exact ⟨by decide, rfl⟩) rfl rfl ?_
        first | refine E_aload_n d_TM_nextToken_80 rfl ?_ | refine E_aload_nN d_TM_nextToken_80 rfl ?_
        refine E_iconst (v := nI 0) d_TM_nextToken_81 rfl ?_
        refine E_putI d_TM_nextToken_82 gf_TM_100 (by exact ⟨by decide, rfl⟩) rfl rfl ?_
        exact LL
      · have mk : ∀ t e, (e, sgT t) = (if (mkS (l.getD (PP l k) 0) = 28 ∨ mkS (l.getD (PP l k) 0) = 29) ∧ PP l k + 1 < l.length ∧ l.getD (PP l k + 1) 0 = 61 then (PP l k + 2, mkS (l.getD (PP l k) 0) - 2) else (PP l k + 1, mkS (l.getD (PP l k) 0))) → t < 256 → t ≠ 1 → t ≠ 2 → ∀ M', Fx Jn An M0 M' → mI M' 0 8 = nI (PP l k) → mI M' 0 7 = nI e → mI M' 0 9 = nI t → mI M' 0 10 = nI N0 → mL M' 0 11 = lN W0 → TKM l k M' ∧ Fx Jn An M0 M' := by
          intro t e he ht t1 t2 M' hX' g8 g7 g9 g10 g11
          refine ⟨⟨g8, ?_, t, N0, W0, g9, g10, g11, ?_, fun q => absurd q t1, fun _ => ?_, ht, hN0, hW0⟩, hX'⟩
          · rw [g7]
            unfold EE tkE
            rw [if_pos hp, if_neg hl, if_neg hd]
            have := congrArg Prod.fst he
            rw [show e = _ from this]
            split <;> rfl
          · rw [if_neg t1, if_neg t2]
            unfold SS tkE
            rw [if_pos hp, if_neg hl, if_neg hd]
            have := congrArg Prod.snd he
            rw [show sgT t = _ from this]
            split <;> rfl
          · unfold VV tkE
            rw [if_pos hp, if_neg hl, if_neg hd]
            split <;> rfl
        have hlow : isSg (l.getD (PP l k) 0) = true → 35 ≤ l.getD (PP l k) 0 := fun q => by
          rcases Nat.lt_or_ge (l.getD (PP l k) 0) 35 with z | z
          · rw [isSg_out (Or.inl z)] at q; cases q
          · exact z
        have hsT : ∀ t, t = (if isSg (l.getD (PP l k) 0) = true then l.getD (PP l k) 0 else 3) → sgT t = mkS (l.getD (PP l k) 0) ∧ t < 256 ∧ t ≠ 1 ∧ t ≠ 2 := fun t ht => by
          by_cases q : isSg (l.getD (PP l k) 0) = true
          · rw [if_pos q] at ht
            have := hlow q
            rw [ht]
            unfold sgT
            rw [if_neg (by omega), if_neg (by omega), if_neg (by omega)]
            exact ⟨rfl, hb, by omega, by omega⟩
          · rw [if_neg q] at ht
            rw [ht]
            have q2 : ¬ (mkS (l.getD (PP l k) 0) ≠ 41 ∨ l.getD (PP l k) 0 = 58) := fun z => q (decide_eq_true z)
            exact ⟨by show 41 = _; omega, by decide, by decide, by decide⟩
        have hm28 : (mkS (l.getD (PP l k) 0) = 28 ∨ mkS (l.getD (PP l k) 0) = 29) ↔ (l.getD (PP l k) 0 = 60 ∨ l.getD (PP l k) 0 = 62) := by
          unfold mkS
          repeat' split
          all_goals omega
        have hm60 : l.getD (PP l k) 0 = 60 → mkS (l.getD (PP l k) 0) = 28 := fun q => by rw [q]; rfl
        have hm62 : l.getD (PP l k) 0 = 62 → mkS (l.getD (PP l k) 0) = 29 := fun q => by rw [q]; rfl
        have KE : ∀ t, t = (if isSg (l.getD (PP l k) 0) = true then l.getD (PP l k) 0 else 3) → E 1 0 0 Y_TM_nextToken 247 [some (.ref 0), some (.int (nI (l.getD (PP l k) 0)))] [.int (nI t), .ref 0] GM (wI M 0 8 (nI (PP l k))) (QV GM fun M' => TKM l k M' ∧ Fx Jn An M0 M') := by
          intro t ht
          obtain ⟨s1, s2, s3, s4⟩ := hsT t ht
          have X9 : Fx Jn An M0 (wI (wI (wI M 0 8 (nI (PP l k))) 0 9 (nI t)) 0 7 (nI (PP l k + 1))) := (X8.wI (by unfold Jn; omega)).wI (by unfold Jn; omega)
          have hR9 := hR0.fx X9
          have hT9 := hT0.fx X9 (by unfold Jn; omega) (fun q => q)
          have q7 : mI (wI (wI M 0 8 (nI (PP l k))) 0 9 (nI t)) 0 7 = nI (PP l k) := by rw [mI_wa, if_neg (by decide)]; exact r7
          have g7 : mI (wI (wI (wI M 0 8 (nI (PP l k))) 0 9 (nI t)) 0 7 (nI (PP l k + 1))) 0 7 = nI (PP l k + 1) := by rw [mI_wa, if_pos rfl]
          have fin1 : ¬ ((l.getD (PP l k) 0 = 60 ∨ l.getD (PP l k) 0 = 62) ∧ PP l k + 1 < l.length ∧ l.getD (PP l k + 1) 0 = 61) → TKM l k (wI (wI (wI M 0 8 (nI (PP l k))) 0 9 (nI t)) 0 7 (nI (PP l k + 1))) ∧ Fx Jn An M0 (wI (wI (wI M 0 8 (nI (PP l k))) 0 9 (nI t)) 0 7 (nI (PP l k + 1))) := fun h =>
            mk t (PP l k + 1) (by rw [if_neg (fun q => h ⟨hm28.mp q.1, q.2⟩), s1]) s2 s3 s4 _ X9 (by rw [mI_wa, if_neg (by decide), mI_wa, if_neg (by decide), mI_wa, if_pos rfl]) g7 (by rw [mI_wa, if_neg (by decide), mI_wa, if_pos rfl]) (by rw [mI_wa, if_neg (by decide), mI_wa, if_neg (by decide), mI_wa, if_neg (by decide)]; exact h10) h11
          have fin2 : ∀ u, (l.getD (PP l k) 0 = 60 ∧ u = 4) ∨ (l.getD (PP l k) 0 = 62 ∧ u = 5) → PP l k + 1 < l.length → l.getD (PP l k + 1) 0 = 61 → TKM l k (wI (wI (wI (wI (wI M 0 8 (nI (PP l k))) 0 9 (nI t)) 0 7 (nI (PP l k + 1))) 0 9 (nI u)) 0 7 (nI (PP l k + 1 + 1))) ∧ Fx Jn An M0 (wI (wI (wI (wI (wI M 0 8 (nI (PP l k))) 0 9 (nI t)) 0 7 (nI (PP l k + 1))) 0 9 (nI u)) 0 7 (nI (PP l k + 1 + 1))) := fun u hu a1 a2 => by
            refine mk u (PP l k + 2) ?_ (by omega) (by omega) (by omega) _ ((X9.wI (by unfold Jn; omega)).wI (by unfold Jn; omega)) (by rw [mI_wa, if_neg (by decide), mI_wa, if_neg (by decide), mI_wa, if_neg (by decide), mI_wa, if_neg (by decide), mI_wa, if_pos rfl]) (by rw [mI_wa, if_pos rfl]) (by rw [mI_wa, if_neg (by decide), mI_wa, if_pos rfl]) (by rw [mI_wa, if_neg (by decide), mI_wa, if_neg (by decide), mI_wa, if_neg (by decide), mI_wa, if_neg (by decide), mI_wa, if_neg (by decide)]; exact h10) h11
            rcases hu with ⟨e, rfl⟩ | ⟨e, rfl⟩
            · rw [if_pos ⟨Or.inl (hm60 e), a1, a2⟩, hm60 e]; rfl
            · rw [if_pos ⟨Or.inr (hm62 e), a1, a2⟩, hm62 e]; rfl
          have r72 : ∀ u, mI (wI (wI (wI (wI M 0 8 (nI (PP l k))) 0 9 (nI t)) 0 7 (nI (PP l k + 1))) 0 9 (nI u)) 0 7 = nI (PP l k + 1) := fun u => by rw [mI_wa, if_neg (by decide)]; exact g7
          clear hsT hlow mk hm28 hm60 hm62 ht
          by_cases h1 : PP l k + 1 < l.length
          · have hb1 := hT9.b h1
            have sb1 := sp_TM_byteAt hR9 hT9 h1
            clear hl hd
            generalize hbb : l.getD (PP l k) 0 = b at *
            generalize hcc : l.getD (PP l k + 1) 0 = c1 at *
            refine E_putI d_TM_nextToken_247 gf_TM_94 (by exact ⟨by decide, rfl⟩) rfl rfl ?_
            first | refine E_aload_n d_TM_nextToken_250 rfl ?_ | refine E_aload_nN d_TM_nextToken_250 rfl ?_
            refine E_dup d_TM_nextToken_251 rfl ?_
            refine E_getI d_TM_nextToken_252 gf_TM_84 (by exact ⟨by decide, rfl⟩) (by exact q7) ?_
            refine E_iconst (v := nI 1) d_TM_nextToken_255 rfl ?_
            first | (with_reducible refine E_isN2 ?_; refine E_iaddN d_TM_nextToken_256 ?_) | refine E_iadd d_TM_nextToken_256 ?_
            refine E_putI d_TM_nextToken_257 gf_TM_84 (by exact ⟨by decide, rfl⟩) rfl rfl ?_
            refine E_iload_n d_TM_nextToken_260 rfl ?_
            refine E_bipush (v := nI 60) d_TM_nextToken_261 (by decide) ?_
            first | (with_reducible refine E_isN2 ?_; refine E_icmp_eq 272 d_TM_nextToken_263 rfl (nb_eq (by omega) (by omega) fun h263 => ?_) (nb_ne fun h263 => ?_)) | refine E_icmp_eq 272 d_TM_nextToken_263 rfl (fun h263 => ?_) (fun h263 => ?_)
            · first | refine E_aload_n d_TM_nextToken_272 rfl ?_ | refine E_aload_nN d_TM_nextToken_272 rfl ?_
              first | refine E_aload_n d_TM_nextToken_273 rfl ?_ | refine E_aload_nN d_TM_nextToken_273 rfl ?_
              refine E_getI d_TM_nextToken_274 gf_TM_84 (by exact ⟨by decide, rfl⟩) (by exact g7) ?_
              refine E_V1 (sb1) d_TM_nextToken_277 ml_TM_87 cb_TM_byteAt cv_TM_byteAt (by exact ⟨by decide, rfl⟩) ⟨by decide, rfl⟩ ⟨by decide, by decide⟩ rfl (Nat.le_of_ble_eq_true rfl) (Nat.le_of_ble_eq_true rfl) (kI fun r1 M1 hc => ?_)
              obtain ⟨rfl, rfl⟩ := hc
              refine E_bipush (v := nI 61) d_TM_nextToken_280 (by decide) ?_
              first | (with_reducible refine E_isN2 ?_; refine E_icmp_ne 310 d_TM_nextToken_282 rfl (nb_ne fun h282 => ?_) (nb_eq (by omega) (by omega) fun h282 => ?_)) | refine E_icmp_ne 310 d_TM_nextToken_282 rfl (fun h282 => ?_) (fun h282 => ?_)
              · refine E_retV d_TM_nextToken_310 rfl ?_
                first | exact fin2 4 (Or.inl ⟨by omega, rfl⟩) h1 (by omega) | exact fin2 5 (Or.inr ⟨by omega, rfl⟩) h1 (by omega) | exact fin1 (by omega)
              · first | refine E_aload_n d_TM_nextToken_285 rfl ?_ | refine E_aload_nN d_TM_nextToken_285 rfl ?_
                refine E_iload_n d_TM_nextToken_286 rfl ?_
                refine E_bipush (v := nI 60) d_TM_nextToken_287 (by decide) ?_
                first | (with_reducible refine E_isN2 ?_; refine E_icmp_ne 296 d_TM_nextToken_289 rfl (nb_ne fun h289 => ?_) (nb_eq (by omega) (by omega) fun h289 => ?_)) | refine E_icmp_ne 296 d_TM_nextToken_289 rfl (fun h289 => ?_) (fun h289 => ?_)
                · refine E_iconst (v := nI 5) d_TM_nextToken_296 rfl ?_
                  refine E_putI d_TM_nextToken_297 gf_TM_94 (by exact ⟨by decide, rfl⟩) rfl rfl ?_
                  first | refine E_aload_n d_TM_nextToken_300 rfl ?_ | refine E_aload_nN d_TM_nextToken_300 rfl ?_
                  refine E_dup d_TM_nextToken_301 rfl ?_
                  refine E_getI d_TM_nextToken_302 gf_TM_84 (by exact ⟨by decide, rfl⟩) (by exact r72 _) ?_
                  refine E_iconst (v := nI 1) d_TM_nextToken_305 rfl ?_
                  first | (with_reducible refine E_isN2 ?_; refine E_iaddN d_TM_nextToken_306 ?_) | refine E_iadd d_TM_nextToken_306 ?_
                  refine E_putI d_TM_nextToken_307 gf_TM_84 (by exact ⟨by decide, rfl⟩) rfl rfl ?_
                  refine E_retV d_TM_nextToken_310 rfl ?_
                  first | exact fin2 4 (Or.inl ⟨by omega, rfl⟩) h1 (by omega) | exact fin2 5 (Or.inr ⟨by omega, rfl⟩) h1 (by omega) | exact fin1 (by omega)
                · refine E_iconst (v := nI 4) d_TM_nextToken_292 rfl ?_
                  refine E_goto 297 d_TM_nextToken_293 rfl ?_
                  refine E_putI d_TM_nextToken_297 gf_TM_94 (by exact ⟨by decide, rfl⟩) rfl rfl ?_
                  first | refine E_aload_n d_TM_nextToken_300 rfl ?_ | refine E_aload_nN d_TM_nextToken_300 rfl ?_
                  refine E_dup d_TM_nextToken_301 rfl ?_
                  refine E_getI d_TM_nextToken_302 gf_TM_84 (by exact ⟨by decide, rfl⟩) (by exact r72 _) ?_
                  refine E_iconst (v := nI 1) d_TM_nextToken_305 rfl ?_
                  first | (with_reducible refine E_isN2 ?_; refine E_iaddN d_TM_nextToken_306 ?_) | refine E_iadd d_TM_nextToken_306 ?_
                  refine E_putI d_TM_nextToken_307 gf_TM_84 (by exact ⟨by decide, rfl⟩) rfl rfl ?_
                  refine E_retV d_TM_nextToken_310 rfl ?_
                  first | exact fin2 4 (Or.inl ⟨by omega, rfl⟩) h1 (by omega) | exact fin2 5 (Or.inr ⟨by omega, rfl⟩) h1 (by omega) | exact fin1 (by omega)
            · refine E_iload_n d_TM_nextToken_266 rfl ?_
              refine E_bipush (v := nI 62) d_TM_nextToken_267 (by decide) ?_
              first | (with_reducible refine E_isN2 ?_; refine E_icmp_ne 310 d_TM_nextToken_269 rfl (nb_ne fun h269 => ?_) (nb_eq (by omega) (by omega) fun h269 => ?_)) | refine E_icmp_ne 310 d_TM_nextToken_269 rfl (fun h269 => ?_) (fun h269 => ?_)
              · refine E_retV d_TM_nextToken_310 rfl ?_
                first | exact fin2 4 (Or.inl ⟨by omega, rfl⟩) h1 (by omega) | exact fin2 5 (Or.inr ⟨by omega, rfl⟩) h1 (by omega) | exact fin1 (by omega)
              · first | refine E_aload_n d_TM_nextToken_272 rfl ?_ | refine E_aload_nN d_TM_nextToken_272 rfl ?_
                first | refine E_aload_n d_TM_nextToken_273 rfl ?_ | refine E_aload_nN d_TM_nextToken_273 rfl ?_
                refine E_getI d_TM_nextToken_274 gf_TM_84 (by exact ⟨by decide, rfl⟩) (by exact g7) ?_
                refine E_V1 (sb1) d_TM_nextToken_277 ml_TM_87 cb_TM_byteAt cv_TM_byteAt (by exact ⟨by decide, rfl⟩) ⟨by decide, rfl⟩ ⟨by decide, by decide⟩ rfl (Nat.le_of_ble_eq_true rfl) (Nat.le_of_ble_eq_true rfl) (kI fun r1 M1 hc => ?_)
                obtain ⟨rfl, rfl⟩ := hc
                refine E_bipush (v := nI 61) d_TM_nextToken_280 (by decide) ?_
                first | (with_reducible refine E_isN2 ?_; refine E_icmp_ne 310 d_TM_nextToken_282 rfl (nb_ne fun h282 => ?_) (nb_eq (by omega) (by omega) fun h282 => ?_)) | refine E_icmp_ne 310 d_TM_nextToken_282 rfl (fun h282 => ?_) (fun h282 => ?_)
                · refine E_retV d_TM_nextToken_310 rfl ?_
                  first | exact fin2 4 (Or.inl ⟨by omega, rfl⟩) h1 (by omega) | exact fin2 5 (Or.inr ⟨by omega, rfl⟩) h1 (by omega) | exact fin1 (by omega)
                · first | refine E_aload_n d_TM_nextToken_285 rfl ?_ | refine E_aload_nN d_TM_nextToken_285 rfl ?_
                  refine E_iload_n d_TM_nextToken_286 rfl ?_
                  refine E_bipush (v := nI 60) d_TM_nextToken_287 (by decide) ?_
                  first | (with_reducible refine E_isN2 ?_; refine E_icmp_ne 296 d_TM_nextToken_289 rfl (nb_ne fun h289 => ?_) (nb_eq (by omega) (by omega) fun h289 => ?_)) | refine E_icmp_ne 296 d_TM_nextToken_289 rfl (fun h289 => ?_) (fun h289 => ?_)
                  · refine E_iconst (v := nI 5) d_TM_nextToken_296 rfl ?_
                    refine E_putI d_TM_nextToken_297 gf_TM_94 (by exact ⟨by decide, rfl⟩) rfl rfl ?_
                    first | refine E_aload_n d_TM_nextToken_300 rfl ?_ | refine E_aload_nN d_TM_nextToken_300 rfl ?_
                    refine E_dup d_TM_nextToken_301 rfl ?_
                    refine E_getI d_TM_nextToken_302 gf_TM_84 (by exact ⟨by decide, rfl⟩) (by exact r72 _) ?_
                    refine E_iconst (v := nI 1) d_TM_nextToken_305 rfl ?_
                    first | (with_reducible refine E_isN2 ?_; refine E_iaddN d_TM_nextToken_306 ?_) | refine E_iadd d_TM_nextToken_306 ?_
                    refine E_putI d_TM_nextToken_307 gf_TM_84 (by exact ⟨by decide, rfl⟩) rfl rfl ?_
                    refine E_retV d_TM_nextToken_310 rfl ?_
                    first | exact fin2 4 (Or.inl ⟨by omega, rfl⟩) h1 (by omega) | exact fin2 5 (Or.inr ⟨by omega, rfl⟩) h1 (by omega) | exact fin1 (by omega)
                  · refine E_iconst (v := nI 4) d_TM_nextToken_292 rfl ?_
                    refine E_goto 297 d_TM_nextToken_293 rfl ?_
                    refine E_putI d_TM_nextToken_297 gf_TM_94 (by exact ⟨by decide, rfl⟩) rfl rfl ?_
                    first | refine E_aload_n d_TM_nextToken_300 rfl ?_ | refine E_aload_nN d_TM_nextToken_300 rfl ?_
                    refine E_dup d_TM_nextToken_301 rfl ?_
                    refine E_getI d_TM_nextToken_302 gf_TM_84 (by exact ⟨by decide, rfl⟩) (by exact r72 _) ?_
                    refine E_iconst (v := nI 1) d_TM_nextToken_305 rfl ?_
                    first | (with_reducible refine E_isN2 ?_; refine E_iaddN d_TM_nextToken_306 ?_) | refine E_iadd d_TM_nextToken_306 ?_
                    refine E_putI d_TM_nextToken_307 gf_TM_84 (by exact ⟨by decide, rfl⟩) rfl rfl ?_
                    refine E_retV d_TM_nextToken_310 rfl ?_
                    first | exact fin2 4 (Or.inl ⟨by omega, rfl⟩) h1 (by omega) | exact fin2 5 (Or.inr ⟨by omega, rfl⟩) h1 (by omega) | exact fin1 (by omega)
          · have sb1 := sp_TM_byteAtN hR9 hT9 (show PP l k + 1 = l.length by omega)
            clear hl hd
            generalize hbb : l.getD (PP l k) 0 = b at *
            refine E_putI d_TM_nextToken_247 gf_TM_94 (by exact ⟨by decide, rfl⟩) rfl rfl ?_
            first | refine E_aload_n d_TM_nextToken_250 rfl ?_ | refine E_aload_nN d_TM_nextToken_250 rfl ?_
            refine E_dup d_TM_nextToken_251 rfl ?_
            refine E_getI d_TM_nextToken_252 gf_TM_84 (by exact ⟨by decide, rfl⟩) (by exact q7) ?_
            refine E_iconst (v := nI 1) d_TM_nextToken_255 rfl ?_
            first | (with_reducible refine E_isN2 ?_; refine E_iaddN d_TM_nextToken_256 ?_) | refine E_iadd d_TM_nextToken_256 ?_
            refine E_putI d_TM_nextToken_257 gf_TM_84 (by exact ⟨by decide, rfl⟩) rfl rfl ?_
            refine E_iload_n d_TM_nextToken_260 rfl ?_
            refine E_bipush (v := nI 60) d_TM_nextToken_261 (by decide) ?_
            first | (with_reducible refine E_isN2 ?_; refine E_icmp_eq 272 d_TM_nextToken_263 rfl (nb_eq (by omega) (by omega) fun h263 => ?_) (nb_ne fun h263 => ?_)) | refine E_icmp_eq 272 d_TM_nextToken_263 rfl (fun h263 => ?_) (fun h263 => ?_)
            · first | refine E_aload_n d_TM_nextToken_272 rfl ?_ | refine E_aload_nN d_TM_nextToken_272 rfl ?_
              first | refine E_aload_n d_TM_nextToken_273 rfl ?_ | refine E_aload_nN d_TM_nextToken_273 rfl ?_
              refine E_getI d_TM_nextToken_274 gf_TM_84 (by exact ⟨by decide, rfl⟩) (by exact g7) ?_
              refine E_V1 (sb1) d_TM_nextToken_277 ml_TM_87 cb_TM_byteAt cv_TM_byteAt (by exact ⟨by decide, rfl⟩) ⟨by decide, rfl⟩ ⟨by decide, by decide⟩ rfl (Nat.le_of_ble_eq_true rfl) (Nat.le_of_ble_eq_true rfl) (kI fun r1 M1 hc => ?_)
              obtain ⟨rfl, rfl⟩ := hc
              refine E_bipush (v := nI 61) d_TM_nextToken_280 (by decide) ?_
              first | (with_reducible refine E_isN2 ?_; refine E_icmp_ne 310 d_TM_nextToken_282 rfl (nb_ne fun h282 => ?_) (nb_eq (by omega) (by omega) fun h282 => ?_)) | refine E_icmp_ne 310 d_TM_nextToken_282 rfl (fun h282 => ?_) (fun h282 => ?_)
              rotate_left
              · exfalso; exact absurd h282 (by decide)
              refine E_retV d_TM_nextToken_310 rfl ?_
              exact fin1 (by omega)
            · refine E_iload_n d_TM_nextToken_266 rfl ?_
              refine E_bipush (v := nI 62) d_TM_nextToken_267 (by decide) ?_
              first | (with_reducible refine E_isN2 ?_; refine E_icmp_ne 310 d_TM_nextToken_269 rfl (nb_ne fun h269 => ?_) (nb_eq (by omega) (by omega) fun h269 => ?_)) | refine E_icmp_ne 310 d_TM_nextToken_269 rfl (fun h269 => ?_) (fun h269 => ?_)
              · refine E_retV d_TM_nextToken_310 rfl ?_
                exact fin1 (by omega)
              · first | refine E_aload_n d_TM_nextToken_272 rfl ?_ | refine E_aload_nN d_TM_nextToken_272 rfl ?_
                first | refine E_aload_n d_TM_nextToken_273 rfl ?_ | refine E_aload_nN d_TM_nextToken_273 rfl ?_
                refine E_getI d_TM_nextToken_274 gf_TM_84 (by exact ⟨by decide, rfl⟩) (by exact g7) ?_
                refine E_V1 (sb1) d_TM_nextToken_277 ml_TM_87 cb_TM_byteAt cv_TM_byteAt (by exact ⟨by decide, rfl⟩) ⟨by decide, rfl⟩ ⟨by decide, by decide⟩ rfl (Nat.le_of_ble_eq_true rfl) (Nat.le_of_ble_eq_true rfl) (kI fun r1 M1 hc => ?_)
                obtain ⟨rfl, rfl⟩ := hc
                refine E_bipush (v := nI 61) d_TM_nextToken_280 (by decide) ?_
                first | (with_reducible refine E_isN2 ?_; refine E_icmp_ne 310 d_TM_nextToken_282 rfl (nb_ne fun h282 => ?_) (nb_eq (by omega) (by omega) fun h282 => ?_)) | refine E_icmp_ne 310 d_TM_nextToken_282 rfl (fun h282 => ?_) (fun h282 => ?_)
                rotate_left
                · exfalso; exact absurd h282 (by decide)
                refine E_retV d_TM_nextToken_310 rfl ?_
                exact fin1 (by omega)
        clear mk hsT hlow hm28 hm60 hm62
        generalize hbb : l.getD (PP l k) 0 = b at *
        first | refine E_aload_n d_TM_nextToken_39 rfl ?_ | refine E_aload_nN d_TM_nextToken_39 rfl ?_
        first | refine E_aload_n d_TM_nextToken_40 rfl ?_ | refine E_aload_nN d_TM_nextToken_40 rfl ?_
        refine E_getI d_TM_nextToken_41 gf_TM_84 (by exact ⟨by decide, rfl⟩) (by exact h7) ?_
        refine E_putI d_TM_nextToken_44 gf_TM_91 (by exact ⟨by decide, rfl⟩) rfl rfl ?_
        first | refine E_aload_n d_TM_nextToken_47 rfl ?_ | refine E_aload_nN d_TM_nextToken_47 rfl ?_
        first | refine E_aload_n d_TM_nextToken_48 rfl ?_ | refine E_aload_nN d_TM_nextToken_48 rfl ?_
        refine E_getI d_TM_nextToken_49 gf_TM_84 (by exact ⟨by decide, rfl⟩) (by exact r7) ?_
        refine E_V1 (sb) d_TM_nextToken_52 ml_TM_87 cb_TM_byteAt cv_TM_byteAt (by exact ⟨by decide, rfl⟩) ⟨by decide, rfl⟩ ⟨by decide, by decide⟩ rfl (Nat.le_of_ble_eq_true rfl) (Nat.le_of_ble_eq_true rfl) (kI fun r1 M1 hc => ?_)
        obtain ⟨rfl, rfl⟩ := hc
        refine E_istore_1 d_TM_nextToken_55 rfl ?_
        refine E_iload_n d_TM_nextToken_56 rfl ?_
        first | (with_reducible refine E_isN1 ?_; refine E_if_ge 68 d_TM_nextToken_57 rfl (nz_ge (by omega) fun h57 => ?_) (nz_nge (by omega) fun h57 => ?_)) | refine E_if_ge 68 d_TM_nextToken_57 rfl (fun h57 => ?_) (fun h57 => ?_)
        rotate_left
        · exfalso; omega
        refine E_iload_n d_TM_nextToken_68 rfl ?_
        refine E_S1 (sp_TM_isFigure hb) d_TM_nextToken_69 ml_TM_97 cb_TM_isFigure cs_TM_isFigure ⟨by decide, by decide⟩ rfl (Nat.le_of_ble_eq_true rfl) (Nat.le_of_ble_eq_true rfl) (kI fun r1 M1 hc => ?_)
        obtain ⟨rfl, rfl⟩ := hc
        first | (with_reducible refine E_isP ?_; refine E_if_eq 151 d_TM_nextToken_72 rfl (pb_0 fun h72 => ?_) (pb_1 fun h72 => ?_)) | (with_reducible refine E_isN1 ?_; refine E_if_eq 151 d_TM_nextToken_72 rfl (nz_eq (by omega) fun h72 => ?_) (nz_ne fun h72 => ?_)) | refine E_if_eq 151 d_TM_nextToken_72 rfl (fun h72 => ?_) (fun h72 => ?_)
        rotate_left
        · exfalso; exact hd h72
        refine E_iload_n d_TM_nextToken_151 rfl ?_
        refine E_S1 (sp_TM_isLetterByte hb) d_TM_nextToken_152 ml_TM_104 cb_TM_isLetterByte cs_TM_isLetterByte ⟨by decide, by decide⟩ rfl (Nat.le_of_ble_eq_true rfl) (Nat.le_of_ble_eq_true rfl) (kI fun r1 M1 hc => ?_)
        obtain ⟨rfl, rfl⟩ := hc
        first | (with_reducible refine E_isP ?_; refine E_if_eq 234 d_TM_nextToken_155 rfl (pb_0 fun h155 => ?_) (pb_1 fun h155 => ?_)) | (with_reducible refine E_isN1 ?_; refine E_if_eq 234 d_TM_nextToken_155 rfl (nz_eq (by omega) fun h155 => ?_) (nz_ne fun h155 => ?_)) | refine E_if_eq 234 d_TM_nextToken_155 rfl (fun h155 => ?_) (fun h155 => ?_)
        rotate_left
        · exfalso; exact hl h155
        first | refine E_aload_n d_TM_nextToken_234 rfl ?_ | refine E_aload_nN d_TM_nextToken_234 rfl ?_
        refine E_iload_n d_TM_nextToken_235 rfl ?_
        refine E_S1 (sp_TM_isSign hb) d_TM_nextToken_236 ml_TM_113 cb_TM_isSign cs_TM_isSign ⟨by decide, by decide⟩ rfl (Nat.le_of_ble_eq_true rfl) (Nat.le_of_ble_eq_true rfl) (kI fun r1 M1 hc => ?_)
        obtain ⟨rfl, rfl⟩ := hc
        first | (with_reducible refine E_isP ?_; refine E_if_eq 246 d_TM_nextToken_239 rfl (pb_0 fun h239 => ?_) (pb_1 fun h239 => ?_)) | (with_reducible refine E_isN1 ?_; refine E_if_eq 246 d_TM_nextToken_239 rfl (nz_eq (by omega) fun h239 => ?_) (nz_ne fun h239 => ?_)) | refine E_if_eq 246 d_TM_nextToken_239 rfl (fun h239 => ?_) (fun h239 => ?_)
        · refine E_iconst (v := nI 3) d_TM_nextToken_246 rfl ?_
          first | exact KE b (by rw [if_pos h239]) | exact KE 3 (by rw [if_neg h239])
        · refine E_iload_n d_TM_nextToken_242 rfl ?_
          refine E_goto 247 d_TM_nextToken_243 rfl ?_
          first | exact KE b (by rw [if_pos h239]) | exact KE 3 (by rw [if_neg h239])
  · have hpe : PP l k = l.length := by omega
    have sb := sp_TM_byteAtN hR8 hT8 hpe
    have et : tkE l (PP l k) = (40, 0, PP l k) := by unfold tkE; rw [if_neg hp]
    have ok : TKM l k (wI (wI M 0 8 (nI (PP l k))) 0 9 (nI 0)) ∧ Fx Jn An M0 (wI (wI M 0 8 (nI (PP l k))) 0 9 (nI 0)) := by
      refine ⟨⟨by rw [mI_wa, if_neg (by decide), mI_wa, if_pos rfl], ?_, 0, N0, W0, by rw [mI_wa, if_pos rfl], by rw [mI_wa, if_neg (by decide), mI_wa, if_neg (by decide)]; exact h10, h11, ?_, fun q => absurd q (by decide), fun _ => ?_, by decide, hN0, hW0⟩, X8.wI (by unfold Jn; omega)⟩
      · rw [mI_wa, if_neg (by decide), r7]; unfold EE; rw [et]
      · unfold SS; rw [et]; rfl
      · unfold VV; rw [et]
    first | refine E_aload_n d_TM_nextToken_39 rfl ?_ | refine E_aload_nN d_TM_nextToken_39 rfl ?_
    first | refine E_aload_n d_TM_nextToken_40 rfl ?_ | refine E_aload_nN d_TM_nextToken_40 rfl ?_
    refine E_getI d_TM_nextToken_41 gf_TM_84 (by exact ⟨by decide, rfl⟩) (by exact h7) ?_
    refine E_putI d_TM_nextToken_44 gf_TM_91 (by exact ⟨by decide, rfl⟩) rfl rfl ?_
    first | refine E_aload_n d_TM_nextToken_47 rfl ?_ | refine E_aload_nN d_TM_nextToken_47 rfl ?_
    first | refine E_aload_n d_TM_nextToken_48 rfl ?_ | refine E_aload_nN d_TM_nextToken_48 rfl ?_
    refine E_getI d_TM_nextToken_49 gf_TM_84 (by exact ⟨by decide, rfl⟩) (by exact r7) ?_
    refine E_V1 (sb) d_TM_nextToken_52 ml_TM_87 cb_TM_byteAt cv_TM_byteAt (by exact ⟨by decide, rfl⟩) ⟨by decide, rfl⟩ ⟨by decide, by decide⟩ rfl (Nat.le_of_ble_eq_true rfl) (Nat.le_of_ble_eq_true rfl) (kI fun r1 M1 hc => ?_)
    obtain ⟨rfl, rfl⟩ := hc
    refine E_istore_1 d_TM_nextToken_55 rfl ?_
    refine E_iload_n d_TM_nextToken_56 rfl ?_
    first | (with_reducible refine E_isN1 ?_; refine E_if_ge 68 d_TM_nextToken_57 rfl (nz_ge (by omega) fun h57 => ?_) (nz_nge (by omega) fun h57 => ?_)) | refine E_if_ge 68 d_TM_nextToken_57 rfl (fun h57 => ?_) (fun h57 => ?_)
    · exfalso; exact absurd h57 (by decide)
    first | refine E_aload_n d_TM_nextToken_60 rfl ?_ | refine E_aload_nN d_TM_nextToken_60 rfl ?_
    refine E_iconst (v := nI 0) d_TM_nextToken_61 rfl ?_
    refine E_putI d_TM_nextToken_62 gf_TM_94 (by exact ⟨by decide, rfl⟩) rfl rfl ?_
    refine E_goto 310 d_TM_nextToken_65 rfl ?_
    refine E_retV d_TM_nextToken_310 rfl ?_
    exact ok
theorem sp_TM_next0 {l : List Nat} {k : Nat} (hR0 : MR M) (hT0 : TapeM l M) {N0 W0 : Nat} (hN0 : N0 ≤ 1000000) (hW0 : W0 ≤ 1152921504606846976) (h10 : mI M 0 10 = nI N0) (h11 : mL M 0 11 = lN W0) : ∀ j i M1, l.length - i = j → i ≤ l.length → rl isB l i = PP l k → Fx Jn An M M1 → mI M1 0 7 = nI i → mI M1 0 10 = nI N0 → mL M1 0 11 = lN W0 → E 1 0 0 Y_TM_nextToken 0 [some (.ref 0), none] [] GM M1 (QV GM fun M' => TKM l k M' ∧ Fx Jn An M M') := by
  intro j
  induction j with
  | zero =>
    intro i M1 hj hi hE hX h7 g10 g11
    have hR := hR0.fx hX
    have hT := hT0.fx hX (by unfold Jn; omega) (fun q => q)
    have hil : i = l.length := by omega
    have e0 : rl isB l i = i := rl_stop (fun q => by omega)
    have sb := sp_TM_byteAtN hR hT hil
    have KK := kp_TM_next (x := none) hR0 hT0 hN0 hW0 M1 hX (by rw [h7, ← hE, e0]) g10 g11
    first | refine E_aload_n d_TM_nextToken_0 rfl ?_ | refine E_aload_nN d_TM_nextToken_0 rfl ?_
    first | refine E_aload_n d_TM_nextToken_1 rfl ?_ | refine E_aload_nN d_TM_nextToken_1 rfl ?_
    refine E_getI d_TM_nextToken_2 gf_TM_84 (by exact ⟨by decide, rfl⟩) (by exact h7) ?_
    refine E_V1 (sb) d_TM_nextToken_5 ml_TM_87 cb_TM_byteAt cv_TM_byteAt (by exact ⟨by decide, rfl⟩) ⟨by decide, rfl⟩ ⟨by decide, by decide⟩ rfl (Nat.le_of_ble_eq_true rfl) (Nat.le_of_ble_eq_true rfl) (kI fun r1 M1 hc => ?_)
    obtain ⟨rfl, rfl⟩ := hc
    refine E_bipush (v := nI 32) d_TM_nextToken_8 (by decide) ?_
    first | (with_reducible refine E_isN2 ?_; refine E_icmp_eq 26 d_TM_nextToken_10 rfl (nb_eq (by omega) (by omega) fun h10 => ?_) (nb_ne fun h10 => ?_)) | refine E_icmp_eq 26 d_TM_nextToken_10 rfl (fun h10 => ?_) (fun h10 => ?_)
    · exfalso; exact absurd h10 (by decide)
    first | refine E_aload_n d_TM_nextToken_13 rfl ?_ | refine E_aload_nN d_TM_nextToken_13 rfl ?_
    first | refine E_aload_n d_TM_nextToken_14 rfl ?_ | refine E_aload_nN d_TM_nextToken_14 rfl ?_
    refine E_getI d_TM_nextToken_15 gf_TM_84 (by exact ⟨by decide, rfl⟩) (by exact h7) ?_
    refine E_V1 (sb) d_TM_nextToken_18 ml_TM_87 cb_TM_byteAt cv_TM_byteAt (by exact ⟨by decide, rfl⟩) ⟨by decide, rfl⟩ ⟨by decide, by decide⟩ rfl (Nat.le_of_ble_eq_true rfl) (Nat.le_of_ble_eq_true rfl) (kI fun r1 M1 hc => ?_)
    obtain ⟨rfl, rfl⟩ := hc
    refine E_bipush (v := nI 10) d_TM_nextToken_21 (by decide) ?_
    first | (with_reducible refine E_isN2 ?_; refine E_icmp_ne 39 d_TM_nextToken_23 rfl (nb_ne fun h23 => ?_) (nb_eq (by omega) (by omega) fun h23 => ?_)) | refine E_icmp_ne 39 d_TM_nextToken_23 rfl (fun h23 => ?_) (fun h23 => ?_)
    rotate_left
    · exfalso; exact absurd h23 (by decide)
    exact KK
  | succ j ih =>
    intro i M1 hj hi hE hX h7 g10 g11
    have hR := hR0.fx hX
    have hT := hT0.fx hX (by unfold Jn; omega) (fun q => q)
    have hil : i < l.length := by omega
    have hb := hT.b hil
    have sb := sp_TM_byteAt hR hT hil
    by_cases hbl : isB (l.getD i 0) = true
    · have e1 : rl isB l i = rl isB l (i + 1) := rl_step hil hbl
      have hbb := isB_iff.mp hbl
      have KK := ih (i + 1) (wI M1 0 7 (nI (i + 1))) (by omega) hil (e1.symm.trans hE) (hX.wI (by unfold Jn; omega)) (by rw [mI_wa, if_pos rfl]) (by rw [mI_wa, if_neg (by decide)]; exact g10) g11
      generalize hbb : l.getD i 0 = b at *
      first | refine E_aload_n d_TM_nextToken_0 rfl ?_ | refine E_aload_nN d_TM_nextToken_0 rfl ?_
      first | refine E_aload_n d_TM_nextToken_1 rfl ?_ | refine E_aload_nN d_TM_nextToken_1 rfl ?_
      refine E_getI d_TM_nextToken_2 gf_TM_84 (by exact ⟨by decide, rfl⟩) (by exact h7) ?_
      refine E_V1 (sb) d_TM_nextToken_5 ml_TM_87 cb_TM_byteAt cv_TM_byteAt (by exact ⟨by decide, rfl⟩) ⟨by decide, rfl⟩ ⟨by decide, by decide⟩ rfl (Nat.le_of_ble_eq_true rfl) (Nat.le_of_ble_eq_true rfl) (kI fun r1 M1 hc => ?_)
      obtain ⟨rfl, rfl⟩ := hc
      refine E_bipush (v := nI 32) d_TM_nextToken_8 (by decide) ?_
      first | (with_reducible refine E_isN2 ?_; refine E_icmp_eq 26 d_TM_nextToken_10 rfl (nb_eq (by omega) (by omega) fun h10 => ?_) (nb_ne fun h10 => ?_)) | refine E_icmp_eq 26 d_TM_nextToken_10 rfl (fun h10 => ?_) (fun h10 => ?_)
      · first | refine E_aload_n d_TM_nextToken_26 rfl ?_ | refine E_aload_nN d_TM_nextToken_26 rfl ?_
        refine E_dup d_TM_nextToken_27 rfl ?_
        refine E_getI d_TM_nextToken_28 gf_TM_84 (by exact ⟨by decide, rfl⟩) (by exact h7) ?_
        refine E_iconst (v := nI 1) d_TM_nextToken_31 rfl ?_
        first | (with_reducible refine E_isN2 ?_; refine E_iaddN d_TM_nextToken_32 ?_) | refine E_iadd d_TM_nextToken_32 ?_
        refine E_putI d_TM_nextToken_33 gf_TM_84 (by exact ⟨by decide, rfl⟩) rfl rfl ?_
        refine E_goto 0 d_TM_nextToken_36 rfl ?_
        exact KK
      · first | refine E_aload_n d_TM_nextToken_13 rfl ?_ | refine E_aload_nN d_TM_nextToken_13 rfl ?_
        first | refine E_aload_n d_TM_nextToken_14 rfl ?_ | refine E_aload_nN d_TM_nextToken_14 rfl ?_
        refine E_getI d_TM_nextToken_15 gf_TM_84 (by exact ⟨by decide, rfl⟩) (by exact h7) ?_
        refine E_V1 (sb) d_TM_nextToken_18 ml_TM_87 cb_TM_byteAt cv_TM_byteAt (by exact ⟨by decide, rfl⟩) ⟨by decide, rfl⟩ ⟨by decide, by decide⟩ rfl (Nat.le_of_ble_eq_true rfl) (Nat.le_of_ble_eq_true rfl) (kI fun r1 M1 hc => ?_)
        obtain ⟨rfl, rfl⟩ := hc
        refine E_bipush (v := nI 10) d_TM_nextToken_21 (by decide) ?_
        first | (with_reducible refine E_isN2 ?_; refine E_icmp_ne 39 d_TM_nextToken_23 rfl (nb_ne fun h23 => ?_) (nb_eq (by omega) (by omega) fun h23 => ?_)) | refine E_icmp_ne 39 d_TM_nextToken_23 rfl (fun h23 => ?_) (fun h23 => ?_)
        · exfalso; omega
        · first | refine E_aload_n d_TM_nextToken_26 rfl ?_ | refine E_aload_nN d_TM_nextToken_26 rfl ?_
          refine E_dup d_TM_nextToken_27 rfl ?_
          refine E_getI d_TM_nextToken_28 gf_TM_84 (by exact ⟨by decide, rfl⟩) (by exact h7) ?_
          refine E_iconst (v := nI 1) d_TM_nextToken_31 rfl ?_
          first | (with_reducible refine E_isN2 ?_; refine E_iaddN d_TM_nextToken_32 ?_) | refine E_iadd d_TM_nextToken_32 ?_
          refine E_putI d_TM_nextToken_33 gf_TM_84 (by exact ⟨by decide, rfl⟩) rfl rfl ?_
          refine E_goto 0 d_TM_nextToken_36 rfl ?_
          exact KK
    · have e0 : rl isB l i = i := rl_stop (fun q => hbl q.2)
      have hn : ¬ (l.getD i 0 = 32 ∨ l.getD i 0 = 10) := fun q => hbl (isB_iff.mpr q)
      have KK := kp_TM_next (x := none) hR0 hT0 hN0 hW0 M1 hX (by rw [h7, ← hE, e0]) g10 g11
      generalize hbb : l.getD i 0 = b at *
      first | refine E_aload_n d_TM_nextToken_0 rfl ?_ | refine E_aload_nN d_TM_nextToken_0 rfl ?_
      first | refine E_aload_n d_TM_nextToken_1 rfl ?_ | refine E_aload_nN d_TM_nextToken_1 rfl ?_
      refine E_getI d_TM_nextToken_2 gf_TM_84 (by exact ⟨by decide, rfl⟩) (by exact h7) ?_
      refine E_V1 (sb) d_TM_nextToken_5 ml_TM_87 cb_TM_byteAt cv_TM_byteAt (by exact ⟨by decide, rfl⟩) ⟨by decide, rfl⟩ ⟨by decide, by decide⟩ rfl (Nat.le_of_ble_eq_true rfl) (Nat.le_of_ble_eq_true rfl) (kI fun r1 M1 hc => ?_)
      obtain ⟨rfl, rfl⟩ := hc
      refine E_bipush (v := nI 32) d_TM_nextToken_8 (by decide) ?_
      first | (with_reducible refine E_isN2 ?_; refine E_icmp_eq 26 d_TM_nextToken_10 rfl (nb_eq (by omega) (by omega) fun h10 => ?_) (nb_ne fun h10 => ?_)) | refine E_icmp_eq 26 d_TM_nextToken_10 rfl (fun h10 => ?_) (fun h10 => ?_)
      · exfalso; omega
      first | refine E_aload_n d_TM_nextToken_13 rfl ?_ | refine E_aload_nN d_TM_nextToken_13 rfl ?_
      first | refine E_aload_n d_TM_nextToken_14 rfl ?_ | refine E_aload_nN d_TM_nextToken_14 rfl ?_
      refine E_getI d_TM_nextToken_15 gf_TM_84 (by exact ⟨by decide, rfl⟩) (by exact h7) ?_
      refine E_V1 (sb) d_TM_nextToken_18 ml_TM_87 cb_TM_byteAt cv_TM_byteAt (by exact ⟨by decide, rfl⟩) ⟨by decide, rfl⟩ ⟨by decide, by decide⟩ rfl (Nat.le_of_ble_eq_true rfl) (Nat.le_of_ble_eq_true rfl) (kI fun r1 M1 hc => ?_)
      obtain ⟨rfl, rfl⟩ := hc
      refine E_bipush (v := nI 10) d_TM_nextToken_21 (by decide) ?_
      first | (with_reducible refine E_isN2 ?_; refine E_icmp_ne 39 d_TM_nextToken_23 rfl (nb_ne fun h23 => ?_) (nb_eq (by omega) (by omega) fun h23 => ?_)) | refine E_icmp_ne 39 d_TM_nextToken_23 rfl (fun h23 => ?_) (fun h23 => ?_)
      rotate_left
      · exfalso; omega
      exact KK
theorem sp_TM_next {l : List Nat} {k : Nat} (hR : MR M) (hT : TapeM l M) (h : TKM l k M) : E 1 0 0 Y_TM_nextToken 0 [some (.ref 0), none] [] GM M (QV GM fun M' => TKM l (k + 1) M' ∧ Fx Jn An M M') := by
  obtain ⟨-, h7, t, n, w, -, h10, h11, -, -, -, -, hn, hw⟩ := h
  exact sp_TM_next0 hR hT hn hw h10 h11 _ (EE l k) M rfl (EE_le l k) rfl Fx.rf h7 h10 h11
end LXn
