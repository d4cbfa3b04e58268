section RDi
variable {G : Geo} {M : Mem} {l : List Nat} {sw : Nat}
def JC (j : Nat) : Prop := 6 ≤ j
def AC (a : Nat) : Prop := 226 ≤ a ∧ a ≤ 230
theorem AC.o {a : Nat} (h : AC a) : a < 222 ∨ 224 < a := by unfold AC at h; omega
theorem Fo.jc {M1 : Mem} (h : Fo 225 JR AR M M1) : Fo 225 JC AC M M1 := h.wk (fun j q => by unfold JR at q; unfold JC; omega) (fun a q => by unfold AR at q; unfold AC; omega)
def RQ (l : List Nat) (s b n : Nat) (r : RR) (M M' : Mem) : Prop :=
  Fo 225 JC AC M M' ∧ (r.f ≠ 0 → FS l r.f r.k M') ∧ (r.f = 0 → RS l s r.k (b + qlen r.q) M' ∧ mI M' 225 6 = mI M 225 6 ∧ mI M' 226 = mI M 226 ∧ (∀ i, i ≠ n → mI M' 227 i = mI M 227 i ∧ mI M' 228 i = mI M 228 i) ∧ kpB b M M' ∧
    (2 ≤ s → mI M' 227 n = nI r.a ∧ (s ≤ 4 → mI M' 228 n = nI r.b)) ∧ (s ≠ 0 → mI M' 225 8 = mI M 225 8 ∧ mI M' 225 9 = mI M 225 9) ∧ (s ≠ 1 → mI M' 225 10 = mI M 225 10 ∧ mI M' 225 11 = mI M 225 11) ∧
    (s = 0 → mI M' 225 8 = nI b ∧ mI M' 225 9 = nI (b + qlen r.q) ∧ ∀ q, r.q = some q → cdAt q.2 b M') ∧ (s = 1 → mI M' 225 10 = nI b ∧ mI M' 225 11 = nI (b + qlen r.q) ∧ ∀ q, r.q = some q → cdAt q.2 b M'))
theorem sp_Re_readNumber (hG : GC G) {k b n a lo hi : Nat} (h : RS l sw k b M) (h3 : l.length ≤ 300) (hn : mI M 225 6 = nI n) (hn24 : n < 24) (ha : a = 227 ∨ a = 228) (hlo : lo ≤ 60) (hhi : hi ≤ 60) : E 2 0 0 Y_Re_readNumber 0 [some (.ref 225), some (.ref a), some (.int (nI lo)), some (.int (nI hi))] [] G M (QV G fun M' => (numF (SS l) (VV l) lo hi k = 0 → RS l sw (k + 1) b M' ∧ mI M' a n = nI (VV l k) ∧ ∀ i, i ≠ n → mI M' a i = mI M a i) ∧ (numF (SS l) (VV l) lo hi k ≠ 0 → FS l (numF (SS l) (VV l) lo hi k) k M') ∧ Fo 225 (fun j => 13 ≤ j ∧ j ≤ 17) (fun c => c = a) M M') := by
  have hR := h.R
  have hsr := SS_rg l k
  have hvr := VV_le l k
  have hs : Sh G a (1, 24) := by rcases ha with rfl | rfl <;> exact hG.s (by decide) rfl
  have hne : a ≠ 225 := by omega
  by_cases c1 : SS l k ≠ 39
  · have e : numF (SS l) (VV l) lo hi k = 1 := by unfold numF; rw [if_pos c1]
    rw [e]
    first | refine E_aload_n d_Re_readNumber_0 rfl ?_ | refine E_aload_nN d_Re_readNumber_0 rfl ?_
    refine E_getI d_Re_readNumber_1 gf_Re_44 (by exact hG.s (by decide) rfl) (by exact h.f) ?_
    first | (with_reducible refine E_isP ?_; refine E_if_eq 8 d_Re_readNumber_4 rfl (pb_0 fun h4 => ?_) (pb_1 fun h4 => ?_)) | (with_reducible refine E_isN1 ?_; refine E_if_eq 8 d_Re_readNumber_4 rfl (nz_eq (by omega) fun h4 => ?_) (nz_ne fun h4 => ?_)) | refine E_if_eq 8 d_Re_readNumber_4 rfl (fun h4 => ?_) (fun h4 => ?_)
    rotate_left
    · exfalso; omega
    first | refine E_aload_n d_Re_readNumber_8 rfl ?_ | refine E_aload_nN d_Re_readNumber_8 rfl ?_
    refine E_getI d_Re_readNumber_9 gf_Re_61 (by exact hG.s (by decide) rfl) (by exact h.s) ?_
    refine E_bipush (v := nI 39) d_Re_readNumber_12 (by decide) ?_
    first | (with_reducible refine E_isN2 ?_; refine E_icmp_eq 25 d_Re_readNumber_14 rfl (nb_eq (by omega) (by omega) fun h14 => ?_) (nb_ne fun h14 => ?_)) | refine E_icmp_eq 25 d_Re_readNumber_14 rfl (fun h14 => ?_) (fun h14 => ?_)
    · exfalso; omega
    first | refine E_aload_n d_Re_readNumber_17 rfl ?_ | refine E_aload_nN d_Re_readNumber_17 rfl ?_
    refine E_iconst (v := nI 1) d_Re_readNumber_18 rfl ?_
    refine E_V1 (sp_Re_fail (f := 1) hG h h3 (by decide) (by decide)) d_Re_readNumber_19 ml_Re_108 cb_Re_fail cv_Re_fail (by exact hG.s (by decide) rfl) ⟨by decide, rfl⟩ ⟨by decide, by decide⟩ rfl (Nat.le_of_ble_eq_true rfl) (Nat.le_of_ble_eq_true rfl) (kV fun M1 hc => ?_)
    skip
    refine E_goto 65 d_Re_readNumber_22 rfl ?_
    refine E_retV d_Re_readNumber_65 rfl ?_
    exact ⟨fun q => absurd q (by decide), fun _ => hc.1, hc.2.wk (fun j q => by unfold J2 at q; omega) (fun _ q => absurd q (fun z => z))⟩
  · by_cases c2 : VV l k < lo ∨ hi < VV l k
    · have e : numF (SS l) (VV l) lo hi k = 2 := by unfold numF; rw [if_neg c1, if_pos c2]
      rw [e]
      first | refine E_aload_n d_Re_readNumber_0 rfl ?_ | refine E_aload_nN d_Re_readNumber_0 rfl ?_
      refine E_getI d_Re_readNumber_1 gf_Re_44 (by exact hG.s (by decide) rfl) (by exact h.f) ?_
      first | (with_reducible refine E_isP ?_; refine E_if_eq 8 d_Re_readNumber_4 rfl (pb_0 fun h4 => ?_) (pb_1 fun h4 => ?_)) | (with_reducible refine E_isN1 ?_; refine E_if_eq 8 d_Re_readNumber_4 rfl (nz_eq (by omega) fun h4 => ?_) (nz_ne fun h4 => ?_)) | refine E_if_eq 8 d_Re_readNumber_4 rfl (fun h4 => ?_) (fun h4 => ?_)
      rotate_left
      · exfalso; omega
      first | refine E_aload_n d_Re_readNumber_8 rfl ?_ | refine E_aload_nN d_Re_readNumber_8 rfl ?_
      refine E_getI d_Re_readNumber_9 gf_Re_61 (by exact hG.s (by decide) rfl) (by exact h.s) ?_
      refine E_bipush (v := nI 39) d_Re_readNumber_12 (by decide) ?_
      first | (with_reducible refine E_isN2 ?_; refine E_icmp_eq 25 d_Re_readNumber_14 rfl (nb_eq (by omega) (by omega) fun h14 => ?_) (nb_ne fun h14 => ?_)) | refine E_icmp_eq 25 d_Re_readNumber_14 rfl (fun h14 => ?_) (fun h14 => ?_)
      rotate_left
      · exfalso; omega
      first | refine E_aload_n d_Re_readNumber_25 rfl ?_ | refine E_aload_nN d_Re_readNumber_25 rfl ?_
      refine E_getI d_Re_readNumber_26 gf_Re_102 (by exact hG.s (by decide) rfl) (by exact h.w) ?_
      refine E_iload_n d_Re_readNumber_29 rfl ?_
      first | (with_reducible refine E_isN2 ?_; refine E_icmp_lt 41 d_Re_readNumber_30 rfl (nb_lt (by omega) (by omega) fun h30 => ?_) (nb_nlt (by omega) (by omega) fun h30 => ?_)) | refine E_icmp_lt 41 d_Re_readNumber_30 rfl (fun h30 => ?_) (fun h30 => ?_)
      · first | refine E_aload_n d_Re_readNumber_41 rfl ?_ | refine E_aload_nN d_Re_readNumber_41 rfl ?_
        refine E_iconst (v := nI 2) d_Re_readNumber_42 rfl ?_
        refine E_V1 (sp_Re_fail (f := 2) hG h h3 (by decide) (by decide)) d_Re_readNumber_43 ml_Re_108 cb_Re_fail cv_Re_fail (by exact hG.s (by decide) rfl) ⟨by decide, rfl⟩ ⟨by decide, by decide⟩ rfl (Nat.le_of_ble_eq_true rfl) (Nat.le_of_ble_eq_true rfl) (kV fun M1 hc => ?_)
        skip
        refine E_goto 65 d_Re_readNumber_46 rfl ?_
        refine E_retV d_Re_readNumber_65 rfl ?_
        exact ⟨fun q => absurd q (by decide), fun _ => hc.1, hc.2.wk (fun j q => by unfold J2 at q; omega) (fun _ q => absurd q (fun z => z))⟩
      · first | refine E_aload_n d_Re_readNumber_33 rfl ?_ | refine E_aload_nN d_Re_readNumber_33 rfl ?_
        refine E_getI d_Re_readNumber_34 gf_Re_102 (by exact hG.s (by decide) rfl) (by exact h.w) ?_
        refine E_iload_n d_Re_readNumber_37 rfl ?_
        first | (with_reducible refine E_isN2 ?_; refine E_icmp_le 49 d_Re_readNumber_38 rfl (nb_le (by omega) (by omega) fun h38 => ?_) (nb_nle (by omega) (by omega) fun h38 => ?_)) | refine E_icmp_le 49 d_Re_readNumber_38 rfl (fun h38 => ?_) (fun h38 => ?_)
        · exfalso; omega
        first | refine E_aload_n d_Re_readNumber_41 rfl ?_ | refine E_aload_nN d_Re_readNumber_41 rfl ?_
        refine E_iconst (v := nI 2) d_Re_readNumber_42 rfl ?_
        refine E_V1 (sp_Re_fail (f := 2) hG h h3 (by decide) (by decide)) d_Re_readNumber_43 ml_Re_108 cb_Re_fail cv_Re_fail (by exact hG.s (by decide) rfl) ⟨by decide, rfl⟩ ⟨by decide, by decide⟩ rfl (Nat.le_of_ble_eq_true rfl) (Nat.le_of_ble_eq_true rfl) (kV fun M1 hc => ?_)
        skip
        refine E_goto 65 d_Re_readNumber_46 rfl ?_
        refine E_retV d_Re_readNumber_65 rfl ?_
        exact ⟨fun q => absurd q (by decide), fun _ => hc.1, hc.2.wk (fun j q => by unfold J2 at q; omega) (fun _ q => absurd q (fun z => z))⟩
    · have e : numF (SS l) (VV l) lo hi k = 0 := by unfold numF; rw [if_neg c1, if_neg c2]
      rw [e]
      have hX : Fo 225 (fun j => 13 ≤ j ∧ j ≤ 17) (fun c => c = a) M (wI M a n (nI (VV l k))) := Fo.rf.wJ hne rfl
      have e25 : mI (wI M a n (nI (VV l k))) 225 = mI M 225 := mI_ne (Ne.symm hne)
      have h2 : RS l sw k b (wI M a n (nI (VV l k))) := ⟨hR.fo hX, h.T.fo hX (by decide) (fun c q => by omega), h.v, by rw [e25]; exact h.n, by rw [e25]; exact h.s, by rw [e25]; exact h.w, by rw [e25]; exact h.f, by rw [e25]; exact h.z, by rw [e25]; exact h.law, by rw [e25]; exact h.p⟩
      first | refine E_aload_n d_Re_readNumber_0 rfl ?_ | refine E_aload_nN d_Re_readNumber_0 rfl ?_
      refine E_getI d_Re_readNumber_1 gf_Re_44 (by exact hG.s (by decide) rfl) (by exact h.f) ?_
      first | (with_reducible refine E_isP ?_; refine E_if_eq 8 d_Re_readNumber_4 rfl (pb_0 fun h4 => ?_) (pb_1 fun h4 => ?_)) | (with_reducible refine E_isN1 ?_; refine E_if_eq 8 d_Re_readNumber_4 rfl (nz_eq (by omega) fun h4 => ?_) (nz_ne fun h4 => ?_)) | refine E_if_eq 8 d_Re_readNumber_4 rfl (fun h4 => ?_) (fun h4 => ?_)
      rotate_left
      · exfalso; omega
      first | refine E_aload_n d_Re_readNumber_8 rfl ?_ | refine E_aload_nN d_Re_readNumber_8 rfl ?_
      refine E_getI d_Re_readNumber_9 gf_Re_61 (by exact hG.s (by decide) rfl) (by exact h.s) ?_
      refine E_bipush (v := nI 39) d_Re_readNumber_12 (by decide) ?_
      first | (with_reducible refine E_isN2 ?_; refine E_icmp_eq 25 d_Re_readNumber_14 rfl (nb_eq (by omega) (by omega) fun h14 => ?_) (nb_ne fun h14 => ?_)) | refine E_icmp_eq 25 d_Re_readNumber_14 rfl (fun h14 => ?_) (fun h14 => ?_)
      rotate_left
      · exfalso; omega
      first | refine E_aload_n d_Re_readNumber_25 rfl ?_ | refine E_aload_nN d_Re_readNumber_25 rfl ?_
      refine E_getI d_Re_readNumber_26 gf_Re_102 (by exact hG.s (by decide) rfl) (by exact h.w) ?_
      refine E_iload_n d_Re_readNumber_29 rfl ?_
      first | (with_reducible refine E_isN2 ?_; refine E_icmp_lt 41 d_Re_readNumber_30 rfl (nb_lt (by omega) (by omega) fun h30 => ?_) (nb_nlt (by omega) (by omega) fun h30 => ?_)) | refine E_icmp_lt 41 d_Re_readNumber_30 rfl (fun h30 => ?_) (fun h30 => ?_)
      · exfalso; omega
      first | refine E_aload_n d_Re_readNumber_33 rfl ?_ | refine E_aload_nN d_Re_readNumber_33 rfl ?_
      refine E_getI d_Re_readNumber_34 gf_Re_102 (by exact hG.s (by decide) rfl) (by exact h.w) ?_
      refine E_iload_n d_Re_readNumber_37 rfl ?_
      first | (with_reducible refine E_isN2 ?_; refine E_icmp_le 49 d_Re_readNumber_38 rfl (nb_le (by omega) (by omega) fun h38 => ?_) (nb_nle (by omega) (by omega) fun h38 => ?_)) | refine E_icmp_le 49 d_Re_readNumber_38 rfl (fun h38 => ?_) (fun h38 => ?_)
      rotate_left
      · exfalso; omega
      first | refine E_aload_n d_Re_readNumber_49 rfl ?_ | refine E_aload_nN d_Re_readNumber_49 rfl ?_
      first | refine E_aload_n d_Re_readNumber_50 rfl ?_ | refine E_aload_nN d_Re_readNumber_50 rfl ?_
      refine E_getI d_Re_readNumber_51 gf_Re_31 (by exact hG.s (by decide) rfl) (by exact hn) ?_
      first | refine E_aload_n d_Re_readNumber_54 rfl ?_ | refine E_aload_nN d_Re_readNumber_54 rfl ?_
      refine E_getI d_Re_readNumber_55 gf_Re_102 (by exact hG.s (by decide) rfl) (by exact h.w) ?_
      refine E_SN3 (sp_TP_put hs (by decide) hn24) d_Re_readNumber_58 nl_Re_119 cb_TP_put cs_TP_put ⟨by decide, by decide⟩ rfl (Nat.le_of_ble_eq_true rfl) (Nat.le_of_ble_eq_true rfl) (kV fun M1 hc => ?_)
      subst hc
      first | refine E_aload_n d_Re_readNumber_61 rfl ?_ | refine E_aload_nN d_Re_readNumber_61 rfl ?_
      refine E_V0 (sp_Re_advance hG h2 h3 (by omega)) d_Re_readNumber_62 ml_Re_58 cb_Re_advance cv_Re_advance (by exact hG.s (by decide) rfl) ⟨by decide, rfl⟩ ⟨by decide, by decide⟩ rfl (Nat.le_of_ble_eq_true rfl) (Nat.le_of_ble_eq_true rfl) (kV fun M1 hc => ?_)
      obtain ⟨q1, q2⟩ := hc
      refine E_retV d_Re_readNumber_65 rfl ?_
      refine ⟨fun _ => ⟨q1, ?_, fun i hi => ?_⟩, fun q => absurd rfl q, hX.tr (q2.wk (fun j q => by unfold J1 at q; omega) (fun _ q => absurd q (fun z => z)))⟩
      · rw [q2.2.1 a hne (fun z => z), mI_wa, if_pos rfl]
      · rw [q2.2.1 a hne (fun z => z), mI_wa, if_neg hi]
theorem sp_Re_readNumberF (hG : GC G) {f p : Nat} {a : Nat} {x y : Int32} (h : FS l f p M) : E 2 0 0 Y_Re_readNumber 0 [some (.ref 225), some (.ref a), some (.int x), some (.int y)] [] G M (QV G fun M' => M' = M) := by
  have hR := h.1
  have hf0 := h.2.2.2.2.1
  have hf6 := h.2.2.2.2.2
  first | refine E_aload_n d_Re_readNumber_0 rfl ?_ | refine E_aload_nN d_Re_readNumber_0 rfl ?_
  refine E_getI d_Re_readNumber_1 gf_Re_44 (by exact hG.s (by decide) rfl) (by exact h.2.2.1) ?_
  first | (with_reducible refine E_isP ?_; refine E_if_eq 8 d_Re_readNumber_4 rfl (pb_0 fun h4 => ?_) (pb_1 fun h4 => ?_)) | (with_reducible refine E_isN1 ?_; refine E_if_eq 8 d_Re_readNumber_4 rfl (nz_eq (by omega) fun h4 => ?_) (nz_ne fun h4 => ?_)) | refine E_if_eq 8 d_Re_readNumber_4 rfl (fun h4 => ?_) (fun h4 => ?_)
  · exfalso; omega
  refine E_retV d_Re_readNumber_7 rfl ?_
  rfl
theorem RQ.fl {s b n f k : Nat} {r : RR} {M1 : Mem} (e : r.f = f ∧ r.k = k) (h : FS l f k M1) (hX : Fo 225 JC AC M M1) : RQ l s b n r M M1 := by
  obtain ⟨rfl, rfl⟩ := e
  exact ⟨hX, fun _ => h, fun q => absurd q h.2.2.2.2.1⟩
theorem Fo.nm {M1 : Mem} {a : Nat} (ha : a = 227 ∨ a = 228) (h : Fo 225 (fun j => 13 ≤ j ∧ j ≤ 17) (fun c => c = a) M M1) : Fo 225 JC AC M M1 := h.wk (fun j q => by have q : 13 ≤ j ∧ j ≤ 17 := q; unfold JC; omega) (fun c q => by have q : c = a := q; unfold AC; omega)
theorem Fo.tk {M1 : Mem} (h : Fo 225 (fun j => 13 ≤ j ∧ j ≤ 17) An M M1) : Fo 225 JC AC M M1 := h.wk (fun j q => by have q : 13 ≤ j ∧ j ≤ 17 := q; unfold JC; omega) (fun c q => absurd q (fun z => z))
end RDi
