def LawV (t : Option Tx) (r : Option Nat) (G : Geo) (M : Mem) : Prop := match t, r with
  | none, none => True
  | some x, some a => RepTxC x a G M
  | _, _ => False
theorem sp_Cr_textAt {c : Cr} {G : Geo} {M : Mem} (hC : CM c G M) (x : Int32) : E 0 0 0 Y_Cr_textAt 0 [some (.ref 1), some (.int x)] [] G M (QR G fun r M' => (inN x c.texts.length → LawV (some (txAt c (tN x))) r G M) ∧ (¬ inN x c.texts.length → r = none) ∧ M' = M) := by
  have hG := hC.G
  have hR := hC.R
  have h4 := hC.w.texts
  have et := hC.H.texts
  revert x
  refine args1 c.texts.length (fun t ht hx htn => ?_) (fun x hx => ?_)
  · obtain ⟨a, ha, hrep⟩ := hC.H.text ht
    have hL : LawV (some (txAt c t)) (some a) G M := hrep
    refine E_iload_n d_Cr_textAt_0 rfl ?_
    first | (with_reducible refine E_isN1 ?_; refine E_if_lt 30 d_Cr_textAt_1 rfl (nz_lt (by omega) fun h1 => ?_) (nz_nlt (by omega) fun h1 => ?_)) | refine E_if_lt 30 d_Cr_textAt_1 rfl (fun h1 => ?_) (fun h1 => ?_)
    · exfalso; exact absurd h1 (Nat.not_lt_zero t)
    refine E_iload_n d_Cr_textAt_4 rfl ?_
    first | refine E_aload_n d_Cr_textAt_5 rfl ?_ | refine E_aload_nN d_Cr_textAt_5 rfl ?_
    refine E_getI d_Cr_textAt_6 gf_Cr_75 (by first | exact hG.s (by decide) rfl | exact hG.m hma | exact hG.m1 hma | exact hs0) (by exact et) ?_
    first | (with_reducible refine E_isN2 ?_; refine E_icmp_ge 30 d_Cr_textAt_9 rfl (nb_le (by omega) (by omega) fun h9 => ?_) (nb_nle (by omega) (by omega) fun h9 => ?_)) | refine E_icmp_ge 30 d_Cr_textAt_9 rfl (fun h9 => ?_) (fun h9 => ?_)
    · exfalso; omega
    refine E_iload_n d_Cr_textAt_12 rfl ?_
    first | refine E_aload_n d_Cr_textAt_13 rfl ?_ | refine E_aload_nN d_Cr_textAt_13 rfl ?_
    refine E_getR d_Cr_textAt_14 gf_Cr_34 (by first | exact hG.s (by decide) rfl | exact hG.m hma | exact hG.m1 hma | exact hs0) (by first | exact hR.o rfl | exact hR.c cr1 rfl | exact hR.m0 hma) ?_
    refine E_alen d_Cr_textAt_17 (by first | exact hG.s (by decide) rfl | exact hG.m hma | exact hG.m1 hma | exact hs0) (by decide) rfl ?_
    first | (with_reducible refine E_isN2 ?_; refine E_icmp_ge 30 d_Cr_textAt_18 rfl (nb_le (by omega) (by omega) fun h18 => ?_) (nb_nle (by omega) (by omega) fun h18 => ?_)) | refine E_icmp_ge 30 d_Cr_textAt_18 rfl (fun h18 => ?_) (fun h18 => ?_)
    · exfalso; omega
    first | refine E_aload_n d_Cr_textAt_21 rfl ?_ | refine E_aload_nN d_Cr_textAt_21 rfl ?_
    refine E_getR d_Cr_textAt_22 gf_Cr_34 (by first | exact hG.s (by decide) rfl | exact hG.m hma | exact hG.m1 hma | exact hs0) (by first | exact hR.o rfl | exact hR.c cr1 rfl | exact hR.m0 hma) ?_
    refine E_iload_n d_Cr_textAt_25 rfl ?_
    first | refine E_aald4 d_Cr_textAt_26 (by first | exact hG.s (by decide) rfl | exact hG.m hma | exact hG.m1 hma | exact hs0) (by exact ⟨by with_reducible rfl, by omega, by decide⟩) (by exact ha) ?_ | refine E_aald5 d_Cr_textAt_26 (by first | exact hG.s (by decide) rfl | exact hG.m hma | exact hG.m1 hma | exact hs0) (by exact ⟨by with_reducible rfl, by omega, by decide⟩) (by exact ha) ?_
    refine E_goto 31 d_Cr_textAt_27 rfl ?_
    refine E_retR (r := some a) d_Cr_textAt_31 rfl rfl ?_
    exact ⟨fun _ => by rw [htn]; exact hL, fun q => absurd hx q, rfl⟩
  · have k1 : ¬ x < 0 → ¬ nI c.texts.length ≤ x → False := fun h h' => hx (by rw [lt_toInt] at h; rw [le_toInt, nI_toInt (by omega)] at h'; have := z32; unfold inN; omega)
    refine E_iload_n d_Cr_textAt_0 rfl ?_
    first | (with_reducible refine E_isN1 ?_; refine E_if_lt 30 d_Cr_textAt_1 rfl (nz_lt (by omega) fun h1 => ?_) (nz_nlt (by omega) fun h1 => ?_)) | refine E_if_lt 30 d_Cr_textAt_1 rfl (fun h1 => ?_) (fun h1 => ?_)
    · refine E_null d_Cr_textAt_30 ?_
      refine E_retR (r := none) d_Cr_textAt_31 rfl rfl ?_
      exact ⟨fun q => absurd q hx, fun _ => rfl, rfl⟩
    · refine E_iload_n d_Cr_textAt_4 rfl ?_
      first | refine E_aload_n d_Cr_textAt_5 rfl ?_ | refine E_aload_nN d_Cr_textAt_5 rfl ?_
      refine E_getI d_Cr_textAt_6 gf_Cr_75 (by first | exact hG.s (by decide) rfl | exact hG.m hma | exact hG.m1 hma | exact hs0) (by exact et) ?_
      first | (with_reducible refine E_isN2 ?_; refine E_icmp_ge 30 d_Cr_textAt_9 rfl (nb_le (by omega) (by omega) fun h9 => ?_) (nb_nle (by omega) (by omega) fun h9 => ?_)) | refine E_icmp_ge 30 d_Cr_textAt_9 rfl (fun h9 => ?_) (fun h9 => ?_)
      · refine E_null d_Cr_textAt_30 ?_
        refine E_retR (r := none) d_Cr_textAt_31 rfl rfl ?_
        exact ⟨fun q => absurd q hx, fun _ => rfl, rfl⟩
      · refine E_iload_n d_Cr_textAt_12 rfl ?_
        first | refine E_aload_n d_Cr_textAt_13 rfl ?_ | refine E_aload_nN d_Cr_textAt_13 rfl ?_
        refine E_getR d_Cr_textAt_14 gf_Cr_34 (by first | exact hG.s (by decide) rfl | exact hG.m hma | exact hG.m1 hma | exact hs0) (by first | exact hR.o rfl | exact hR.c cr1 rfl | exact hR.m0 hma) ?_
        refine E_alen d_Cr_textAt_17 (by first | exact hG.s (by decide) rfl | exact hG.m hma | exact hG.m1 hma | exact hs0) (by decide) rfl ?_
        first | (with_reducible refine E_isN2 ?_; refine E_icmp_ge 30 d_Cr_textAt_18 rfl (nb_le (by omega) (by omega) fun h18 => ?_) (nb_nle (by omega) (by omega) fun h18 => ?_)) | refine E_icmp_ge 30 d_Cr_textAt_18 rfl (fun h18 => ?_) (fun h18 => ?_)
        rotate_left
        · exfalso; exact k1 h1 h9
        refine E_null d_Cr_textAt_30 ?_
        refine E_retR (r := none) d_Cr_textAt_31 rfl rfl ?_
        exact ⟨fun q => absurd q hx, fun _ => rfl, rfl⟩
theorem sp_Cr_rulingText {c : Cr} {G : Geo} {M : Mem} (hC : CM c G M) : E 1 0 0 Y_Cr_rulingText 0 [some (.ref 1)] [] G M (QR G fun r M' => LawV (ruler c) r G M ∧ M' = M) := by
  have hG := hC.G
  have hR := hC.R
  have h4 := hC.w.texts
  have hru := hC.H.ruling
  have hwr := hC.w.ruling
  have e0 : ruler c = txO c c.ruling := rfl
  rw [e0]
  revert hru hwr
  generalize c.ruling = t
  intro hru hwr
  cases t with
  | none =>
    have hru : mI M 1 9 = -1 := hru
    have hn : ¬ inN (-1) c.texts.length := by unfold inN; have : (-1 : Int32).toInt = -1 := by decide
                                              omega
    first | refine E_aload_n d_Cr_rulingText_0 rfl ?_ | refine E_aload_nN d_Cr_rulingText_0 rfl ?_
    first | refine E_aload_n d_Cr_rulingText_1 rfl ?_ | refine E_aload_nN d_Cr_rulingText_1 rfl ?_
    refine E_getI d_Cr_rulingText_2 gf_Cr_38 (by first | exact hG.s (by decide) rfl | exact hG.m hma | exact hG.m1 hma | exact hs0) (by exact hru) ?_
    refine E_V1 (sp_Cr_textAt hC _) d_Cr_rulingText_5 ml_Cr_111 cb_Cr_textAt cv_Cr_textAt (by first | exact hG.s (by decide) rfl | exact hG.m hma | exact hG.m1 hma | exact hs0) ⟨by decide, rfl⟩ ⟨by decide, by decide⟩ rfl (Nat.le_of_ble_eq_true rfl) (Nat.le_of_ble_eq_true rfl) (kR fun r1 M1 hc => ?_)
    obtain ⟨-, q2, rfl⟩ := hc; rw [q2 hn]
    refine E_retR (r := none) d_Cr_rulingText_8 rfl rfl ?_
    exact ⟨trivial, rfl⟩
  | some t =>
    have ht := hwr t rfl
    have hru : mI M 1 9 = nI t := hru
    rw [txO_some ht]
    have hin : inN (nI t) c.texts.length := (inN_nI (by omega)).mpr ht
    first | refine E_aload_n d_Cr_rulingText_0 rfl ?_ | refine E_aload_nN d_Cr_rulingText_0 rfl ?_
    first | refine E_aload_n d_Cr_rulingText_1 rfl ?_ | refine E_aload_nN d_Cr_rulingText_1 rfl ?_
    refine E_getI d_Cr_rulingText_2 gf_Cr_38 (by first | exact hG.s (by decide) rfl | exact hG.m hma | exact hG.m1 hma | exact hs0) (by exact hru) ?_
    refine E_V1 (sp_Cr_textAt hC _) d_Cr_rulingText_5 ml_Cr_111 cb_Cr_textAt cv_Cr_textAt (by first | exact hG.s (by decide) rfl | exact hG.m hma | exact hG.m1 hma | exact hs0) ⟨by decide, rfl⟩ ⟨by decide, by decide⟩ rfl (Nat.le_of_ble_eq_true rfl) (Nat.le_of_ble_eq_true rfl) (kR fun r1 M1 hc => ?_)
    obtain ⟨q1, -, rfl⟩ := hc; have q1 := q1 hin; rw [tN_nI (by omega)] at q1
    refine E_retR (r := r1) d_Cr_rulingText_8 rfl rfl ?_
    exact ⟨q1, rfl⟩
def AB (c : Cr) (m : Mo) (ma : Nat) (G : Geo) (M : Mem) : Prop := CM c G M ∧ MoAd ma ∧ MoC m ma M ∧ Mok m ∧ m.people ≤ c.now.people
def SA (a : Nat) : Prop := a = 212 ∨ a = 213
theorem AB.sc {c : Cr} {m : Mo} {ma : Nat} {G : Geo} {M M' : Mem} (h : AB c m ma G M) (g : Sc SA M M') : AB c m ma G M' := by
  obtain ⟨h1, h2, h3, h4, h5⟩ := h
  have hlt := h2.lt
  have e : ∀ a, a ≠ 212 → a ≠ 213 → mI M' a = mI M a := fun a ha hb => (g.2 a (by unfold SA; omega)).1
  exact ⟨h1.sc g (fun a q => by unfold SA at q; omega), h2, h3.cg (e _ (by omega) (by omega)) (e _ (by unfold MoAd at h2; omega) (by unfold MoAd at h2; omega)) (e _ (by unfold MoAd at h2; omega) (by unfold MoAd at h2; omega)), h4, h5⟩
def askM (M : Mem) (ma p f y : Nat) : Mem := wI (wI (wI (wR M 212 2 (some ma)) 212 3 (nI p)) 212 4 (nI f)) 212 5 (nI y)
theorem askM_sc (M : Mem) (ma p f y : Nat) : Sc SA M (askM M ma p f y) := (((Sc.rf.wR).wI (Or.inl rfl)).wI (Or.inl rfl)).wI (Or.inl rfl)
theorem AB.ak {c : Cr} {m : Mo} {ma p f y : Nat} {G : Geo} {M : Mem} (h : AB c m ma G M) (hp : p < m.people) (hf : f ≤ 8) (hy : y ≤ 1) : AK c m ma p f y G (askM M ma p f y) := by
  obtain ⟨h1, h2, h3, h4, h5⟩ := h.sc (askM_sc M ma p f y)
  refine ⟨h1, h2, h3, h4, h5, hp, hf, hy, by show mR (wR M 212 2 (some ma)) 212 2 = _; rw [mR_wR, if_pos ⟨rfl, rfl⟩], ?_, ?_, ?_⟩
  · unfold askM; rw [mI_wa, if_neg (by decide), mI_wa, if_neg (by decide), mI_wa, if_pos rfl]
  · unfold askM; rw [mI_wa, if_neg (by decide), mI_wa, if_pos rfl]
  · unfold askM; rw [mI_wa, if_pos rfl]
theorem RepTxC.sc {x : Tx} {a : Nat} {G : Geo} {M M' : Mem} {P : Nat → Prop} (h : RepTxC x a G M) (g : Sc P M M') (hP : ∀ a, P a → a < 234) : RepTxC x a G M' := h.cg fun k hk => ⟨(g.2 k (fun q => by have := hP k q; omega)).1, funext fun j => g.1 k j (fun q => by omega)⟩
theorem SA.lt {a : Nat} (h : SA a) : a < 234 := by unfold SA at h; omega
theorem RepTxC.wk {x : Tx} {la : Nat} {c : Cr} {m : Mo} {ma p f y : Nat} {G : Geo} {M : Mem} (h : RepTxC x la G M) (hK : AK c m ma p f y G M) : ∃ kk, WK c m ma p f y G M la kk ∧ LawC x.says la 5 kk M ∧ LawC x.sways la 7 kk M := by
  obtain ⟨h1, h2, h3, h4, h5, h6, h7, k, h8, h9, h10, h11, h12⟩ := h
  exact ⟨k, ⟨hK, h1, h2, h9, h10, h8, h6 3 (by decide), h6 4 (by decide)⟩, h11, h12⟩
theorem sp_As_saysBySort {c : Cr} {m : Mo} {ma p f y : Nat} {G : Geo} {M : Mem} (hk : AK c m ma p f y G M) : E 1 0 0 Y_As_saysBySort 0 [some (.ref 212), none] [] G M (QI G fun r M' => r = pI (bySort c m p f = true) ∧ M' = M) := by
  obtain ⟨hC, hma, hm, hmk, hpl, hp, hf, hy, hmo, hp3, hf4, hy5⟩ := hk
  have hG := hC.G
  have hR := hC.R
  have hp8 := hmk.p8
  have hl9 := hmk.lean9 p
  have k1 : ∀ {P : Prop} [Decidable P], bySort c m p f = decide P → P → nI 1 = pI (bySort c m p f = true) := fun e h => (pI_t (by rw [e]; exact decide_eq_true h)).symm
  have k0 : ∀ {P : Prop} [Decidable P], bySort c m p f = decide P → ¬ P → nI 0 = pI (bySort c m p f = true) := fun e h => (pI_f (by rw [e]; intro q; exact h (of_decide_eq_true q))).symm
  have hs3 := hC.w.sort3 p
  have hso := hC.H.sort (show p < c.now.people by omega)
  have hs4 : c.sort p = 0 ∨ c.sort p = 1 ∨ c.sort p = 2 ∨ c.sort p = 3 := by omega
  have el := hm.lean hp
  rcases hs4 with h | h | h | h
  · have e : bySort c m p f = decide (4 < m.lean p) := by rw [bySort, h]; rfl
    rw [h] at hso
    first | refine E_aload_n d_As_saysBySort_0 rfl ?_ | refine E_aload_nN d_As_saysBySort_0 rfl ?_
    refine E_getR d_As_saysBySort_1 gf_As_25 (by first | exact hG.s (by decide) rfl | exact hG.m hma | exact hG.m1 hma | exact hs0) (by first | exact hmo | exact hR.o rfl | exact hR.c cr1 rfl | exact hR.m0 hma) ?_
    refine E_getR d_As_saysBySort_4 gf_As_63 (by first | exact hG.s (by decide) rfl | exact hG.m hma | exact hG.m1 hma | exact hs0) (by first | exact hmo | exact hR.o rfl | exact hR.c cr1 rfl | exact hR.m0 hma) ?_
    first | refine E_aload_n d_As_saysBySort_7 rfl ?_ | refine E_aload_nN d_As_saysBySort_7 rfl ?_
    refine E_getI d_As_saysBySort_8 gf_As_38 (by first | exact hG.s (by decide) rfl | exact hG.m hma | exact hG.m1 hma | exact hs0) (by first | exact hp3 | exact hf4 | exact hm.people) ?_
    refine E_SN2 (sp_TP_at (hG.m1 hma) (by decide) (by omega) el) d_As_saysBySort_11 nl_As_66 cb_TP_at cs_TP_at ⟨by decide, by decide⟩ rfl (Nat.le_of_ble_eq_true rfl) (Nat.le_of_ble_eq_true rfl) (kI fun r1 M1 hc => ?_)
    obtain ⟨rfl, rfl⟩ := hc
    refine E_istore_1 d_As_saysBySort_14 rfl ?_
    first | refine E_aload_n d_As_saysBySort_15 rfl ?_ | refine E_aload_nN d_As_saysBySort_15 rfl ?_
    refine E_getR d_As_saysBySort_16 gf_As_15 (by first | exact hG.s (by decide) rfl | exact hG.m hma | exact hG.m1 hma | exact hs0) (by first | exact hmo | exact hR.o rfl | exact hR.c cr1 rfl | exact hR.m0 hma) ?_
    refine E_getR d_As_saysBySort_19 gf_As_70 (by first | exact hG.s (by decide) rfl | exact hG.m hma | exact hG.m1 hma | exact hs0) (by first | exact hmo | exact hR.o rfl | exact hR.c cr1 rfl | exact hR.m0 hma) ?_
    first | refine E_aload_n d_As_saysBySort_22 rfl ?_ | refine E_aload_nN d_As_saysBySort_22 rfl ?_
    refine E_getI d_As_saysBySort_23 gf_As_38 (by first | exact hG.s (by decide) rfl | exact hG.m hma | exact hG.m1 hma | exact hs0) (by first | exact hp3 | exact hf4 | exact hm.people) ?_
    refine E_SN2 (sp_TP_at (hG.s (k := 1 + 4) (by decide) rfl) (by decide) (by omega) hso) d_As_saysBySort_26 nl_As_66 cb_TP_at cs_TP_at ⟨by decide, by decide⟩ rfl (Nat.le_of_ble_eq_true rfl) (Nat.le_of_ble_eq_true rfl) (kI fun r1 M1 hc => ?_)
    obtain ⟨rfl, rfl⟩ := hc
    refine E_tableIn 56 d_As_saysBySort_29 (by decide) (by decide) (by first | rfl | decide) rfl ?_
    refine E_iload_n d_As_saysBySort_56 rfl ?_
    refine E_iconst (v := nI 4) d_As_saysBySort_57 rfl ?_
    first | (with_reducible refine E_isN2 ?_; refine E_icmp_le 65 d_As_saysBySort_58 rfl (nb_le (by omega) (by omega) fun h58 => ?_) (nb_nle (by omega) (by omega) fun h58 => ?_)) | refine E_icmp_le 65 d_As_saysBySort_58 rfl (fun h58 => ?_) (fun h58 => ?_)
    · refine E_iconst (v := nI 0) d_As_saysBySort_65 rfl ?_
      refine E_retZ d_As_saysBySort_66 rfl (by decide) ?_
      first | exact ⟨k0 e (Nat.not_lt.mpr h58), rfl⟩ | exact ⟨k1 e h58, rfl⟩
    · refine E_iconst (v := nI 1) d_As_saysBySort_61 rfl ?_
      refine E_goto 66 d_As_saysBySort_62 rfl ?_
      refine E_retZ d_As_saysBySort_66 rfl (by decide) ?_
      first | exact ⟨k0 e (Nat.not_lt.mpr h58), rfl⟩ | exact ⟨k1 e h58, rfl⟩
  · have e : bySort c m p f = decide (m.people ≤ 2 * f) := by rw [bySort, h]; rfl
    have e1 : f * 2 < m.people → nI 0 = pI (bySort c m p f = true) := fun q => k0 e (by omega)
    have e2 : m.people ≤ f * 2 → nI 1 = pI (bySort c m p f = true) := fun q => k1 e (by omega)
    rw [h] at hso
    first | refine E_aload_n d_As_saysBySort_0 rfl ?_ | refine E_aload_nN d_As_saysBySort_0 rfl ?_
    refine E_getR d_As_saysBySort_1 gf_As_25 (by first | exact hG.s (by decide) rfl | exact hG.m hma | exact hG.m1 hma | exact hs0) (by first | exact hmo | exact hR.o rfl | exact hR.c cr1 rfl | exact hR.m0 hma) ?_
    refine E_getR d_As_saysBySort_4 gf_As_63 (by first | exact hG.s (by decide) rfl | exact hG.m hma | exact hG.m1 hma | exact hs0) (by first | exact hmo | exact hR.o rfl | exact hR.c cr1 rfl | exact hR.m0 hma) ?_
    first | refine E_aload_n d_As_saysBySort_7 rfl ?_ | refine E_aload_nN d_As_saysBySort_7 rfl ?_
    refine E_getI d_As_saysBySort_8 gf_As_38 (by first | exact hG.s (by decide) rfl | exact hG.m hma | exact hG.m1 hma | exact hs0) (by first | exact hp3 | exact hf4 | exact hm.people) ?_
    refine E_SN2 (sp_TP_at (hG.m1 hma) (by decide) (by omega) el) d_As_saysBySort_11 nl_As_66 cb_TP_at cs_TP_at ⟨by decide, by decide⟩ rfl (Nat.le_of_ble_eq_true rfl) (Nat.le_of_ble_eq_true rfl) (kI fun r1 M1 hc => ?_)
    obtain ⟨rfl, rfl⟩ := hc
    refine E_istore_1 d_As_saysBySort_14 rfl ?_
    first | refine E_aload_n d_As_saysBySort_15 rfl ?_ | refine E_aload_nN d_As_saysBySort_15 rfl ?_
    refine E_getR d_As_saysBySort_16 gf_As_15 (by first | exact hG.s (by decide) rfl | exact hG.m hma | exact hG.m1 hma | exact hs0) (by first | exact hmo | exact hR.o rfl | exact hR.c cr1 rfl | exact hR.m0 hma) ?_
    refine E_getR d_As_saysBySort_19 gf_As_70 (by first | exact hG.s (by decide) rfl | exact hG.m hma | exact hG.m1 hma | exact hs0) (by first | exact hmo | exact hR.o rfl | exact hR.c cr1 rfl | exact hR.m0 hma) ?_
    first | refine E_aload_n d_As_saysBySort_22 rfl ?_ | refine E_aload_nN d_As_saysBySort_22 rfl ?_
    refine E_getI d_As_saysBySort_23 gf_As_38 (by first | exact hG.s (by decide) rfl | exact hG.m hma | exact hG.m1 hma | exact hs0) (by first | exact hp3 | exact hf4 | exact hm.people) ?_
    refine E_SN2 (sp_TP_at (hG.s (k := 1 + 4) (by decide) rfl) (by decide) (by omega) hso) d_As_saysBySort_26 nl_As_66 cb_TP_at cs_TP_at ⟨by decide, by decide⟩ rfl (Nat.le_of_ble_eq_true rfl) (Nat.le_of_ble_eq_true rfl) (kI fun r1 M1 hc => ?_)
    obtain ⟨rfl, rfl⟩ := hc
    refine E_tableIn 67 d_As_saysBySort_29 (by decide) (by decide) (by first | rfl | decide) rfl ?_
    first | refine E_aload_n d_As_saysBySort_67 rfl ?_ | refine E_aload_nN d_As_saysBySort_67 rfl ?_
    refine E_getI d_As_saysBySort_68 gf_As_41 (by first | exact hG.s (by decide) rfl | exact hG.m hma | exact hG.m1 hma | exact hs0) (by first | exact hp3 | exact hf4 | exact hm.people) ?_
    refine E_iconst (v := nI 2) d_As_saysBySort_71 rfl ?_
    first | (with_reducible refine E_isN2 ?_; refine E_imulN d_As_saysBySort_72 ?_) | refine E_imul d_As_saysBySort_72 ?_
    first | refine E_aload_n d_As_saysBySort_73 rfl ?_ | refine E_aload_nN d_As_saysBySort_73 rfl ?_
    refine E_getR d_As_saysBySort_74 gf_As_25 (by first | exact hG.s (by decide) rfl | exact hG.m hma | exact hG.m1 hma | exact hs0) (by first | exact hmo | exact hR.o rfl | exact hR.c cr1 rfl | exact hR.m0 hma) ?_
    refine E_getI d_As_saysBySort_77 gf_As_28 (by first | exact hG.s (by decide) rfl | exact hG.m hma | exact hG.m1 hma | exact hs0) (by first | exact hp3 | exact hf4 | exact hm.people) ?_
    first | (with_reducible refine E_isN2 ?_; refine E_icmp_lt 87 d_As_saysBySort_80 rfl (nb_lt (by omega) (by omega) fun h80 => ?_) (nb_nlt (by omega) (by omega) fun h80 => ?_)) | refine E_icmp_lt 87 d_As_saysBySort_80 rfl (fun h80 => ?_) (fun h80 => ?_)
    · refine E_iconst (v := nI 0) d_As_saysBySort_87 rfl ?_
      refine E_retZ d_As_saysBySort_88 rfl (by decide) ?_
      first | exact ⟨e1 h80, rfl⟩ | exact ⟨e2 h80, rfl⟩
    · refine E_iconst (v := nI 1) d_As_saysBySort_83 rfl ?_
      refine E_goto 88 d_As_saysBySort_84 rfl ?_
      refine E_retZ d_As_saysBySort_88 rfl (by decide) ?_
      first | exact ⟨e1 h80, rfl⟩ | exact ⟨e2 h80, rfl⟩
  · have e : bySort c m p f = decide (2 * f < m.people) := by rw [bySort, h]; rfl
    have e1 : f * 2 < m.people → nI 1 = pI (bySort c m p f = true) := fun q => k1 e (by omega)
    have e2 : m.people ≤ f * 2 → nI 0 = pI (bySort c m p f = true) := fun q => k0 e (by omega)
    rw [h] at hso
    first | refine E_aload_n d_As_saysBySort_0 rfl ?_ | refine E_aload_nN d_As_saysBySort_0 rfl ?_
    refine E_getR d_As_saysBySort_1 gf_As_25 (by first | exact hG.s (by decide) rfl | exact hG.m hma | exact hG.m1 hma | exact hs0) (by first | exact hmo | exact hR.o rfl | exact hR.c cr1 rfl | exact hR.m0 hma) ?_
    refine E_getR d_As_saysBySort_4 gf_As_63 (by first | exact hG.s (by decide) rfl | exact hG.m hma | exact hG.m1 hma | exact hs0) (by first | exact hmo | exact hR.o rfl | exact hR.c cr1 rfl | exact hR.m0 hma) ?_
    first | refine E_aload_n d_As_saysBySort_7 rfl ?_ | refine E_aload_nN d_As_saysBySort_7 rfl ?_
    refine E_getI d_As_saysBySort_8 gf_As_38 (by first | exact hG.s (by decide) rfl | exact hG.m hma | exact hG.m1 hma | exact hs0) (by first | exact hp3 | exact hf4 | exact hm.people) ?_
    refine E_SN2 (sp_TP_at (hG.m1 hma) (by decide) (by omega) el) d_As_saysBySort_11 nl_As_66 cb_TP_at cs_TP_at ⟨by decide, by decide⟩ rfl (Nat.le_of_ble_eq_true rfl) (Nat.le_of_ble_eq_true rfl) (kI fun r1 M1 hc => ?_)
    obtain ⟨rfl, rfl⟩ := hc
    refine E_istore_1 d_As_saysBySort_14 rfl ?_
    first | refine E_aload_n d_As_saysBySort_15 rfl ?_ | refine E_aload_nN d_As_saysBySort_15 rfl ?_
    refine E_getR d_As_saysBySort_16 gf_As_15 (by first | exact hG.s (by decide) rfl | exact hG.m hma | exact hG.m1 hma | exact hs0) (by first | exact hmo | exact hR.o rfl | exact hR.c cr1 rfl | exact hR.m0 hma) ?_
    refine E_getR d_As_saysBySort_19 gf_As_70 (by first | exact hG.s (by decide) rfl | exact hG.m hma | exact hG.m1 hma | exact hs0) (by first | exact hmo | exact hR.o rfl | exact hR.c cr1 rfl | exact hR.m0 hma) ?_
    first | refine E_aload_n d_As_saysBySort_22 rfl ?_ | refine E_aload_nN d_As_saysBySort_22 rfl ?_
    refine E_getI d_As_saysBySort_23 gf_As_38 (by first | exact hG.s (by decide) rfl | exact hG.m hma | exact hG.m1 hma | exact hs0) (by first | exact hp3 | exact hf4 | exact hm.people) ?_
    refine E_SN2 (sp_TP_at (hG.s (k := 1 + 4) (by decide) rfl) (by decide) (by omega) hso) d_As_saysBySort_26 nl_As_66 cb_TP_at cs_TP_at ⟨by decide, by decide⟩ rfl (Nat.le_of_ble_eq_true rfl) (Nat.le_of_ble_eq_true rfl) (kI fun r1 M1 hc => ?_)
    obtain ⟨rfl, rfl⟩ := hc
    refine E_tableIn 89 d_As_saysBySort_29 (by decide) (by decide) (by first | rfl | decide) rfl ?_
    first | refine E_aload_n d_As_saysBySort_89 rfl ?_ | refine E_aload_nN d_As_saysBySort_89 rfl ?_
    refine E_getI d_As_saysBySort_90 gf_As_41 (by first | exact hG.s (by decide) rfl | exact hG.m hma | exact hG.m1 hma | exact hs0) (by first | exact hp3 | exact hf4 | exact hm.people) ?_
    refine E_iconst (v := nI 2) d_As_saysBySort_93 rfl ?_
    first | (with_reducible refine E_isN2 ?_; refine E_imulN d_As_saysBySort_94 ?_) | refine E_imul d_As_saysBySort_94 ?_
    first | refine E_aload_n d_As_saysBySort_95 rfl ?_ | refine E_aload_nN d_As_saysBySort_95 rfl ?_
    refine E_getR d_As_saysBySort_96 gf_As_25 (by first | exact hG.s (by decide) rfl | exact hG.m hma | exact hG.m1 hma | exact hs0) (by first | exact hmo | exact hR.o rfl | exact hR.c cr1 rfl | exact hR.m0 hma) ?_
    refine E_getI d_As_saysBySort_99 gf_As_28 (by first | exact hG.s (by decide) rfl | exact hG.m hma | exact hG.m1 hma | exact hs0) (by first | exact hp3 | exact hf4 | exact hm.people) ?_
    first | (with_reducible refine E_isN2 ?_; refine E_icmp_ge 109 d_As_saysBySort_102 rfl (nb_le (by omega) (by omega) fun h102 => ?_) (nb_nle (by omega) (by omega) fun h102 => ?_)) | refine E_icmp_ge 109 d_As_saysBySort_102 rfl (fun h102 => ?_) (fun h102 => ?_)
    · refine E_iconst (v := nI 0) d_As_saysBySort_109 rfl ?_
      refine E_retZ d_As_saysBySort_110 rfl (by decide) ?_
      first | exact ⟨e1 h102, rfl⟩ | exact ⟨e2 h102, rfl⟩
    · refine E_iconst (v := nI 1) d_As_saysBySort_105 rfl ?_
      refine E_goto 110 d_As_saysBySort_106 rfl ?_
      refine E_retZ d_As_saysBySort_110 rfl (by decide) ?_
      first | exact ⟨e1 h102, rfl⟩ | exact ⟨e2 h102, rfl⟩
  · have e : bySort c m p f = decide (f ≤ m.lean p + 2 ∧ m.lean p ≤ f + 2) := by rw [bySort, h]; rfl
    rw [h] at hso
    by_cases hfl : m.lean p ≤ f
    · have ha : (if 0 ≤ nI (f - m.lean p) then nI (f - m.lean p) else 0 - nI (f - m.lean p)) = nI (f - m.lean p) := if_pos ((nI_leI (a := 0) (by decide) (by omega)).mpr (Nat.zero_le _))
      have e1 : 2 < f - m.lean p → nI 0 = pI (bySort c m p f = true) := fun q => k0 e (by omega)
      have e2 : f - m.lean p ≤ 2 → nI 1 = pI (bySort c m p f = true) := fun q => k1 e (by omega)
      first | refine E_aload_n d_As_saysBySort_0 rfl ?_ | refine E_aload_nN d_As_saysBySort_0 rfl ?_
      refine E_getR d_As_saysBySort_1 gf_As_25 (by first | exact hG.s (by decide) rfl | exact hG.m hma | exact hG.m1 hma | exact hs0) (by first | exact hmo | exact hR.o rfl | exact hR.c cr1 rfl | exact hR.m0 hma) ?_
      refine E_getR d_As_saysBySort_4 gf_As_63 (by first | exact hG.s (by decide) rfl | exact hG.m hma | exact hG.m1 hma | exact hs0) (by first | exact hmo | exact hR.o rfl | exact hR.c cr1 rfl | exact hR.m0 hma) ?_
      first | refine E_aload_n d_As_saysBySort_7 rfl ?_ | refine E_aload_nN d_As_saysBySort_7 rfl ?_
      refine E_getI d_As_saysBySort_8 gf_As_38 (by first | exact hG.s (by decide) rfl | exact hG.m hma | exact hG.m1 hma | exact hs0) (by first | exact hp3 | exact hf4 | exact hm.people) ?_
      refine E_SN2 (sp_TP_at (hG.m1 hma) (by decide) (by omega) el) d_As_saysBySort_11 nl_As_66 cb_TP_at cs_TP_at ⟨by decide, by decide⟩ rfl (Nat.le_of_ble_eq_true rfl) (Nat.le_of_ble_eq_true rfl) (kI fun r1 M1 hc => ?_)
      obtain ⟨rfl, rfl⟩ := hc
      refine E_istore_1 d_As_saysBySort_14 rfl ?_
      first | refine E_aload_n d_As_saysBySort_15 rfl ?_ | refine E_aload_nN d_As_saysBySort_15 rfl ?_
      refine E_getR d_As_saysBySort_16 gf_As_15 (by first | exact hG.s (by decide) rfl | exact hG.m hma | exact hG.m1 hma | exact hs0) (by first | exact hmo | exact hR.o rfl | exact hR.c cr1 rfl | exact hR.m0 hma) ?_
      refine E_getR d_As_saysBySort_19 gf_As_70 (by first | exact hG.s (by decide) rfl | exact hG.m hma | exact hG.m1 hma | exact hs0) (by first | exact hmo | exact hR.o rfl | exact hR.c cr1 rfl | exact hR.m0 hma) ?_
      first | refine E_aload_n d_As_saysBySort_22 rfl ?_ | refine E_aload_nN d_As_saysBySort_22 rfl ?_
      refine E_getI d_As_saysBySort_23 gf_As_38 (by first | exact hG.s (by decide) rfl | exact hG.m hma | exact hG.m1 hma | exact hs0) (by first | exact hp3 | exact hf4 | exact hm.people) ?_
      refine E_SN2 (sp_TP_at (hG.s (k := 1 + 4) (by decide) rfl) (by decide) (by omega) hso) d_As_saysBySort_26 nl_As_66 cb_TP_at cs_TP_at ⟨by decide, by decide⟩ rfl (Nat.le_of_ble_eq_true rfl) (Nat.le_of_ble_eq_true rfl) (kI fun r1 M1 hc => ?_)
      obtain ⟨rfl, rfl⟩ := hc
      refine E_tableOut 111 d_As_saysBySort_29 (by decide) rfl ?_
      first | refine E_aload_n d_As_saysBySort_111 rfl ?_ | refine E_aload_nN d_As_saysBySort_111 rfl ?_
      refine E_getI d_As_saysBySort_112 gf_As_41 (by first | exact hG.s (by decide) rfl | exact hG.m hma | exact hG.m1 hma | exact hs0) (by first | exact hp3 | exact hf4 | exact hm.people) ?_
      refine E_iload_n d_As_saysBySort_115 rfl ?_
      first | (with_reducible refine E_isN2 ?_; refine E_isubN d_As_saysBySort_116 (by omega) ?_) | refine E_isub d_As_saysBySort_116 ?_
      refine E_absI d_As_saysBySort_117 ml_As_73 (by decide) (Nat.le_of_ble_eq_true rfl) ?_
      rw [ha]
      refine E_iconst (v := nI 2) d_As_saysBySort_120 rfl ?_
      first | (with_reducible refine E_isN2 ?_; refine E_icmp_gt 128 d_As_saysBySort_121 rfl (nb_lt (by omega) (by omega) fun h121 => ?_) (nb_nlt (by omega) (by omega) fun h121 => ?_)) | refine E_icmp_gt 128 d_As_saysBySort_121 rfl (fun h121 => ?_) (fun h121 => ?_)
      · refine E_iconst (v := nI 0) d_As_saysBySort_128 rfl ?_
        refine E_retZ d_As_saysBySort_129 rfl (by decide) ?_
        first | exact ⟨e1 h121, rfl⟩ | exact ⟨e2 h121, rfl⟩
      · refine E_iconst (v := nI 1) d_As_saysBySort_124 rfl ?_
        refine E_goto 129 d_As_saysBySort_125 rfl ?_
        refine E_retZ d_As_saysBySort_129 rfl (by decide) ?_
        first | exact ⟨e1 h121, rfl⟩ | exact ⟨e2 h121, rfl⟩
    · have hn : ¬ 0 ≤ nI f - nI (m.lean p) := by rw [le_toInt, nI_sub_toInt (by omega) (by omega), z32]; omega
      have ha : (if 0 ≤ nI f - nI (m.lean p) then nI f - nI (m.lean p) else 0 - (nI f - nI (m.lean p))) = nI (m.lean p - f) := by
        rw [if_neg hn, nI_iI f, nI_iI (m.lean p)]
        have s1 : ∀ x y : Int, iI x - iI y = iI (x - y) := fun x y => (Int32.ofInt_sub x y).symm
        have s0 : (0 : Int32) = iI 0 := rfl
        rw [s1, s0, s1, nI_iI]
        congr 1
        omega
      have e1 : 2 < m.lean p - f → nI 0 = pI (bySort c m p f = true) := fun q => k0 e (by omega)
      have e2 : m.lean p - f ≤ 2 → nI 1 = pI (bySort c m p f = true) := fun q => k1 e (by omega)
      first | refine E_aload_n d_As_saysBySort_0 rfl ?_ | refine E_aload_nN d_As_saysBySort_0 rfl ?_
      refine E_getR d_As_saysBySort_1 gf_As_25 (by first | exact hG.s (by decide) rfl | exact hG.m hma | exact hG.m1 hma | exact hs0) (by first | exact hmo | exact hR.o rfl | exact hR.c cr1 rfl | exact hR.m0 hma) ?_
      refine E_getR d_As_saysBySort_4 gf_As_63 (by first | exact hG.s (by decide) rfl | exact hG.m hma | exact hG.m1 hma | exact hs0) (by first | exact hmo | exact hR.o rfl | exact hR.c cr1 rfl | exact hR.m0 hma) ?_
      first | refine E_aload_n d_As_saysBySort_7 rfl ?_ | refine E_aload_nN d_As_saysBySort_7 rfl ?_
      refine E_getI d_As_saysBySort_8 gf_As_38 (by first | exact hG.s (by decide) rfl | exact hG.m hma | exact hG.m1 hma | exact hs0) (by first | exact hp3 | exact hf4 | exact hm.people) ?_
      refine E_SN2 (sp_TP_at (hG.m1 hma) (by decide) (by omega) el) d_As_saysBySort_11 nl_As_66 cb_TP_at cs_TP_at ⟨by decide, by decide⟩ rfl (Nat.le_of_ble_eq_true rfl) (Nat.le_of_ble_eq_true rfl) (kI fun r1 M1 hc => ?_)
      obtain ⟨rfl, rfl⟩ := hc
      refine E_istore_1 d_As_saysBySort_14 rfl ?_
      first | refine E_aload_n d_As_saysBySort_15 rfl ?_ | refine E_aload_nN d_As_saysBySort_15 rfl ?_
      refine E_getR d_As_saysBySort_16 gf_As_15 (by first | exact hG.s (by decide) rfl | exact hG.m hma | exact hG.m1 hma | exact hs0) (by first | exact hmo | exact hR.o rfl | exact hR.c cr1 rfl | exact hR.m0 hma) ?_
      refine E_getR d_As_saysBySort_19 gf_As_70 (by first | exact hG.s (by decide) rfl | exact hG.m hma | exact hG.m1 hma | exact hs0) (by first | exact hmo | exact hR.o rfl | exact hR.c cr1 rfl | exact hR.m0 hma) ?_
      first | refine E_aload_n d_As_saysBySort_22 rfl ?_ | refine E_aload_nN d_As_saysBySort_22 rfl ?_
      refine E_getI d_As_saysBySort_23 gf_As_38 (by first | exact hG.s (by decide) rfl | exact hG.m hma | exact hG.m1 hma | exact hs0) (by first | exact hp3 | exact hf4 | exact hm.people) ?_
      refine E_SN2 (sp_TP_at (hG.s (k := 1 + 4) (by decide) rfl) (by decide) (by omega) hso) d_As_saysBySort_26 nl_As_66 cb_TP_at cs_TP_at ⟨by decide, by decide⟩ rfl (Nat.le_of_ble_eq_true rfl) (Nat.le_of_ble_eq_true rfl) (kI fun r1 M1 hc => ?_)
      obtain ⟨rfl, rfl⟩ := hc
      refine E_tableOut 111 d_As_saysBySort_29 (by decide) rfl ?_
      first | refine E_aload_n d_As_saysBySort_111 rfl ?_ | refine E_aload_nN d_As_saysBySort_111 rfl ?_
      refine E_getI d_As_saysBySort_112 gf_As_41 (by first | exact hG.s (by decide) rfl | exact hG.m hma | exact hG.m1 hma | exact hs0) (by first | exact hp3 | exact hf4 | exact hm.people) ?_
      refine E_iload_n d_As_saysBySort_115 rfl ?_
      first | (with_reducible refine E_isN2 ?_; refine E_isubN d_As_saysBySort_116 (by omega) ?_) | refine E_isub d_As_saysBySort_116 ?_
      refine E_absI d_As_saysBySort_117 ml_As_73 (by decide) (Nat.le_of_ble_eq_true rfl) ?_
      rw [ha]
      refine E_iconst (v := nI 2) d_As_saysBySort_120 rfl ?_
      first | (with_reducible refine E_isN2 ?_; refine E_icmp_gt 128 d_As_saysBySort_121 rfl (nb_lt (by omega) (by omega) fun h121 => ?_) (nb_nlt (by omega) (by omega) fun h121 => ?_)) | refine E_icmp_gt 128 d_As_saysBySort_121 rfl (fun h121 => ?_) (fun h121 => ?_)
      · refine E_iconst (v := nI 0) d_As_saysBySort_128 rfl ?_
        refine E_retZ d_As_saysBySort_129 rfl (by decide) ?_
        first | exact ⟨e1 h121, rfl⟩ | exact ⟨e2 h121, rfl⟩
      · refine E_iconst (v := nI 1) d_As_saysBySort_124 rfl ?_
        refine E_goto 129 d_As_saysBySort_125 rfl ?_
        refine E_retZ d_As_saysBySort_129 rfl (by decide) ?_
        first | exact ⟨e1 h121, rfl⟩ | exact ⟨e2 h121, rfl⟩
