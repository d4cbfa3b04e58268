theorem moveA_le (T : Nat → Bool) {own : Nat} (h : own ≤ 9) : ∀ k b, moveA T own k b ≤ 10 := by
  intro k
  induction k with
  | zero => intro b; exact Nat.zero_le _
  | succ k ih =>
    intro b
    rw [moveA]
    split
    · omega
    · split
      · omega
      · exact ih _
theorem moveN_le {c : Cr} (h : Wf c) (p f : Nat) : moveN c p f ≤ 10 := moveA_le _ (h.lean9 p) _ _
theorem cst_le {c : Cr} (h : Wf c) (f : Nat) (yn : Bool) (p : Nat) : cst c f yn p ≤ 9 := by
  unfold cst
  have h1 := moveN_le h p f
  have h2 := h.lean9 p
  split
  · exact ap_le (by omega) h2
  · omega
theorem cnt_mono (P : Nat → Bool) (n k : Nat) : cnt P n ≤ cnt P (n + k) := by
  induction k with
  | zero => exact Nat.le_refl _
  | succ k ih =>
    rw [← Nat.add_assoc, cnt]
    omega
theorem priceP_len (g : Nat → Nat) (b p : Nat) : (priceP g b p).length = cnt (fun q => decide (g q = b)) p := by
  induction p with
  | zero => rfl
  | succ p ih =>
    rw [priceP, cnt, List.length_append, ih]
    by_cases h : g p = b
    · rw [if_pos h, if_pos (decide_eq_true h)]; rfl
    · rw [if_neg h, if_neg (by simpa using h)]; rfl
theorem cnt_split (g : Nat → Nat) (b m : Nat) : cnt (fun q => decide (1 ≤ g q ∧ g q ≤ b + 1)) m = cnt (fun q => decide (1 ≤ g q ∧ g q ≤ b)) m + cnt (fun q => decide (g q = b + 1)) m := by
  induction m with
  | zero => rfl
  | succ m ih =>
    rw [cnt, cnt, cnt, ih]
    simp only [decide_eq_true_eq]
    split <;> split <;> split <;> omega
theorem priceB_len (g : Nat → Nat) (m b : Nat) : (priceB g m b).length = cnt (fun q => decide (1 ≤ g q ∧ g q ≤ b)) m := by
  induction b with
  | zero =>
    have : ∀ n, cnt (fun q => decide (1 ≤ g q ∧ g q ≤ 0)) n = 0 := by
      intro n
      induction n with
      | zero => rfl
      | succ n ih =>
        rw [cnt, ih, if_neg (by simp; omega)]
    exact (this m).symm
  | succ b ih => rw [priceB, List.length_append, ih, priceP_len, cnt_split]
theorem price_room {g : Nat → Nat} {m b p : Nat} (hp : p < m) (hg : g p = b + 1) : (priceB g m b).length + (priceP g (b + 1) p).length + 1 ≤ m := by
  rw [priceB_len, priceP_len]
  have h1 := cnt_le (fun q => decide (1 ≤ g q ∧ g q ≤ b + 1)) m
  rw [cnt_split] at h1
  have h2 := cnt_mono (fun q => decide (g q = b + 1)) (p + 1) (m - (p + 1))
  rw [show p + 1 + (m - (p + 1)) = m by omega, cnt, if_pos (decide_eq_true hg)] at h2
  omega
def HP (L : List Nat) (M : Mem) : Prop := ∀ i, i < L.length → mI M 12 i = nI (L.getD i 0)
theorem HP.snoc {L : List Nat} {M : Mem} (h : HP L M) (b : Nat) : HP (L ++ [b]) (wI M 12 L.length (nI b)) := by
  intro i hi
  rw [List.length_append] at hi
  rw [mI_wI]
  by_cases e : i = L.length
  · subst e
    rw [if_pos ⟨rfl, rfl⟩, List.getD_eq_getElem?_getD, List.getElem?_append_right (Nat.le_refl _), Nat.sub_self]
    rfl
  · rw [if_neg (fun q => e q.2)]
    have hl : i < L.length := by simp at hi; omega
    rw [h i hl, List.getD_eq_getElem?_getD, List.getD_eq_getElem?_getD, List.getElem?_append_left hl]
theorem lp_TM_layP {c : Cr} {M0 : Mem} {f b : Nat} {yn : Bool} {z : Int32} {Q : Option Value → Geo → Mem → Prop} (hz : z = pI (yn = true)) (hf : f ≤ 8) (hb : b < 9)
    (K : ∀ M, HM c M → Sx SQ M0 M → HP (priceB (cst c f yn) c.now.people (b + 1)) M → E 7 0 0 Y_TM_layPrices 92 [some (.ref 0), some (.int (nI f)), some (.int z), some (.int (nI (priceB (cst c f yn) c.now.people (b + 1)).length)), some (.int (nI (b + 1))), none, none] [] GM M Q) :
    ∀ (k p : Nat), p + k = c.now.people → ∀ M, HM c M → Sx SQ M0 M → HP (priceB (cst c f yn) c.now.people b ++ priceP (cst c f yn) (b + 1) p) M → E 7 0 0 Y_TM_layPrices 15 [some (.ref 0), some (.int (nI f)), some (.int z), some (.int (nI (priceB (cst c f yn) c.now.people b ++ priceP (cst c f yn) (b + 1) p).length)), some (.int (nI (b + 1))), some (.int (nI p)), none] [] GM M Q := by
  intro k
  induction k with
  | zero =>
    intro p hp M hM hX hP
    have hR := hM.R
    have hA := hM.A
    have hp8 := hM.w.p8
    have hp2 : p = c.now.people := by omega
    subst hp2
    refine E_iload d_TM_layPrices_15 rfl ?_
    first | refine E_aload_n d_TM_layPrices_17 rfl ?_ | refine E_aload_nN d_TM_layPrices_17 rfl ?_
    refine E_getR (q := 1) d_TM_layPrices_18 gf_TM_7 (by exact ⟨by decide, rfl⟩) (by exact hR _ rfl) ?_
    refine E_iconst (v := nI 0) d_TM_layPrices_21 rfl ?_
    refine E_iald d_TM_layPrices_22 (by exact ⟨by decide, rfl⟩) (by exact ⟨by with_reducible rfl, by omega, by decide⟩) (by first | exact hA.people | exact hA.figure | exact hA.lean (by omega) | exact hN _ (by omega) | rfl) ?_
    first | (with_reducible refine E_isN2 ?_; refine E_icmp_ge 92 d_TM_layPrices_23 rfl (nb_le (by omega) (by omega) fun h23 => ?_) (nb_nle (by omega) (by omega) fun h23 => ?_)) | refine E_icmp_ge 92 d_TM_layPrices_23 rfl (fun h23 => ?_) (fun h23 => ?_)
    rotate_left
    · exfalso; omega
    refine E_wk ?_ (K M hM hX hP); exact ⟨Or.inl rfl, Or.inl rfl, Or.inl rfl, Or.inl rfl, Or.inl rfl, Or.inr rfl, Or.inl rfl, trivial⟩
  | succ k ih =>
    intro p hp M hM hX hP
    have hR := hM.R
    have hA := hM.A
    have hp8 := hM.w.p8
    have hl9 := hM.w.lean9 p
    have hmv := moveN_le hM.w p f
    have hcl := cst_le hM.w f yn p
    have e1 : priceP (cst c f yn) (b + 1) (p + 1) = priceP (cst c f yn) (b + 1) p ++ (if cst c f yn p = b + 1 then [b + 1] else []) := rfl
    have eN : ¬ cst c f yn p = b + 1 → priceB (cst c f yn) c.now.people b ++ priceP (cst c f yn) (b + 1) p = priceB (cst c f yn) c.now.people b ++ priceP (cst c f yn) (b + 1) (p + 1) := fun q => by rw [e1, if_neg q, List.append_nil]
    have eC : cst c f yn p = if isYes c c.now (ruler c) p f = yn ∧ moveN c p f ≠ 0 then ap (moveN c p f - 1) (c.now.lean p) else 0 := rfl
    have hno : ¬ cst c f yn p = b + 1 → ∀ x, ∀ M, HM c M → Sx SQ M0 M → HP (priceB (cst c f yn) c.now.people b ++ priceP (cst c f yn) (b + 1) p) M → E 7 0 0 Y_TM_layPrices 86 [some (.ref 0), some (.int (nI f)), some (.int z), some (.int (nI (priceB (cst c f yn) c.now.people b ++ priceP (cst c f yn) (b + 1) p).length)), some (.int (nI (b + 1))), some (.int (nI p)), some (.int x)] [] GM M Q := by
      intro q x M hM hX hP
      rw [eN q] at hP ⊢
      first | (with_reducible refine E_isL5 ?_; refine E_iincN5 (m := 1) d_TM_layPrices_86 rfl rfl ?_) | refine E_iinc_5 d_TM_layPrices_86 rfl rfl ?_
      refine E_goto 15 d_TM_layPrices_89 rfl ?_
      refine E_wk ?_ (ih (p + 1) (by omega) M hM hX hP); exact ⟨Or.inl rfl, Or.inl rfl, Or.inl rfl, Or.inl rfl, Or.inl rfl, Or.inl rfl, Or.inr rfl, trivial⟩
    have hPs : ∀ M1 M2, HP (priceB (cst c f yn) c.now.people b ++ priceP (cst c f yn) (b + 1) p) M1 → Sx SY M1 M2 → HP (priceB (cst c f yn) c.now.people b ++ priceP (cst c f yn) (b + 1) p) M2 := fun M1 M2 h1 h2 i hi => by rw [(h2.2 12 (by unfold SY; decide)).1]; exact h1 i hi
    have hn1 : ¬ pI (isYes c c.now (ruler c) p f = true) = z → ¬ cst c f yn p = b + 1 := fun h q => by
      rw [eC] at q
      by_cases q2 : isYes c c.now (ruler c) p f = yn ∧ moveN c p f ≠ 0
      · exact h ((pI_eq.mpr (Bool.eq_iff_iff.mp q2.1)).trans hz.symm)
      · rw [if_neg q2] at q
        omega
    have hn2 : ∀ m, moveN c p f = m + 1 → ¬ ap m (c.now.lean p) = b + 1 → ¬ cst c f yn p = b + 1 := fun m hm h q => by
      rw [eC] at q
      by_cases q2 : isYes c c.now (ruler c) p f = yn ∧ moveN c p f ≠ 0
      · rw [if_pos q2, hm] at q
        exact h q
      · rw [if_neg q2] at q
        omega
    have hup : ∀ M x, HM c M → Sx SQ M0 M → HP (priceB (cst c f yn) c.now.people b ++ priceP (cst c f yn) (b + 1) (p + 1)) M → nI ((priceB (cst c f yn) c.now.people b ++ priceP (cst c f yn) (b + 1) p).length + 1) = nI (priceB (cst c f yn) c.now.people b ++ priceP (cst c f yn) (b + 1) (p + 1)).length → E 7 0 0 Y_TM_layPrices 83 [some (.ref 0), some (.int (nI f)), some (.int z), some (.int (nI (priceB (cst c f yn) c.now.people b ++ priceP (cst c f yn) (b + 1) p).length)), some (.int (nI (b + 1))), some (.int (nI p)), some (.int x)] [] GM M Q := by
      intro M x hM hX hP e4
      first | (with_reducible refine E_isL3 ?_; refine E_iincN3 (m := 1) d_TM_layPrices_83 rfl rfl ?_) | refine E_iinc_3 d_TM_layPrices_83 rfl rfl ?_
      first | (with_reducible refine E_isL5 ?_; refine E_iincN5 (m := 1) d_TM_layPrices_86 rfl rfl ?_) | refine E_iinc_5 d_TM_layPrices_86 rfl rfl ?_
      refine E_goto 15 d_TM_layPrices_89 rfl ?_
      refine E_eqL (by rw [e4]) (E_wk ?_ (ih (p + 1) (by omega) M hM hX hP)); exact ⟨Or.inl rfl, Or.inl rfl, Or.inl rfl, Or.inl rfl, Or.inl rfl, Or.inl rfl, Or.inr rfl, trivial⟩
    cases hm : moveN c p f with
    | zero =>
      have hc0 : ¬ cst c f yn p = b + 1 := by rw [eC, if_neg (fun q => q.2 hm)]; omega
      refine E_iload d_TM_layPrices_15 rfl ?_
      first | refine E_aload_n d_TM_layPrices_17 rfl ?_ | refine E_aload_nN d_TM_layPrices_17 rfl ?_
      refine E_getR (q := 1) d_TM_layPrices_18 gf_TM_7 (by exact ⟨by decide, rfl⟩) (by exact hR _ rfl) ?_
      refine E_iconst (v := nI 0) d_TM_layPrices_21 rfl ?_
      refine E_iald d_TM_layPrices_22 (by exact ⟨by decide, rfl⟩) (by exact ⟨by with_reducible rfl, by omega, by decide⟩) (by first | exact hA.people | exact hA.figure | exact hA.lean (by omega) | exact hN _ (by omega) | rfl) ?_
      first | (with_reducible refine E_isN2 ?_; refine E_icmp_ge 92 d_TM_layPrices_23 rfl (nb_le (by omega) (by omega) fun h23 => ?_) (nb_nle (by omega) (by omega) fun h23 => ?_)) | refine E_icmp_ge 92 d_TM_layPrices_23 rfl (fun h23 => ?_) (fun h23 => ?_)
      · exfalso; omega
      first | refine E_aload_n d_TM_layPrices_26 rfl ?_ | refine E_aload_nN d_TM_layPrices_26 rfl ?_
      refine E_iload d_TM_layPrices_27 rfl ?_
      refine E_iload_n d_TM_layPrices_29 rfl ?_
      refine E_V2 (sp_TM_moveOf hM (by omega) hf) d_TM_layPrices_30 ml_TM_394 cb_TM_moveOf cv_TM_moveOf (by exact ⟨by decide, rfl⟩) ⟨by decide, rfl⟩ ⟨by decide, by decide⟩ rfl (Nat.le_of_ble_eq_true rfl) (Nat.le_of_ble_eq_true rfl) (kI fun r1 M1 hc => ?_)
      obtain ⟨rfl, hS1⟩ := hc; rw [hm]
      have hM1 := hM.sy hS1
      have hP1 := hPs _ _ hP hS1
      have hX1 := hX.tr (hS1.wk fun _ => SY.q)
      refine E_istore_6 d_TM_layPrices_33 rfl ?_
      first | refine E_aload_n d_TM_layPrices_35 rfl ?_ | refine E_aload_nN d_TM_layPrices_35 rfl ?_
      refine E_iload d_TM_layPrices_36 rfl ?_
      refine E_iload_n d_TM_layPrices_38 rfl ?_
      refine E_V2 (sp_TM_isYes hM1 (by omega) hf) d_TM_layPrices_39 ml_TM_299 cb_TM_isYes cv_TM_isYes (by exact ⟨by decide, rfl⟩) ⟨by decide, rfl⟩ ⟨by decide, by decide⟩ rfl (Nat.le_of_ble_eq_true rfl) (Nat.le_of_ble_eq_true rfl) (kI fun r1 M1 hc => ?_)
      obtain ⟨rfl, hS2⟩ := hc
      have hM2 := hM1.sy hS2
      have hX2 := hX1.tr (hS2.wk fun _ => SY.q)
      have hP2 := hPs _ _ hP1 hS2
      refine E_iload_n d_TM_layPrices_42 rfl ?_
      first | (with_reducible refine E_isN2 ?_; refine E_icmp_ne 86 d_TM_layPrices_43 rfl (nb_ne fun h43 => ?_) (nb_eq (by omega) (by omega) fun h43 => ?_)) | refine E_icmp_ne 86 d_TM_layPrices_43 rfl (fun h43 => ?_) (fun h43 => ?_)
      · exact hno hc0 _ _ hM2 hX2 hP2
      · refine E_iload d_TM_layPrices_46 rfl ?_
        refine E_iconst (v := (-1)) d_TM_layPrices_48 rfl ?_
        first | (with_reducible refine E_isN2 ?_; refine E_icmp_eq 86 d_TM_layPrices_49 rfl (nb_eq (by omega) (by omega) fun h49 => ?_) (nb_ne fun h49 => ?_)) | refine E_icmp_eq 86 d_TM_layPrices_49 rfl (fun h49 => ?_) (fun h49 => ?_)
        rotate_left
        · exfalso; exact h49 rfl
        exact hno hc0 _ _ hM2 hX2 hP2
    | succ m =>
      have ham := ap_le (v := m) (w := c.now.lean p) (n := 9) (by omega) hl9
      refine E_iload d_TM_layPrices_15 rfl ?_
      first | refine E_aload_n d_TM_layPrices_17 rfl ?_ | refine E_aload_nN d_TM_layPrices_17 rfl ?_
      refine E_getR (q := 1) d_TM_layPrices_18 gf_TM_7 (by exact ⟨by decide, rfl⟩) (by exact hR _ rfl) ?_
      refine E_iconst (v := nI 0) d_TM_layPrices_21 rfl ?_
      refine E_iald d_TM_layPrices_22 (by exact ⟨by decide, rfl⟩) (by exact ⟨by with_reducible rfl, by omega, by decide⟩) (by first | exact hA.people | exact hA.figure | exact hA.lean (by omega) | exact hN _ (by omega) | rfl) ?_
      first | (with_reducible refine E_isN2 ?_; refine E_icmp_ge 92 d_TM_layPrices_23 rfl (nb_le (by omega) (by omega) fun h23 => ?_) (nb_nle (by omega) (by omega) fun h23 => ?_)) | refine E_icmp_ge 92 d_TM_layPrices_23 rfl (fun h23 => ?_) (fun h23 => ?_)
      · exfalso; omega
      first | refine E_aload_n d_TM_layPrices_26 rfl ?_ | refine E_aload_nN d_TM_layPrices_26 rfl ?_
      refine E_iload d_TM_layPrices_27 rfl ?_
      refine E_iload_n d_TM_layPrices_29 rfl ?_
      refine E_V2 (sp_TM_moveOf hM (by omega) hf) d_TM_layPrices_30 ml_TM_394 cb_TM_moveOf cv_TM_moveOf (by exact ⟨by decide, rfl⟩) ⟨by decide, rfl⟩ ⟨by decide, by decide⟩ rfl (Nat.le_of_ble_eq_true rfl) (Nat.le_of_ble_eq_true rfl) (kI fun r1 M1 hc => ?_)
      obtain ⟨rfl, hS1⟩ := hc; rw [hm, show wE (m + 1) = nI m from rfl]
      have hM1 := hM.sy hS1
      have hP1 := hPs _ _ hP hS1
      have hX1 := hX.tr (hS1.wk fun _ => SY.q)
      refine E_istore_6 d_TM_layPrices_33 rfl ?_
      first | refine E_aload_n d_TM_layPrices_35 rfl ?_ | refine E_aload_nN d_TM_layPrices_35 rfl ?_
      refine E_iload d_TM_layPrices_36 rfl ?_
      refine E_iload_n d_TM_layPrices_38 rfl ?_
      refine E_V2 (sp_TM_isYes hM1 (by omega) hf) d_TM_layPrices_39 ml_TM_299 cb_TM_isYes cv_TM_isYes (by exact ⟨by decide, rfl⟩) ⟨by decide, rfl⟩ ⟨by decide, by decide⟩ rfl (Nat.le_of_ble_eq_true rfl) (Nat.le_of_ble_eq_true rfl) (kI fun r1 M1 hc => ?_)
      obtain ⟨rfl, hS2⟩ := hc
      have hM2 := hM1.sy hS2
      have hX2 := hX1.tr (hS2.wk fun _ => SY.q)
      have hP2 := hPs _ _ hP1 hS2
      have hR := hM2.R
      have hA := hM2.A
      refine E_iload_n d_TM_layPrices_42 rfl ?_
      first | (with_reducible refine E_isN2 ?_; refine E_icmp_ne 86 d_TM_layPrices_43 rfl (nb_ne fun h43 => ?_) (nb_eq (by omega) (by omega) fun h43 => ?_)) | refine E_icmp_ne 86 d_TM_layPrices_43 rfl (fun h43 => ?_) (fun h43 => ?_)
      · first | exact hno (hn1 h43) _ _ hM2 hX2 hP2 | exact hno (hn2 m hm h69) _ _ hM2 hX2 hP2
      · refine E_iload d_TM_layPrices_46 rfl ?_
        refine E_iconst (v := (-1)) d_TM_layPrices_48 rfl ?_
        first | (with_reducible refine E_isN2 ?_; refine E_icmp_eq 86 d_TM_layPrices_49 rfl (nb_eq (by omega) (by omega) fun h49 => ?_) (nb_ne fun h49 => ?_)) | refine E_icmp_eq 86 d_TM_layPrices_49 rfl (fun h49 => ?_) (fun h49 => ?_)
        · exfalso; exact nI_nm1 (by omega) h49
        refine E_iload d_TM_layPrices_52 rfl ?_
        first | refine E_aload_n d_TM_layPrices_54 rfl ?_ | refine E_aload_nN d_TM_layPrices_54 rfl ?_
        refine E_getR (q := 1) d_TM_layPrices_55 gf_TM_7 (by exact ⟨by decide, rfl⟩) (by exact hR _ rfl) ?_
        refine E_bipush (v := nI 10) d_TM_layPrices_58 (by decide) ?_
        refine E_iload d_TM_layPrices_60 rfl ?_
        first | (with_reducible refine E_isN2 ?_; refine E_iaddN d_TM_layPrices_62 ?_) | refine E_iadd d_TM_layPrices_62 ?_
        refine E_iald d_TM_layPrices_63 (by exact ⟨by decide, rfl⟩) (by exact ⟨by with_reducible rfl, by omega, by decide⟩) (by first | exact hA.people | exact hA.figure | exact hA.lean (by omega) | exact hN _ (by omega) | rfl) ?_
        refine E_S2 (sp_TM_apartBy (by omega) (by omega)) d_TM_layPrices_64 ml_TM_371 cb_TM_apartBy cs_TM_apartBy ⟨by decide, by decide⟩ rfl (Nat.le_of_ble_eq_true rfl) (Nat.le_of_ble_eq_true rfl) (kI fun r1 M1 hc => ?_)
        obtain ⟨rfl, rfl⟩ := hc
        refine E_iload d_TM_layPrices_67 rfl ?_
        first | (with_reducible refine E_isN2 ?_; refine E_icmp_eq 75 d_TM_layPrices_69 rfl (nb_eq (by omega) (by omega) fun h69 => ?_) (nb_ne fun h69 => ?_)) | refine E_icmp_eq 75 d_TM_layPrices_69 rfl (fun h69 => ?_) (fun h69 => ?_)
        · have hy : isYes c c.now (ruler c) p f = yn := by rw [Bool.eq_iff_iff]; exact pI_eq.mp (h43.trans hz)
          have hcc : cst c f yn p = b + 1 := by rw [eC, if_pos ⟨hy, by omega⟩, hm]; exact h69
          have hroom := price_room (g := cst c f yn) (m := c.now.people) (p := p) (by omega) hcc
          have hlen : (priceB (cst c f yn) c.now.people b ++ priceP (cst c f yn) (b + 1) p).length < 8 := by rw [List.length_append]; omega
          first | refine E_aload_n d_TM_layPrices_75 rfl ?_ | refine E_aload_nN d_TM_layPrices_75 rfl ?_
          refine E_getR (q := 12) d_TM_layPrices_76 gf_TM_56 (by exact ⟨by decide, rfl⟩) (by exact hR _ rfl) ?_
          refine E_iload_n d_TM_layPrices_79 rfl ?_
          refine E_iload d_TM_layPrices_80 rfl ?_
          refine E_iast d_TM_layPrices_82 (by exact ⟨by decide, rfl⟩) (by exact ⟨by with_reducible rfl, by omega, by decide⟩) ?_
          have hP3 := hP2.snoc (b + 1)
          have e2 : priceB (cst c f yn) c.now.people b ++ priceP (cst c f yn) (b + 1) p ++ [b + 1] = priceB (cst c f yn) c.now.people b ++ priceP (cst c f yn) (b + 1) (p + 1) := by rw [e1, if_pos hcc, List.append_assoc]
          rw [e2] at hP3
          have hX3 : Sx SQ M0 _ := hX2.wI (a := 12) (j := (priceB (cst c f yn) c.now.people b ++ priceP (cst c f yn) (b + 1) p).length) (x := nI (b + 1)) (by unfold SQ; decide)
          have hM3 := hM2.sx (Sx.rf.wI (a := 12) (j := (priceB (cst c f yn) c.now.people b ++ priceP (cst c f yn) (b + 1) p).length) (x := nI (b + 1)) (by unfold SQ; decide))
          have e3 := congrArg List.length e2
          rw [List.length_append] at e3
          have e4 : nI ((priceB (cst c f yn) c.now.people b ++ priceP (cst c f yn) (b + 1) p).length + 1) = nI (priceB (cst c f yn) c.now.people b ++ priceP (cst c f yn) (b + 1) (p + 1)).length := congrArg nI e3
          exact hup _ _ hM3 hX3 hP3 e4
        · refine E_goto 86 d_TM_layPrices_72 rfl ?_
          first | exact hno (hn1 h43) _ _ hM2 hX2 hP2 | exact hno (hn2 m hm h69) _ _ hM2 hX2 hP2
theorem lp_TM_layB {c : Cr} {M0 : Mem} {f : Nat} {yn : Bool} {z : Int32} (hz : z = pI (yn = true)) (hf : f ≤ 8) :
    ∀ (k b : Nat), b + k = 9 → ∀ M, HM c M → Sx SQ M0 M → HP (priceB (cst c f yn) c.now.people b) M → E 7 0 0 Y_TM_layPrices 5 [some (.ref 0), some (.int (nI f)), some (.int z), some (.int (nI (priceB (cst c f yn) c.now.people b).length)), some (.int (nI (b + 1))), none, none] [] GM M (QI GM fun r M' => r = nI (priceB (cst c f yn) c.now.people 9).length ∧ HP (priceB (cst c f yn) c.now.people 9) M' ∧ Sx SQ M0 M') := by
  intro k
  induction k with
  | zero =>
    intro b hb M hM hX hP
    have hb2 : b = 9 := by omega
    subst hb2
    refine E_iload d_TM_layPrices_5 rfl ?_
    refine E_bipush (v := nI 10) d_TM_layPrices_7 (by decide) ?_
    first | (with_reducible refine E_isN2 ?_; refine E_icmp_ge 98 d_TM_layPrices_9 rfl (nb_le (by omega) (by omega) fun h9 => ?_) (nb_nle (by omega) (by omega) fun h9 => ?_)) | refine E_icmp_ge 98 d_TM_layPrices_9 rfl (fun h9 => ?_) (fun h9 => ?_)
    rotate_left
    · exfalso; omega
    refine E_iload_n d_TM_layPrices_98 rfl ?_
    refine E_retI d_TM_layPrices_99 rfl ?_
    exact ⟨rfl, hP, hX⟩
  | succ k ih =>
    intro b hb M hM hX hP
    have K : ∀ M, HM c M → Sx SQ M0 M → HP (priceB (cst c f yn) c.now.people (b + 1)) M → E 7 0 0 Y_TM_layPrices 92 [some (.ref 0), some (.int (nI f)), some (.int z), some (.int (nI (priceB (cst c f yn) c.now.people (b + 1)).length)), some (.int (nI (b + 1))), none, none] [] GM M (QI GM fun r M' => r = nI (priceB (cst c f yn) c.now.people 9).length ∧ HP (priceB (cst c f yn) c.now.people 9) M' ∧ Sx SQ M0 M') := by
      intro M hM hX hP
      first | (with_reducible refine E_isL4 ?_; refine E_iincN4 (m := 1) d_TM_layPrices_92 rfl rfl ?_) | refine E_iinc_4 d_TM_layPrices_92 rfl rfl ?_
      refine E_goto 5 d_TM_layPrices_95 rfl ?_
      exact ih (b + 1) (by omega) M hM hX hP
    have e0 : priceB (cst c f yn) c.now.people b ++ priceP (cst c f yn) (b + 1) 0 = priceB (cst c f yn) c.now.people b := List.append_nil _
    have L := lp_TM_layP hz hf (by omega) K c.now.people 0 (by omega) M hM hX (by rw [e0]; exact hP)
    rw [e0] at L
    refine E_iload d_TM_layPrices_5 rfl ?_
    refine E_bipush (v := nI 10) d_TM_layPrices_7 (by decide) ?_
    first | (with_reducible refine E_isN2 ?_; refine E_icmp_ge 98 d_TM_layPrices_9 rfl (nb_le (by omega) (by omega) fun h9 => ?_) (nb_nle (by omega) (by omega) fun h9 => ?_)) | refine E_icmp_ge 98 d_TM_layPrices_9 rfl (fun h9 => ?_) (fun h9 => ?_)
    · exfalso; omega
    refine E_iconst (v := nI 0) d_TM_layPrices_12 rfl ?_
    refine E_istore_5 d_TM_layPrices_13 rfl ?_
    exact L
theorem sp_TM_layPrices {c : Cr} {M : Mem} {f : Nat} {yn : Bool} {z : Int32} (hM : HM c M) (hz : z = pI (yn = true)) (hf : f ≤ 8) : E 7 0 0 Y_TM_layPrices 0 [some (.ref 0), some (.int (nI f)), some (.int z), none, none, none, none] [] GM M (QI GM fun r M' => r = nI (priceB (cst c f yn) c.now.people 9).length ∧ HP (priceB (cst c f yn) c.now.people 9) M' ∧ Sx SQ M M') := by
  refine E_iconst (v := nI 0) d_TM_layPrices_0 rfl ?_
  refine E_istore_3 d_TM_layPrices_1 rfl ?_
  refine E_iconst (v := nI 1) d_TM_layPrices_2 rfl ?_
  refine E_istore_4 d_TM_layPrices_3 rfl ?_
  exact lp_TM_layB hz hf 9 0 (by omega) M hM Sx.rf (fun i hi => absurd hi (Nat.not_lt_zero _))
theorem lp_TM_cheap {c : Cr} {M M0 : Mem} {f : Nat} {L : List Nat} {x : Int32} (hR : MR M) (hL : HP L M) (hX : Sx SQ M0 M) (hf : f ≤ 8) (hg : cm c f ≤ 8) (hn : ap (cm c f) f ≤ L.length) (hL8 : L.length ≤ 8) {R : Int32} (hv : nI (sumT L (ap (cm c f) f)) = R) :
    ∀ (k i : Nat), i + k = ap (cm c f) f → E 8 0 0 Y_TM_cheapest 49 [some (.ref 0), some (.int (nI f)), some (.int (nI (cm c f))), some (.int x), some (.int (nI (sumT L i))), some (.int (nI i))] [] GM M (QI GM fun r M' => r = R ∧ Sx SQ M0 M') := by
  have ha := ap_le (v := cm c f) (w := f) (n := 8) hg hf
  intro k
  induction k with
  | zero =>
    intro i hi
    refine E_iload d_TM_cheapest_49 rfl ?_
    refine E_iload_n d_TM_cheapest_51 rfl ?_
    refine E_iload_n d_TM_cheapest_52 rfl ?_
    refine E_S2 (sp_TM_apartBy (by omega) (by omega)) d_TM_cheapest_53 ml_TM_371 cb_TM_apartBy cs_TM_apartBy ⟨by decide, by decide⟩ rfl (Nat.le_of_ble_eq_true rfl) (Nat.le_of_ble_eq_true rfl) (kI fun r1 M1 hc => ?_)
    obtain ⟨rfl, rfl⟩ := hc
    first | (with_reducible refine E_isN2 ?_; refine E_icmp_ge 77 d_TM_cheapest_56 rfl (nb_le (by omega) (by omega) fun h56 => ?_) (nb_nle (by omega) (by omega) fun h56 => ?_)) | refine E_icmp_ge 77 d_TM_cheapest_56 rfl (fun h56 => ?_) (fun h56 => ?_)
    rotate_left
    · exfalso; omega
    refine E_iload d_TM_cheapest_77 rfl ?_
    refine E_retI d_TM_cheapest_79 rfl ?_
    exact ⟨by rw [show i = ap (cm c f) f by omega]; exact hv, hX⟩
  | succ k ih =>
    intro i hi
    refine E_iload d_TM_cheapest_49 rfl ?_
    refine E_iload_n d_TM_cheapest_51 rfl ?_
    refine E_iload_n d_TM_cheapest_52 rfl ?_
    refine E_S2 (sp_TM_apartBy (by omega) (by omega)) d_TM_cheapest_53 ml_TM_371 cb_TM_apartBy cs_TM_apartBy ⟨by decide, by decide⟩ rfl (Nat.le_of_ble_eq_true rfl) (Nat.le_of_ble_eq_true rfl) (kI fun r1 M1 hc => ?_)
    obtain ⟨rfl, rfl⟩ := hc
    first | (with_reducible refine E_isN2 ?_; refine E_icmp_ge 77 d_TM_cheapest_56 rfl (nb_le (by omega) (by omega) fun h56 => ?_) (nb_nle (by omega) (by omega) fun h56 => ?_)) | refine E_icmp_ge 77 d_TM_cheapest_56 rfl (fun h56 => ?_) (fun h56 => ?_)
    · exfalso; omega
    refine E_iload d_TM_cheapest_59 rfl ?_
    first | refine E_aload_n d_TM_cheapest_61 rfl ?_ | refine E_aload_nN d_TM_cheapest_61 rfl ?_
    refine E_getR (q := 12) d_TM_cheapest_62 gf_TM_56 (by exact ⟨by decide, rfl⟩) (by exact hR _ rfl) ?_
    refine E_iload d_TM_cheapest_65 rfl ?_
    refine E_iald d_TM_cheapest_67 (by exact ⟨by decide, rfl⟩) (by exact ⟨by with_reducible rfl, by omega, by decide⟩) (by exact hL i (by omega)) ?_
    first | (with_reducible refine E_isN2 ?_; refine E_iaddN d_TM_cheapest_68 ?_) | refine E_iadd d_TM_cheapest_68 ?_
    refine E_istore_4 d_TM_cheapest_69 rfl ?_
    first | (with_reducible refine E_isL5 ?_; refine E_iincN5 (m := 1) d_TM_cheapest_71 rfl rfl ?_) | refine E_iinc_5 d_TM_cheapest_71 rfl rfl ?_
    refine E_goto 49 d_TM_cheapest_74 rfl ?_
    exact ih (i + 1) (by omega)
theorem priceB_le8 {g : Nat → Nat} {m : Nat} (hm : m ≤ 8) (b : Nat) : (priceB g m b).length ≤ 8 := by rw [priceB_len]; exact Nat.le_trans (cnt_le _ _) hm
theorem sp_TM_cheapest {c : Cr} {M : Mem} (hM : HM c M) (x : Int32) : E 8 0 0 Y_TM_cheapest 0 [some (.ref 0), some (.int x), none, none, none, none] [] GM M (QI GM fun r M' => r = ans_cheapest c x ∧ Sx SQ M M') := by
  have hp8 := hM.w.p8
  revert x
  refine args1 (c.now.people + 1) (fun f hf hx ht => ?_) (fun x hx => ?_)
  · have hg := Nat.le_trans (cm_le c f) hp8
    have ha := ap_le (v := cm c f) (w := f) (n := 8) hg (by omega)
    have hlen := priceB_le8 (g := cst c f (decide (f < cm c f))) hp8 9
    first | refine E_aload_n d_TM_cheapest_0 rfl ?_ | refine E_aload_nN d_TM_cheapest_0 rfl ?_
    refine E_iload_n d_TM_cheapest_1 rfl ?_
    refine E_V1 (sp_TM_canBeTold hM.R hM.A hM.w _) d_TM_cheapest_2 ml_TM_311 cb_TM_canBeTold cv_TM_canBeTold (by exact ⟨by decide, rfl⟩) ⟨by decide, rfl⟩ ⟨by decide, by decide⟩ rfl (Nat.le_of_ble_eq_true rfl) (Nat.le_of_ble_eq_true rfl) (kI fun r1 M1 hc => ?_)
    obtain ⟨rfl, rfl⟩ := hc
    first | (with_reducible refine E_isP ?_; refine E_if_ne 10 d_TM_cheapest_5 rfl (pb_1 fun h5 => ?_) (pb_0 fun h5 => ?_)) | (with_reducible refine E_isN1 ?_; refine E_if_ne 10 d_TM_cheapest_5 rfl (nz_ne fun h5 => ?_) (nz_eq (by omega) fun h5 => ?_)) | refine E_if_ne 10 d_TM_cheapest_5 rfl (fun h5 => ?_) (fun h5 => ?_)
    rotate_left
    · exfalso; exact h5 hx
    first | refine E_aload_n d_TM_cheapest_10 rfl ?_ | refine E_aload_nN d_TM_cheapest_10 rfl ?_
    refine E_iload_n d_TM_cheapest_11 rfl ?_
    refine E_V1 (sp_TM_comesOf hM (by omega)) d_TM_cheapest_12 ml_TM_350 cb_TM_comesOf cv_TM_comesOf (by exact ⟨by decide, rfl⟩) ⟨by decide, rfl⟩ ⟨by decide, by decide⟩ rfl (Nat.le_of_ble_eq_true rfl) (Nat.le_of_ble_eq_true rfl) (kI fun r1 M1 hc => ?_)
    obtain ⟨rfl, hS1⟩ := hc
    have hS1 := hS1.wk fun _ => SY.q
    have hM1 := hM.sx hS1
    refine E_istore_2 d_TM_cheapest_15 rfl ?_
    first | refine E_aload_n d_TM_cheapest_16 rfl ?_ | refine E_aload_nN d_TM_cheapest_16 rfl ?_
    refine E_iload_n d_TM_cheapest_17 rfl ?_
    refine E_iload_n d_TM_cheapest_18 rfl ?_
    refine E_iload_n d_TM_cheapest_19 rfl ?_
    first | (with_reducible refine E_isN2 ?_; refine E_icmp_le 27 d_TM_cheapest_20 rfl (nb_le (by omega) (by omega) fun h20 => ?_) (nb_nle (by omega) (by omega) fun h20 => ?_)) | refine E_icmp_le 27 d_TM_cheapest_20 rfl (fun h20 => ?_) (fun h20 => ?_)
    · refine E_iconst (v := nI 0) d_TM_cheapest_27 rfl ?_
      refine E_V2 (sp_TM_layPrices (yn := decide (f < cm c f)) hM1 (by first | (rw [pI_t (decide_eq_true h20)]; rfl) | (rw [pI_f (by rw [decide_eq_true_eq]; omega)]; rfl)) (by omega)) d_TM_cheapest_28 ml_TM_397 cb_TM_layPrices cv_TM_layPrices (by exact ⟨by decide, rfl⟩) ⟨by decide, rfl⟩ ⟨by decide, by decide⟩ rfl (Nat.le_of_ble_eq_true rfl) (Nat.le_of_ble_eq_true rfl) (kI fun r1 M1 hc => ?_)
      obtain ⟨rfl, hP, hS2⟩ := hc
      have hX := hS1.tr hS2
      refine E_istore_3 d_TM_cheapest_31 rfl ?_
      refine E_iload_n d_TM_cheapest_32 rfl ?_
      refine E_iload_n d_TM_cheapest_33 rfl ?_
      refine E_iload_n d_TM_cheapest_34 rfl ?_
      refine E_S2 (sp_TM_apartBy (by omega) (by omega)) d_TM_cheapest_35 ml_TM_371 cb_TM_apartBy cs_TM_apartBy ⟨by decide, by decide⟩ rfl (Nat.le_of_ble_eq_true rfl) (Nat.le_of_ble_eq_true rfl) (kI fun r1 M1 hc => ?_)
      obtain ⟨rfl, rfl⟩ := hc
      first | (with_reducible refine E_isN2 ?_; refine E_icmp_ge 43 d_TM_cheapest_38 rfl (nb_le (by omega) (by omega) fun h38 => ?_) (nb_nle (by omega) (by omega) fun h38 => ?_)) | refine E_icmp_ge 43 d_TM_cheapest_38 rfl (fun h38 => ?_) (fun h38 => ?_)
      · refine E_iconst (v := nI 0) d_TM_cheapest_43 rfl ?_
        refine E_istore_4 d_TM_cheapest_44 rfl ?_
        refine E_iconst (v := nI 0) d_TM_cheapest_46 rfl ?_
        refine E_istore_5 d_TM_cheapest_47 rfl ?_
        exact lp_TM_cheap (hM1.R.sx hS2) hP hX (by omega) hg (by omega) hlen (by rw [ans_cheapest, if_pos hx, ht, cheapN, if_neg (Nat.not_lt.mpr h38)]) (ap (cm c f) f) 0 (Nat.zero_add _)
      · refine E_iconst (v := (-1)) d_TM_cheapest_41 rfl ?_
        refine E_retI d_TM_cheapest_42 rfl ?_
        exact ⟨by rw [ans_cheapest, if_pos hx, ht, cheapN, if_pos h38], hX⟩
    · refine E_iconst (v := nI 1) d_TM_cheapest_23 rfl ?_
      refine E_goto 28 d_TM_cheapest_24 rfl ?_
      refine E_V2 (sp_TM_layPrices (yn := decide (f < cm c f)) hM1 (by first | (rw [pI_t (decide_eq_true h20)]; rfl) | (rw [pI_f (by rw [decide_eq_true_eq]; omega)]; rfl)) (by omega)) d_TM_cheapest_28 ml_TM_397 cb_TM_layPrices cv_TM_layPrices (by exact ⟨by decide, rfl⟩) ⟨by decide, rfl⟩ ⟨by decide, by decide⟩ rfl (Nat.le_of_ble_eq_true rfl) (Nat.le_of_ble_eq_true rfl) (kI fun r1 M1 hc => ?_)
      obtain ⟨rfl, hP, hS2⟩ := hc
      have hX := hS1.tr hS2
      refine E_istore_3 d_TM_cheapest_31 rfl ?_
      refine E_iload_n d_TM_cheapest_32 rfl ?_
      refine E_iload_n d_TM_cheapest_33 rfl ?_
      refine E_iload_n d_TM_cheapest_34 rfl ?_
      refine E_S2 (sp_TM_apartBy (by omega) (by omega)) d_TM_cheapest_35 ml_TM_371 cb_TM_apartBy cs_TM_apartBy ⟨by decide, by decide⟩ rfl (Nat.le_of_ble_eq_true rfl) (Nat.le_of_ble_eq_true rfl) (kI fun r1 M1 hc => ?_)
      obtain ⟨rfl, rfl⟩ := hc
      first | (with_reducible refine E_isN2 ?_; refine E_icmp_ge 43 d_TM_cheapest_38 rfl (nb_le (by omega) (by omega) fun h38 => ?_) (nb_nle (by omega) (by omega) fun h38 => ?_)) | refine E_icmp_ge 43 d_TM_cheapest_38 rfl (fun h38 => ?_) (fun h38 => ?_)
      · refine E_iconst (v := nI 0) d_TM_cheapest_43 rfl ?_
        refine E_istore_4 d_TM_cheapest_44 rfl ?_
        refine E_iconst (v := nI 0) d_TM_cheapest_46 rfl ?_
        refine E_istore_5 d_TM_cheapest_47 rfl ?_
        exact lp_TM_cheap (hM1.R.sx hS2) hP hX (by omega) hg (by omega) hlen (by rw [ans_cheapest, if_pos hx, ht, cheapN, if_neg (Nat.not_lt.mpr h38)]) (ap (cm c f) f) 0 (Nat.zero_add _)
      · refine E_iconst (v := (-1)) d_TM_cheapest_41 rfl ?_
        refine E_retI d_TM_cheapest_42 rfl ?_
        exact ⟨by rw [ans_cheapest, if_pos hx, ht, cheapN, if_pos h38], hX⟩
  · first | refine E_aload_n d_TM_cheapest_0 rfl ?_ | refine E_aload_nN d_TM_cheapest_0 rfl ?_
    refine E_iload_n d_TM_cheapest_1 rfl ?_
    refine E_V1 (sp_TM_canBeTold hM.R hM.A hM.w _) d_TM_cheapest_2 ml_TM_311 cb_TM_canBeTold cv_TM_canBeTold (by exact ⟨by decide, rfl⟩) ⟨by decide, rfl⟩ ⟨by decide, by decide⟩ rfl (Nat.le_of_ble_eq_true rfl) (Nat.le_of_ble_eq_true rfl) (kI fun r1 M1 hc => ?_)
    obtain ⟨rfl, rfl⟩ := hc
    first | (with_reducible refine E_isP ?_; refine E_if_ne 10 d_TM_cheapest_5 rfl (pb_1 fun h5 => ?_) (pb_0 fun h5 => ?_)) | (with_reducible refine E_isN1 ?_; refine E_if_ne 10 d_TM_cheapest_5 rfl (nz_ne fun h5 => ?_) (nz_eq (by omega) fun h5 => ?_)) | refine E_if_ne 10 d_TM_cheapest_5 rfl (fun h5 => ?_) (fun h5 => ?_)
    · exfalso; exact hx h5
    refine E_iconst (v := (-1)) d_TM_cheapest_8 rfl ?_
    refine E_retI d_TM_cheapest_9 rfl ?_
    exact ⟨by rw [ans_cheapest, if_neg hx], Sx.rf⟩
theorem lp_TM_gcd {G : Geo} {M : Mem} {a b : Nat} (R : Nat) : ∀ (n y x : Nat), y ≤ n → x < 9223372036854775808 → y < 9223372036854775808 → Nat.gcd x y = R → ∀ (w : Option Value), E 0 0 0 Y_TM_divisor 6 [some (.long (lN a)), none, some (.long (lN b)), none, some (.long (lN x)), none, some (.long (lN y)), none, w, none] [] G M (QL G fun r M' => r = lN R ∧ M' = M) := by
  intro n
  induction n with
  | zero =>
    intro y x hy hx hy2 hv w
    have h0 : y = 0 := by omega
    subst h0
    rw [Nat.gcd_zero_right] at hv
    subst hv
    refine E_lload d_TM_divisor_6 rfl ?_
    refine E_lconst (v := lN 0) d_TM_divisor_8 rfl ?_
    refine E_lcmp d_TM_divisor_9 ?_
    first | (with_reducible refine E_isP ?_; refine E_if_eq 31 d_TM_divisor_10 rfl (pb_0 fun h10 => ?_) (pb_1 fun h10 => ?_)) | (with_reducible refine E_isN1 ?_; refine E_if_eq 31 d_TM_divisor_10 rfl (nz_eq (by omega) fun h10 => ?_) (nz_ne fun h10 => ?_)) | refine E_if_eq 31 d_TM_divisor_10 rfl (fun h10 => ?_) (fun h10 => ?_)
    rotate_left
    · exfalso; exact h10 ((lg_eq0 hy2 (by decide)).mpr rfl)
    refine E_lload d_TM_divisor_31 rfl ?_
    refine E_retL d_TM_divisor_33 rfl ?_
    exact ⟨rfl, rfl⟩
  | succ n ih =>
    intro y x hy hx hy2 hv w
    by_cases h0 : y = 0
    · subst h0
      rw [Nat.gcd_zero_right] at hv
      subst hv
      refine E_lload d_TM_divisor_6 rfl ?_
      refine E_lconst (v := lN 0) d_TM_divisor_8 rfl ?_
      refine E_lcmp d_TM_divisor_9 ?_
      first | (with_reducible refine E_isP ?_; refine E_if_eq 31 d_TM_divisor_10 rfl (pb_0 fun h10 => ?_) (pb_1 fun h10 => ?_)) | (with_reducible refine E_isN1 ?_; refine E_if_eq 31 d_TM_divisor_10 rfl (nz_eq (by omega) fun h10 => ?_) (nz_ne fun h10 => ?_)) | refine E_if_eq 31 d_TM_divisor_10 rfl (fun h10 => ?_) (fun h10 => ?_)
      rotate_left
      · exfalso; exact h10 ((lg_eq0 hy2 (by decide)).mpr rfl)
      refine E_lload d_TM_divisor_31 rfl ?_
      refine E_retL d_TM_divisor_33 rfl ?_
      exact ⟨rfl, rfl⟩
    · have hlt := Nat.mod_lt x (show 0 < y by omega)
      refine E_lload d_TM_divisor_6 rfl ?_
      refine E_lconst (v := lN 0) d_TM_divisor_8 rfl ?_
      refine E_lcmp d_TM_divisor_9 ?_
      first | (with_reducible refine E_isP ?_; refine E_if_eq 31 d_TM_divisor_10 rfl (pb_0 fun h10 => ?_) (pb_1 fun h10 => ?_)) | (with_reducible refine E_isN1 ?_; refine E_if_eq 31 d_TM_divisor_10 rfl (nz_eq (by omega) fun h10 => ?_) (nz_ne fun h10 => ?_)) | refine E_if_eq 31 d_TM_divisor_10 rfl (fun h10 => ?_) (fun h10 => ?_)
      · exfalso; exact h0 ((lg_eq0 hy2 (by decide)).mp h10)
      refine E_lload d_TM_divisor_13 rfl ?_
      refine E_lload d_TM_divisor_15 rfl ?_
      first | (with_reducible refine E_isM2 ?_; refine E_lremN d_TM_divisor_17 (by omega) (by omega) (by omega) ?_) | refine E_lrem d_TM_divisor_17 (by decide) ?_
      refine E_lstore_8 d_TM_divisor_18 rfl ?_
      refine E_lload d_TM_divisor_20 rfl ?_
      refine E_lstore_4 d_TM_divisor_22 rfl ?_
      refine E_lload d_TM_divisor_24 rfl ?_
      refine E_lstore_6 d_TM_divisor_26 rfl ?_
      refine E_goto 6 d_TM_divisor_28 rfl ?_
      exact ih (x % y) y (by omega) hy2 (by omega) (by rw [← hv, Nat.gcd_comm x y, Nat.gcd_rec y x, Nat.gcd_comm]) _
theorem sp_TM_divisor {G : Geo} {M : Mem} {a b : Nat} (ha : a < 9223372036854775808) (hb : b < 9223372036854775808) : E 0 0 0 Y_TM_divisor 0 [some (.long (lN a)), none, some (.long (lN b)), none, none, none, none, none, none, none] [] G M (QL G fun r M' => r = lN (Nat.gcd a b) ∧ M' = M) := by
  refine E_lload_n d_TM_divisor_0 rfl ?_
  refine E_lstore_4 d_TM_divisor_1 rfl ?_
  refine E_lload_n d_TM_divisor_3 rfl ?_
  refine E_lstore_6 d_TM_divisor_4 rfl ?_
  exact lp_TM_gcd _ b b a (Nat.le_refl _) ha hb rfl none
theorem sp_TM_part0 {G : Geo} {M : Mem} {a b : Nat} {z : Int32} (ha : a < 9223372036854775808) (hb : b < 9223372036854775808) (h0 : 0 < b) : E 1 0 0 Y_TM_part0 0 [some (.long (lN a)), none, some (.long (lN b)), none, some (.int z)] [] G M (QL G fun r M' => r = lowest a b z ∧ M' = M) := by
  have hg := Nat.gcd_pos_of_pos_right a h0
  have hgl := Nat.gcd_le_right a h0
  refine E_iload d_TM_part0_0 rfl ?_
  first | (with_reducible refine E_isP ?_; refine E_if_eq 9 d_TM_part0_2 rfl (pb_0 fun h2 => ?_) (pb_1 fun h2 => ?_)) | (with_reducible refine E_isN1 ?_; refine E_if_eq 9 d_TM_part0_2 rfl (nz_eq (by omega) fun h2 => ?_) (nz_ne fun h2 => ?_)) | refine E_if_eq 9 d_TM_part0_2 rfl (fun h2 => ?_) (fun h2 => ?_)
  · refine E_lload_n d_TM_part0_9 rfl ?_
    refine E_lload_n d_TM_part0_10 rfl ?_
    refine E_lload_n d_TM_part0_11 rfl ?_
    refine E_S2 (sp_TM_divisor ha hb) d_TM_part0_12 ml_TM_401 cb_TM_divisor cs_TM_divisor ⟨by decide, by decide⟩ rfl (Nat.le_of_ble_eq_true rfl) (Nat.le_of_ble_eq_true rfl) (kL fun r1 M1 hc => ?_)
    obtain ⟨rfl, rfl⟩ := hc
    first | (with_reducible refine E_isM2 ?_; refine E_ldivN d_TM_part0_15 (by omega) (by omega) (by omega) ?_) | refine E_ldiv d_TM_part0_15 (by decide) ?_
    refine E_retL d_TM_part0_16 rfl ?_
    exact ⟨by first | rw [lowest, if_pos (by assumption)] | rw [lowest, if_neg (by assumption)], rfl⟩
  · refine E_lload_n d_TM_part0_5 rfl ?_
    refine E_goto 10 d_TM_part0_6 rfl ?_
    refine E_lload_n d_TM_part0_10 rfl ?_
    refine E_lload_n d_TM_part0_11 rfl ?_
    refine E_S2 (sp_TM_divisor ha hb) d_TM_part0_12 ml_TM_401 cb_TM_divisor cs_TM_divisor ⟨by decide, by decide⟩ rfl (Nat.le_of_ble_eq_true rfl) (Nat.le_of_ble_eq_true rfl) (kL fun r1 M1 hc => ?_)
    obtain ⟨rfl, rfl⟩ := hc
    first | (with_reducible refine E_isM2 ?_; refine E_ldivN d_TM_part0_15 (by omega) (by omega) (by omega) ?_) | refine E_ldiv d_TM_part0_15 (by decide) ?_
    refine E_retL d_TM_part0_16 rfl ?_
    exact ⟨by first | rw [lowest, if_pos (by assumption)] | rw [lowest, if_neg (by assumption)], rfl⟩
theorem sp_TM_tenths {G : Geo} {M : Mem} {s p y : Nat} (hs : s < 512) (hp : p < 9) (hy : y ≤ 10) : E 1 0 0 Y_TM_tenths 0 [some (.ref 0), some (.int (nI s)), some (.int (nI p)), some (.int (nI y))] [] G M (QI G fun r M' => r = nI (if s.testBit p = true then 10 - y else y) ∧ M' = M) := by
  refine E_iload_n d_TM_tenths_0 rfl ?_
  refine E_iload_n d_TM_tenths_1 rfl ?_
  refine E_S2 (sp_TM_has _ _ (by omega) (by omega)) d_TM_tenths_2 ml_TM_229 cb_TM_has cs_TM_has ⟨by decide, by decide⟩ rfl (Nat.le_of_ble_eq_true rfl) (Nat.le_of_ble_eq_true rfl) (kI fun r1 M1 hc => ?_)
  obtain ⟨rfl, rfl⟩ := hc
  first | (with_reducible refine E_isP ?_; refine E_if_eq 15 d_TM_tenths_5 rfl (pb_0 fun h5 => ?_) (pb_1 fun h5 => ?_)) | (with_reducible refine E_isN1 ?_; refine E_if_eq 15 d_TM_tenths_5 rfl (nz_eq (by omega) fun h5 => ?_) (nz_ne fun h5 => ?_)) | refine E_if_eq 15 d_TM_tenths_5 rfl (fun h5 => ?_) (fun h5 => ?_)
  · refine E_iload_n d_TM_tenths_15 rfl ?_
    refine E_retI d_TM_tenths_16 rfl ?_
    exact ⟨by first | rw [if_pos (by assumption)] | rw [if_neg (by assumption)], rfl⟩
  · refine E_bipush (v := nI 10) d_TM_tenths_8 (by decide) ?_
    refine E_iload_n d_TM_tenths_10 rfl ?_
    first | (with_reducible refine E_isN2 ?_; refine E_isubN d_TM_tenths_11 (by omega) ?_) | refine E_isub d_TM_tenths_11 ?_
    refine E_goto 16 d_TM_tenths_12 rfl ?_
    refine E_retI d_TM_tenths_16 rfl ?_
    exact ⟨by first | rw [if_pos (by assumption)] | rw [if_neg (by assumption)], rfl⟩
