def ruleS (c : Cr) (r : Option Nat) : Cr := Cr.mk c.now c.sort c.begun c.hears c.steps c.texts r c.parties c.saids c.villages
def st_by (c : Cr) (x : Int32) : Cr := if x = -1 then ruleS c none else if inN x c.texts.length then ruleS c (some (tN x)) else c
def ans_by (c : Cr) (x : Int32) : Int32 := pI (x = -1 ∨ inN x c.texts.length)
theorem isIn_b {x : Int32} {n : Nat} (hn : n < 1073741824) : ((-1) ≤ x ∧ x ≤ nI n - nI 1) ↔ (x = -1 ∨ inN x n) := by
  rw [le_toInt, le_toInt, nI_sub_toInt hn (by decide)]
  have e : (-1 : Int32).toInt = -1 := by decide
  have h1 : x = -1 ↔ x.toInt = -1 := ⟨fun q => by rw [q]; exact e, fun q => by rw [iI_of x, q]; rfl⟩
  rw [e, h1]
  unfold inN
  omega
theorem HM_rule {c : Cr} {M : Mem} {r : Option Nat} (h : HM c M) (hr : ∀ t, r = some t → t < c.texts.length) : HM (ruleS c r) (wI M 1 2 (enO r)) := by
  have hA := h.A
  have hw := h.w
  have l8 := hw.parties
  have s8 := hw.saids
  have ne : ∀ i, i ≠ 2 → mI (wI M 1 2 (enO r)) 1 i = mI M 1 i := fun i q => (mI_w1 _).trans (if_neg q)
  refine ⟨h.R, RepA_hd (c' := ruleS c r) hA hw rfl rfl rfl rfl ((ne 1 (by omega)).trans hA.texts) ((mI_w1 _).trans (if_pos rfl)) ((ne 4 (by omega)).trans hA.saids) ((ne 84 (by omega)).trans hA.parties) (fun p hp => (ne _ (by omega)).trans (hA.hears hp)) (fun i hi => ⟨(ne _ (by omega)).trans (hA.said hi).1, (ne _ (by omega)).trans (hA.said hi).2⟩) (fun v hv => (ne _ (by omega)).trans (hA.village hv)) (fun i hi => ⟨(ne _ (by omega)).trans (hA.party hi).1, (ne _ (by omega)).trans (hA.party hi).2⟩) (fun i _ b _ _ => ne i b), h.T, ?_⟩
  obtain ⟨a1, a2, a3, a4, a5, a6, a7, a8, a9, a10, a11, a12, a13, a14, a15⟩ := hw
  exact ⟨a1, a2, a3, a4, a5, a6, a7, a8, hr, a10, a11, a12, a13, a14, a15⟩
theorem sp_TM_by {c : Cr} {M : Mem} (hM : HM c M) (x : Int32) : E 1 0 0 Y_TM_by 0 [some (.ref 0), some (.int x)] [] GM M (QI GM fun r M' => r = ans_by c x ∧ HM (st_by c x) M' ∧ Sx S1 M M') := by
  have hR := hM.R
  have hA := hM.A
  have h4 := hM.w.texts
  have e1 := hA.texts
  have hb := isIn_b (x := x) (n := c.texts.length) (by omega)
  by_cases h1 : x = -1
  · subst h1
    rw [ans_by, st_by, pI_t (Or.inl rfl), if_pos rfl]
    refine E_iload_n d_TM_by_0 rfl ?_
    refine E_iconst (v := (-1)) d_TM_by_1 rfl ?_
    first | refine E_aload_n d_TM_by_2 rfl ?_ | refine E_aload_nN d_TM_by_2 rfl ?_
    refine E_getR (q := 1) d_TM_by_3 gf_TM_7 (by exact ⟨by decide, rfl⟩) (by exact hR _ rfl) ?_
    refine E_iconst (v := nI 1) d_TM_by_6 rfl ?_
    refine E_iald d_TM_by_7 (by exact ⟨by decide, rfl⟩) (by exact ⟨by with_reducible rfl, by omega, by decide⟩) (by exact e1) ?_
    refine E_iconst (v := nI 1) d_TM_by_8 rfl ?_
    first | (with_reducible refine E_isN2 ?_; refine E_isubN d_TM_by_9 (by omega) ?_) | refine E_isub d_TM_by_9 ?_
    refine E_S3 (sp_TM_isIn _ _ _) d_TM_by_10 ml_TM_69 cb_TM_isIn cs_TM_isIn ⟨by decide, by decide⟩ rfl (Nat.le_of_ble_eq_true rfl) (Nat.le_of_ble_eq_true rfl) (kI fun r1 M1 hc => ?_)
    obtain ⟨rfl, rfl⟩ := hc
    first | (with_reducible refine E_isP ?_; refine E_if_ne 18 d_TM_by_13 rfl (pb_1 fun h13 => ?_) (pb_0 fun h13 => ?_)) | (with_reducible refine E_isN1 ?_; refine E_if_ne 18 d_TM_by_13 rfl (nz_ne fun h13 => ?_) (nz_eq (by omega) fun h13 => ?_)) | refine E_if_ne 18 d_TM_by_13 rfl (fun h13 => ?_) (fun h13 => ?_)
    rotate_left
    · exfalso; first | exact h13 (hb.mpr (Or.inl rfl)) | (rw [pk_sub (by omega)] at hb; exact h13 (hb.mpr (Or.inl rfl)))
    first | refine E_aload_n d_TM_by_18 rfl ?_ | refine E_aload_nN d_TM_by_18 rfl ?_
    refine E_getR (q := 1) d_TM_by_19 gf_TM_7 (by exact ⟨by decide, rfl⟩) (by exact hR _ rfl) ?_
    refine E_iconst (v := nI 2) d_TM_by_22 rfl ?_
    refine E_iload_n d_TM_by_23 rfl ?_
    refine E_iast d_TM_by_24 (by exact ⟨by decide, rfl⟩) (by exact ⟨by with_reducible rfl, by omega, by decide⟩) ?_
    refine E_iconst (v := nI 1) d_TM_by_25 rfl ?_
    refine E_retZ d_TM_by_26 rfl (by decide) ?_
    exact ⟨rfl, HM_rule (r := none) hM (fun t q => by cases q), Sx.rf.wI S1.o⟩
  · by_cases hx : inN x c.texts.length
    · rw [ans_by, st_by, pI_t (Or.inr hx), if_neg h1, if_pos hx]
      have ex := (in_nI hx).1
      have hM2 : HM (ruleS c (some (tN x))) (wI M 1 2 x) := by
        have := HM_rule (r := some (tN x)) hM (fun t q => by rw [← Option.some.inj q]; exact (in_nI hx).2)
        rwa [show enO (some (tN x)) = x from ex.symm] at this
      refine E_iload_n d_TM_by_0 rfl ?_
      refine E_iconst (v := (-1)) d_TM_by_1 rfl ?_
      first | refine E_aload_n d_TM_by_2 rfl ?_ | refine E_aload_nN d_TM_by_2 rfl ?_
      refine E_getR (q := 1) d_TM_by_3 gf_TM_7 (by exact ⟨by decide, rfl⟩) (by exact hR _ rfl) ?_
      refine E_iconst (v := nI 1) d_TM_by_6 rfl ?_
      refine E_iald d_TM_by_7 (by exact ⟨by decide, rfl⟩) (by exact ⟨by with_reducible rfl, by omega, by decide⟩) (by exact e1) ?_
      refine E_iconst (v := nI 1) d_TM_by_8 rfl ?_
      first | (with_reducible refine E_isN2 ?_; refine E_isubN d_TM_by_9 (by omega) ?_) | refine E_isub d_TM_by_9 ?_
      refine E_S3 (sp_TM_isIn _ _ _) d_TM_by_10 ml_TM_69 cb_TM_isIn cs_TM_isIn ⟨by decide, by decide⟩ rfl (Nat.le_of_ble_eq_true rfl) (Nat.le_of_ble_eq_true rfl) (kI fun r1 M1 hc => ?_)
      obtain ⟨rfl, rfl⟩ := hc
      first | (with_reducible refine E_isP ?_; refine E_if_ne 18 d_TM_by_13 rfl (pb_1 fun h13 => ?_) (pb_0 fun h13 => ?_)) | (with_reducible refine E_isN1 ?_; refine E_if_ne 18 d_TM_by_13 rfl (nz_ne fun h13 => ?_) (nz_eq (by omega) fun h13 => ?_)) | refine E_if_ne 18 d_TM_by_13 rfl (fun h13 => ?_) (fun h13 => ?_)
      rotate_left
      · exfalso; first | exact h13 (hb.mpr (Or.inr hx)) | (rw [pk_sub (by omega)] at hb; exact h13 (hb.mpr (Or.inr hx)))
      first | refine E_aload_n d_TM_by_18 rfl ?_ | refine E_aload_nN d_TM_by_18 rfl ?_
      refine E_getR (q := 1) d_TM_by_19 gf_TM_7 (by exact ⟨by decide, rfl⟩) (by exact hR _ rfl) ?_
      refine E_iconst (v := nI 2) d_TM_by_22 rfl ?_
      refine E_iload_n d_TM_by_23 rfl ?_
      refine E_iast d_TM_by_24 (by exact ⟨by decide, rfl⟩) (by exact ⟨by with_reducible rfl, by omega, by decide⟩) ?_
      refine E_iconst (v := nI 1) d_TM_by_25 rfl ?_
      refine E_retZ d_TM_by_26 rfl (by decide) ?_
      exact ⟨rfl, hM2, Sx.rf.wI S1.o⟩
    · have hn : ¬ (x = -1 ∨ inN x c.texts.length) := fun q => q.elim h1 hx
      rw [ans_by, st_by, pI_f hn, if_neg h1, if_neg hx]
      refine E_iload_n d_TM_by_0 rfl ?_
      refine E_iconst (v := (-1)) d_TM_by_1 rfl ?_
      first | refine E_aload_n d_TM_by_2 rfl ?_ | refine E_aload_nN d_TM_by_2 rfl ?_
      refine E_getR (q := 1) d_TM_by_3 gf_TM_7 (by exact ⟨by decide, rfl⟩) (by exact hR _ rfl) ?_
      refine E_iconst (v := nI 1) d_TM_by_6 rfl ?_
      refine E_iald d_TM_by_7 (by exact ⟨by decide, rfl⟩) (by exact ⟨by with_reducible rfl, by omega, by decide⟩) (by exact e1) ?_
      refine E_iconst (v := nI 1) d_TM_by_8 rfl ?_
      first | (with_reducible refine E_isN2 ?_; refine E_isubN d_TM_by_9 (by omega) ?_) | refine E_isub d_TM_by_9 ?_
      refine E_S3 (sp_TM_isIn _ _ _) d_TM_by_10 ml_TM_69 cb_TM_isIn cs_TM_isIn ⟨by decide, by decide⟩ rfl (Nat.le_of_ble_eq_true rfl) (Nat.le_of_ble_eq_true rfl) (kI fun r1 M1 hc => ?_)
      obtain ⟨rfl, rfl⟩ := hc
      first | (with_reducible refine E_isP ?_; refine E_if_ne 18 d_TM_by_13 rfl (pb_1 fun h13 => ?_) (pb_0 fun h13 => ?_)) | (with_reducible refine E_isN1 ?_; refine E_if_ne 18 d_TM_by_13 rfl (nz_ne fun h13 => ?_) (nz_eq (by omega) fun h13 => ?_)) | refine E_if_ne 18 d_TM_by_13 rfl (fun h13 => ?_) (fun h13 => ?_)
      · exfalso; exact hn (hb.mp h13)
      refine E_iconst (v := nI 0) d_TM_by_16 rfl ?_
      refine E_retZ d_TM_by_17 rfl (by decide) ?_
      exact ⟨rfl, hM, Sx.rf⟩
def partS (c : Cr) (l : List (Nat × Nat)) : Cr := Cr.mk c.now c.sort c.begun c.hears c.steps c.texts c.ruling l c.saids c.villages
def saidS (c : Cr) (l : List (Nat × Nat)) : Cr := Cr.mk c.now c.sort c.begun c.hears c.steps c.texts c.ruling c.parties l c.villages
abbrev prtP (c : Cr) (x y : Int32) : Prop := inN y 9 ∧ inN x (tN y + 1) ∧ c.parties.length ≠ 8
def ans_party (c : Cr) (x y : Int32) : Int32 := if x = -1 then nI 0 else if prtP c x y then nI (c.parties.length + 1) else -2
def st_party (c : Cr) (x y : Int32) : Cr := if x = -1 then partS c [] else if prtP c x y then partS c (c.parties ++ [(tN x, tN y)]) else c
abbrev saiP (c : Cr) (x y : Int32) : Prop := inN x 9 ∧ inN y 9 ∧ c.saids.length ≠ 8
def ans_said (c : Cr) (x y : Int32) : Int32 := if x = -1 then nI 0 else if saiP c x y then nI (c.saids.length + 1) else -2
def st_said (c : Cr) (x y : Int32) : Cr := if x = -1 then saidS c [] else if saiP c x y then saidS c (c.saids ++ [(tN x, tN y)]) else c
theorem HM_party {c : Cr} {M M' : Mem} {l : List (Nat × Nat)} (h : HM c M) (hX : Sx S01 M M') (hl : l.length ≤ 8) (hq : ∀ q ∈ l, q.1 ≤ q.2 ∧ q.2 ≤ 8) (e : mI M' 1 84 = nI l.length) (ei : ∀ i, i < l.length → mI M' 1 (68 + 2 * i) = nI (l.getD i (0, 0)).1 ∧ mI M' 1 (68 + 2 * i + 1) = nI (l.getD i (0, 0)).2) (ne : ∀ i, (i < 68 ∨ 84 < i) → mI M' 1 i = mI M 1 i) : HM (partS c l) M' := by
  have hA := h.A
  have hw := h.w
  have s8 := hw.saids
  refine ⟨h.R.sx hX, RepA_hd (c' := partS c l) hA hw rfl rfl rfl rfl ((ne 1 (by omega)).trans hA.texts) ((ne 2 (by omega)).trans hA.ruling) ((ne 4 (by omega)).trans hA.saids) e (fun p hp => (ne _ (by omega)).trans (hA.hears hp)) (fun i hi => ⟨(ne _ (by have : i < c.saids.length := hi; omega)).trans (hA.said hi).1, (ne _ (by have : i < c.saids.length := hi; omega)).trans (hA.said hi).2⟩) (fun v hv => (ne _ (by omega)).trans (hA.village hv)) ei (fun i _ _ _ b => ne i (by omega)), by rw [(hX.2 3 (by unfold S01; decide)).1]; exact h.T, ?_⟩
  obtain ⟨a1, a2, a3, a4, a5, a6, a7, a8, a9, a10, a11, a12, a13, a14, a15⟩ := hw
  exact ⟨a1, a2, a3, a4, a5, a6, a7, a8, a9, hl, hq, a12, a13, a14, a15⟩
theorem HM_said {c : Cr} {M M' : Mem} {l : List (Nat × Nat)} (h : HM c M) (hX : Sx S01 M M') (hl : l.length ≤ 8) (hq : ∀ q ∈ l, q.1 ≤ 8 ∧ q.2 ≤ 8) (e : mI M' 1 4 = nI l.length) (ei : ∀ i, i < l.length → mI M' 1 (42 + 2 * i) = nI (l.getD i (0, 0)).1 ∧ mI M' 1 (42 + 2 * i + 1) = nI (l.getD i (0, 0)).2) (ne : ∀ i, i ≠ 4 → (i < 42 ∨ 57 < i) → mI M' 1 i = mI M 1 i) : HM (saidS c l) M' := by
  have hA := h.A
  have hw := h.w
  have l8 := hw.parties
  refine ⟨h.R.sx hX, RepA_hd (c' := saidS c l) hA hw rfl rfl rfl rfl ((ne 1 (by omega) (by omega)).trans hA.texts) ((ne 2 (by omega) (by omega)).trans hA.ruling) e ((ne 84 (by omega) (by omega)).trans hA.parties) (fun p hp => (ne _ (by omega) (by omega)).trans (hA.hears hp)) ei (fun v hv => (ne _ (by omega) (by omega)).trans (hA.village hv)) (fun i hi => ⟨(ne _ (by omega) (by omega)).trans (hA.party hi).1, (ne _ (by omega) (by omega)).trans (hA.party hi).2⟩) (fun i _ _ d b => ne i d (by omega)), by rw [(hX.2 3 (by unfold S01; decide)).1]; exact h.T, ?_⟩
  obtain ⟨a1, a2, a3, a4, a5, a6, a7, a8, a9, a10, a11, a12, a13, a14, a15⟩ := hw
  exact ⟨a1, a2, a3, a4, a5, a6, a7, a8, a9, a10, a11, hl, hq, a14, a15⟩
theorem pair_snoc {l : List (Nat × Nat)} {a b : Nat} {f f' : Nat → Int32} {base : Nat} (h : ∀ i, i < l.length → f (base + 2 * i) = nI (l.getD i (0, 0)).1 ∧ f (base + 2 * i + 1) = nI (l.getD i (0, 0)).2) (e1 : f' (base + 2 * l.length) = nI a) (e2 : f' (base + 2 * l.length + 1) = nI b) (ne : ∀ i, i < base + 2 * l.length → base ≤ i → f' i = f i) : ∀ i, i < (l ++ [(a, b)]).length → f' (base + 2 * i) = nI ((l ++ [(a, b)]).getD i (0, 0)).1 ∧ f' (base + 2 * i + 1) = nI ((l ++ [(a, b)]).getD i (0, 0)).2 := by
  intro i hi
  have hi2 : i < l.length + 1 := by simpa using hi
  rw [getD_snoc]
  by_cases q : i < l.length
  · rw [if_pos q, ne _ (by omega) (by omega), ne _ (by omega) (by omega)]
    exact h i q
  · rw [if_neg q, if_pos (by omega), show i = l.length by omega]
    exact ⟨e1, e2⟩
theorem HM_partyA {c : Cr} {M : Mem} {a b : Nat} (hM : HM c M) (hl8 : c.parties.length < 8) (hab : a ≤ b) (hb : b ≤ 8) : HM (partS c (c.parties ++ [(a, b)])) (wI (wI (wI M 1 (68 + 2 * c.parties.length) (nI a)) 1 (68 + 2 * c.parties.length + 1) (nI b)) 1 84 (nI (c.parties.length + 1))) := by
  refine HM_party (l := c.parties ++ [(a, b)]) hM (((Sx.rf.wI (P := S01) rfl).wI rfl).wI rfl) (by rw [List.length_append]; show _ + 1 ≤ 8; omega) (fun q hq => ?_) ?_ ?_ (fun i q => ?_)
  · rcases List.mem_append.mp hq with q2 | q2
    · exact hM.w.party q q2
    · rw [List.mem_singleton.mp q2]; exact ⟨hab, hb⟩
  · rw [mI_w1, if_pos rfl, List.length_append]; rfl
  · exact pair_snoc (f := mI M 1) (fun i hi => hM.A.party hi) (by rw [mI_w1, if_neg (by omega), mI_w1, if_neg (by omega), mI_w1, if_pos rfl]) (by rw [mI_w1, if_neg (by omega), mI_w1, if_pos rfl]) (fun i p1 p2 => by rw [mI_w1, if_neg (by omega), mI_w1, if_neg (by omega), mI_w1, if_neg (by omega)])
  · rw [mI_w1, if_neg (by omega), mI_w1, if_neg (by omega), mI_w1, if_neg (by omega)]
theorem HM_saidA {c : Cr} {M : Mem} {a b : Nat} (hM : HM c M) (hl8 : c.saids.length < 8) (ha : a ≤ 8) (hb : b ≤ 8) : HM (saidS c (c.saids ++ [(a, b)])) (wI (wI (wI M 1 (42 + 2 * c.saids.length) (nI a)) 1 (42 + 2 * c.saids.length + 1) (nI b)) 1 4 (nI (c.saids.length + 1))) := by
  refine HM_said (l := c.saids ++ [(a, b)]) hM (((Sx.rf.wI (P := S01) rfl).wI rfl).wI rfl) (by rw [List.length_append]; show _ + 1 ≤ 8; omega) (fun q hq => ?_) ?_ ?_ (fun i q1 q => ?_)
  · rcases List.mem_append.mp hq with q2 | q2
    · exact hM.w.said q q2
    · rw [List.mem_singleton.mp q2]; exact ⟨ha, hb⟩
  · rw [mI_w1, if_pos rfl, List.length_append]; rfl
  · exact pair_snoc (f := mI M 1) (fun i hi => hM.A.said hi) (by rw [mI_w1, if_neg (by omega), mI_w1, if_neg (by omega), mI_w1, if_pos rfl]) (by rw [mI_w1, if_neg (by omega), mI_w1, if_pos rfl]) (fun i p1 p2 => by rw [mI_w1, if_neg (by omega), mI_w1, if_neg (by omega), mI_w1, if_neg (by omega)])
  · rw [mI_w1, if_neg (by omega), mI_w1, if_neg (by omega), mI_w1, if_neg (by omega)]
theorem nN1 {k : Nat} (hk : k < 2147483648) : ¬ nI k = -1 := nI_nm1 hk
theorem sp_TM_party {c : Cr} {M : Mem} (hM : HM c M) (x y : Int32) : E 1 0 0 Y_TM_party 0 [some (.ref 0), some (.int x), some (.int y)] [] GM M (QI GM fun r M' => r = ans_party c x y ∧ HM (st_party c x y) M' ∧ Sx S1 M M') := by
  have hR := hM.R
  have hA := hM.A
  have hwf := hM.w
  have l8 := hwf.parties
  have e84 := hA.parties
  by_cases h1 : x = -1
  · rw [ans_party, st_party, if_pos h1, if_pos h1]
    refine E_iload_n d_TM_party_0 rfl ?_
    refine E_iconst (v := (-1)) d_TM_party_1 rfl ?_
    first | (with_reducible refine E_isN2 ?_; refine E_icmp_ne 15 d_TM_party_2 rfl (nb_ne fun h2 => ?_) (nb_eq (by omega) (by omega) fun h2 => ?_)) | refine E_icmp_ne 15 d_TM_party_2 rfl (fun h2 => ?_) (fun h2 => ?_)
    · exfalso; exact h2 h1
    first | refine E_aload_n d_TM_party_5 rfl ?_ | refine E_aload_nN d_TM_party_5 rfl ?_
    refine E_getR (q := 1) d_TM_party_6 gf_TM_7 (by exact ⟨by decide, rfl⟩) (by exact hR _ rfl) ?_
    refine E_bipush (v := nI 84) d_TM_party_9 (by decide) ?_
    refine E_iconst (v := nI 0) d_TM_party_11 rfl ?_
    refine E_iast d_TM_party_12 (by exact ⟨by decide, rfl⟩) (by exact ⟨by with_reducible rfl, by omega, by decide⟩) ?_
    refine E_iconst (v := nI 0) d_TM_party_13 rfl ?_
    refine E_retI d_TM_party_14 rfl ?_
    exact ⟨rfl, HM_party (l := []) hM (Sx.rf.wI (P := S01) rfl) (by decide) (fun q hq => absurd hq List.not_mem_nil) ((mI_w1 _).trans (if_pos rfl)) (fun i hi => absurd hi (Nat.not_lt_zero i)) (fun i q => (mI_w1 _).trans (if_neg (by omega))), Sx.rf.wI S1.o⟩
  · by_cases hp : prtP c x y
    · rw [ans_party, st_party, if_neg h1, if_neg h1, if_pos hp, if_pos hp]
      have ey := (in_nI hp.1).1
      have ex := (in_nI hp.2.1).1
      have ly := (in_nI hp.1).2
      have lx := (in_nI hp.2.1).2
      have hin1 := hp.1
      have hin2 := hp.2.1
      have hl8 := hp.2.2
      revert h1 hin1 hin2
      rw [ex, ey]
      generalize tN x = a at lx ⊢
      generalize tN y = b at lx ly ⊢
      rw [show tN (nI b) = b from tN_nI (by omega)]
      intro h1 hin1 hin2
      rw [tN_nI (show a < 2147483648 by omega)]
      refine E_iload_n d_TM_party_0 rfl ?_
      refine E_iconst (v := (-1)) d_TM_party_1 rfl ?_
      first | (with_reducible refine E_isN2 ?_; refine E_icmp_ne 15 d_TM_party_2 rfl (nb_ne fun h2 => ?_) (nb_eq (by omega) (by omega) fun h2 => ?_)) | refine E_icmp_ne 15 d_TM_party_2 rfl (fun h2 => ?_) (fun h2 => ?_)
      rotate_left
      · exfalso; exact h1 h2
      refine E_iload_n d_TM_party_15 rfl ?_
      refine E_iconst (v := nI 0) d_TM_party_16 rfl ?_
      refine E_bipush (v := nI 8) d_TM_party_17 (by decide) ?_
      refine E_S3 (sp_TM_in _ 8 (by decide)) d_TM_party_19 ml_TM_69 cb_TM_isIn cs_TM_isIn ⟨by decide, by decide⟩ rfl (Nat.le_of_ble_eq_true rfl) (Nat.le_of_ble_eq_true rfl) (kI fun r1 M1 hc => ?_)
      obtain ⟨rfl, rfl⟩ := hc
      first | (with_reducible refine E_isP ?_; refine E_if_eq 46 d_TM_party_22 rfl (pb_0 fun h22 => ?_) (pb_1 fun h22 => ?_)) | (with_reducible refine E_isN1 ?_; refine E_if_eq 46 d_TM_party_22 rfl (nz_eq (by omega) fun h22 => ?_) (nz_ne fun h22 => ?_)) | refine E_if_eq 46 d_TM_party_22 rfl (fun h22 => ?_) (fun h22 => ?_)
      · exfalso; exact h22 hin1
      refine E_iload_n d_TM_party_25 rfl ?_
      refine E_iconst (v := nI 0) d_TM_party_26 rfl ?_
      refine E_iload_n d_TM_party_27 rfl ?_
      refine E_S3 (sp_TM_in _ b (by omega)) d_TM_party_28 ml_TM_69 cb_TM_isIn cs_TM_isIn ⟨by decide, by decide⟩ rfl (Nat.le_of_ble_eq_true rfl) (Nat.le_of_ble_eq_true rfl) (kI fun r1 M1 hc => ?_)
      obtain ⟨rfl, rfl⟩ := hc
      first | (with_reducible refine E_isP ?_; refine E_if_eq 46 d_TM_party_31 rfl (pb_0 fun h31 => ?_) (pb_1 fun h31 => ?_)) | (with_reducible refine E_isN1 ?_; refine E_if_eq 46 d_TM_party_31 rfl (nz_eq (by omega) fun h31 => ?_) (nz_ne fun h31 => ?_)) | refine E_if_eq 46 d_TM_party_31 rfl (fun h31 => ?_) (fun h31 => ?_)
      · exfalso; exact h31 hin2
      first | refine E_aload_n d_TM_party_34 rfl ?_ | refine E_aload_nN d_TM_party_34 rfl ?_
      refine E_getR (q := 1) d_TM_party_35 gf_TM_7 (by exact ⟨by decide, rfl⟩) (by exact hR _ rfl) ?_
      refine E_bipush (v := nI 84) d_TM_party_38 (by decide) ?_
      refine E_iald d_TM_party_40 (by exact ⟨by decide, rfl⟩) (by exact ⟨by with_reducible rfl, by omega, by decide⟩) (by exact e84) ?_
      refine E_bipush (v := nI 8) d_TM_party_41 (by decide) ?_
      first | (with_reducible refine E_isN2 ?_; refine E_icmp_ne 49 d_TM_party_43 rfl (nb_ne fun h43 => ?_) (nb_eq (by omega) (by omega) fun h43 => ?_)) | refine E_icmp_ne 49 d_TM_party_43 rfl (fun h43 => ?_) (fun h43 => ?_)
      rotate_left
      · exfalso; exact hl8 h43
      first | refine E_aload_n d_TM_party_49 rfl ?_ | refine E_aload_nN d_TM_party_49 rfl ?_
      refine E_getR (q := 1) d_TM_party_50 gf_TM_7 (by exact ⟨by decide, rfl⟩) (by exact hR _ rfl) ?_
      refine E_bipush (v := nI 68) d_TM_party_53 (by decide) ?_
      refine E_iconst (v := nI 2) d_TM_party_55 rfl ?_
      first | refine E_aload_n d_TM_party_56 rfl ?_ | refine E_aload_nN d_TM_party_56 rfl ?_
      refine E_getR (q := 1) d_TM_party_57 gf_TM_7 (by exact ⟨by decide, rfl⟩) (by exact hR _ rfl) ?_
      refine E_bipush (v := nI 84) d_TM_party_60 (by decide) ?_
      refine E_iald d_TM_party_62 (by exact ⟨by decide, rfl⟩) (by exact ⟨by with_reducible rfl, by omega, by decide⟩) (by exact e84) ?_
      first | (with_reducible refine E_isN2 ?_; refine E_imulN d_TM_party_63 ?_) | refine E_imul d_TM_party_63 ?_
      first | (with_reducible refine E_isN2 ?_; refine E_iaddN d_TM_party_64 ?_) | refine E_iadd d_TM_party_64 ?_
      refine E_iload_n d_TM_party_65 rfl ?_
      refine E_iast d_TM_party_66 (by exact ⟨by decide, rfl⟩) (by exact ⟨by with_reducible rfl, by omega, by decide⟩) ?_
      first | refine E_aload_n d_TM_party_67 rfl ?_ | refine E_aload_nN d_TM_party_67 rfl ?_
      refine E_getR (q := 1) d_TM_party_68 gf_TM_7 (by exact ⟨by decide, rfl⟩) (by exact hR _ rfl) ?_
      refine E_bipush (v := nI 68) d_TM_party_71 (by decide) ?_
      refine E_iconst (v := nI 2) d_TM_party_73 rfl ?_
      first | refine E_aload_n d_TM_party_74 rfl ?_ | refine E_aload_nN d_TM_party_74 rfl ?_
      refine E_getR (q := 1) d_TM_party_75 gf_TM_7 (by exact ⟨by decide, rfl⟩) (by exact hR _ rfl) ?_
      refine E_bipush (v := nI 84) d_TM_party_78 (by decide) ?_
      refine E_iald d_TM_party_80 (by exact ⟨by decide, rfl⟩) (by exact ⟨by with_reducible rfl, by omega, by decide⟩) (by exact (mI_w1 _).trans ((if_neg (by omega)).trans e84)) ?_
      first | (with_reducible refine E_isN2 ?_; refine E_imulN d_TM_party_81 ?_) | refine E_imul d_TM_party_81 ?_
      first | (with_reducible refine E_isN2 ?_; refine E_iaddN d_TM_party_82 ?_) | refine E_iadd d_TM_party_82 ?_
      refine E_iconst (v := nI 1) d_TM_party_83 rfl ?_
      first | (with_reducible refine E_isN2 ?_; refine E_iaddN d_TM_party_84 ?_) | refine E_iadd d_TM_party_84 ?_
      refine E_iload_n d_TM_party_85 rfl ?_
      refine E_iast d_TM_party_86 (by exact ⟨by decide, rfl⟩) (by exact ⟨by with_reducible rfl, by omega, by decide⟩) ?_
      first | refine E_aload_n d_TM_party_87 rfl ?_ | refine E_aload_nN d_TM_party_87 rfl ?_
      refine E_getR (q := 1) d_TM_party_88 gf_TM_7 (by exact ⟨by decide, rfl⟩) (by exact hR _ rfl) ?_
      refine E_bipush (v := nI 84) d_TM_party_91 (by decide) ?_
      refine E_dup2 d_TM_party_93 rfl rfl ?_
      refine E_iald d_TM_party_94 (by exact ⟨by decide, rfl⟩) (by exact ⟨by with_reducible rfl, by omega, by decide⟩) (by exact (mI_w1 _).trans ((if_neg (by omega)).trans ((mI_w1 _).trans ((if_neg (by omega)).trans e84)))) ?_
      refine E_iconst (v := nI 1) d_TM_party_95 rfl ?_
      first | (with_reducible refine E_isN2 ?_; refine E_iaddN d_TM_party_96 ?_) | refine E_iadd d_TM_party_96 ?_
      refine E_iast d_TM_party_97 (by exact ⟨by decide, rfl⟩) (by exact ⟨by with_reducible rfl, by omega, by decide⟩) ?_
      first | refine E_aload_n d_TM_party_98 rfl ?_ | refine E_aload_nN d_TM_party_98 rfl ?_
      refine E_getR (q := 1) d_TM_party_99 gf_TM_7 (by exact ⟨by decide, rfl⟩) (by exact hR _ rfl) ?_
      refine E_bipush (v := nI 84) d_TM_party_102 (by decide) ?_
      refine E_iald d_TM_party_104 (by exact ⟨by decide, rfl⟩) (by exact ⟨by with_reducible rfl, by omega, by decide⟩) (by exact (mI_w1 _).trans (if_pos rfl)) ?_
      refine E_retI d_TM_party_105 rfl ?_
      exact ⟨rfl, HM_partyA hM (by omega) (by omega) (by omega), ((Sx.rf.wI S1.o).wI S1.o).wI S1.o⟩
    · rw [ans_party, st_party, if_neg h1, if_neg h1, if_neg hp, if_neg hp]
      have hy : ∀ n, y = nI n → n < 9 → (tN y + 1) = n + 1 := fun n q hn => by rw [q, tN_nI (by omega)]
      by_cases hy9 : inN y 9
      · have ey := (in_nI hy9).1
        have ly := (in_nI hy9).2
        have hp3 : ∀ h : inN x (tN y + 1), c.parties.length = 8 := fun h => Decidable.not_not.mp fun q => hp ⟨hy9, h, q⟩
        revert hy9 hp3
        rw [ey]
        generalize tN y = b at ly ⊢
        rw [show tN (nI b) = b from tN_nI (by omega)]
        intro hy9 hp3
        refine E_iload_n d_TM_party_0 rfl ?_
        refine E_iconst (v := (-1)) d_TM_party_1 rfl ?_
        first | (with_reducible refine E_isN2 ?_; refine E_icmp_ne 15 d_TM_party_2 rfl (nb_ne fun h2 => ?_) (nb_eq (by omega) (by omega) fun h2 => ?_)) | refine E_icmp_ne 15 d_TM_party_2 rfl (fun h2 => ?_) (fun h2 => ?_)
        rotate_left
        · exfalso; exact h1 h2
        refine E_iload_n d_TM_party_15 rfl ?_
        refine E_iconst (v := nI 0) d_TM_party_16 rfl ?_
        refine E_bipush (v := nI 8) d_TM_party_17 (by decide) ?_
        refine E_S3 (sp_TM_in _ 8 (by decide)) d_TM_party_19 ml_TM_69 cb_TM_isIn cs_TM_isIn ⟨by decide, by decide⟩ rfl (Nat.le_of_ble_eq_true rfl) (Nat.le_of_ble_eq_true rfl) (kI fun r1 M1 hc => ?_)
        obtain ⟨rfl, rfl⟩ := hc
        first | (with_reducible refine E_isP ?_; refine E_if_eq 46 d_TM_party_22 rfl (pb_0 fun h22 => ?_) (pb_1 fun h22 => ?_)) | (with_reducible refine E_isN1 ?_; refine E_if_eq 46 d_TM_party_22 rfl (nz_eq (by omega) fun h22 => ?_) (nz_ne fun h22 => ?_)) | refine E_if_eq 46 d_TM_party_22 rfl (fun h22 => ?_) (fun h22 => ?_)
        · exfalso; exact h22 hy9
        refine E_iload_n d_TM_party_25 rfl ?_
        refine E_iconst (v := nI 0) d_TM_party_26 rfl ?_
        refine E_iload_n d_TM_party_27 rfl ?_
        refine E_S3 (sp_TM_in _ b (by omega)) d_TM_party_28 ml_TM_69 cb_TM_isIn cs_TM_isIn ⟨by decide, by decide⟩ rfl (Nat.le_of_ble_eq_true rfl) (Nat.le_of_ble_eq_true rfl) (kI fun r1 M1 hc => ?_)
        obtain ⟨rfl, rfl⟩ := hc
        first | (with_reducible refine E_isP ?_; refine E_if_eq 46 d_TM_party_31 rfl (pb_0 fun h31 => ?_) (pb_1 fun h31 => ?_)) | (with_reducible refine E_isN1 ?_; refine E_if_eq 46 d_TM_party_31 rfl (nz_eq (by omega) fun h31 => ?_) (nz_ne fun h31 => ?_)) | refine E_if_eq 46 d_TM_party_31 rfl (fun h31 => ?_) (fun h31 => ?_)
        · refine E_bipush (v := (-2)) d_TM_party_46 (by decide) ?_
          refine E_retI d_TM_party_48 rfl ?_
          exact ⟨rfl, hM, Sx.rf⟩
        · first | refine E_aload_n d_TM_party_34 rfl ?_ | refine E_aload_nN d_TM_party_34 rfl ?_
          refine E_getR (q := 1) d_TM_party_35 gf_TM_7 (by exact ⟨by decide, rfl⟩) (by exact hR _ rfl) ?_
          refine E_bipush (v := nI 84) d_TM_party_38 (by decide) ?_
          refine E_iald d_TM_party_40 (by exact ⟨by decide, rfl⟩) (by exact ⟨by with_reducible rfl, by omega, by decide⟩) (by exact e84) ?_
          refine E_bipush (v := nI 8) d_TM_party_41 (by decide) ?_
          first | (with_reducible refine E_isN2 ?_; refine E_icmp_ne 49 d_TM_party_43 rfl (nb_ne fun h43 => ?_) (nb_eq (by omega) (by omega) fun h43 => ?_)) | refine E_icmp_ne 49 d_TM_party_43 rfl (fun h43 => ?_) (fun h43 => ?_)
          · exfalso; exact h43 (hp3 h31)
          refine E_bipush (v := (-2)) d_TM_party_46 (by decide) ?_
          refine E_retI d_TM_party_48 rfl ?_
          exact ⟨rfl, hM, Sx.rf⟩
      · refine E_iload_n d_TM_party_0 rfl ?_
        refine E_iconst (v := (-1)) d_TM_party_1 rfl ?_
        first | (with_reducible refine E_isN2 ?_; refine E_icmp_ne 15 d_TM_party_2 rfl (nb_ne fun h2 => ?_) (nb_eq (by omega) (by omega) fun h2 => ?_)) | refine E_icmp_ne 15 d_TM_party_2 rfl (fun h2 => ?_) (fun h2 => ?_)
        rotate_left
        · exfalso; exact h1 h2
        refine E_iload_n d_TM_party_15 rfl ?_
        refine E_iconst (v := nI 0) d_TM_party_16 rfl ?_
        refine E_bipush (v := nI 8) d_TM_party_17 (by decide) ?_
        refine E_S3 (sp_TM_in _ 8 (by decide)) d_TM_party_19 ml_TM_69 cb_TM_isIn cs_TM_isIn ⟨by decide, by decide⟩ rfl (Nat.le_of_ble_eq_true rfl) (Nat.le_of_ble_eq_true rfl) (kI fun r1 M1 hc => ?_)
        obtain ⟨rfl, rfl⟩ := hc
        first | (with_reducible refine E_isP ?_; refine E_if_eq 46 d_TM_party_22 rfl (pb_0 fun h22 => ?_) (pb_1 fun h22 => ?_)) | (with_reducible refine E_isN1 ?_; refine E_if_eq 46 d_TM_party_22 rfl (nz_eq (by omega) fun h22 => ?_) (nz_ne fun h22 => ?_)) | refine E_if_eq 46 d_TM_party_22 rfl (fun h22 => ?_) (fun h22 => ?_)
        rotate_left
        · exfalso; exact hy9 h22
        refine E_bipush (v := (-2)) d_TM_party_46 (by decide) ?_
        refine E_retI d_TM_party_48 rfl ?_
        exact ⟨rfl, hM, Sx.rf⟩
theorem sp_TM_said {c : Cr} {M : Mem} (hM : HM c M) (x y : Int32) : E 1 0 0 Y_TM_said 0 [some (.ref 0), some (.int x), some (.int y)] [] GM M (QI GM fun r M' => r = ans_said c x y ∧ HM (st_said c x y) M' ∧ Sx S1 M M') := by
  have hR := hM.R
  have hA := hM.A
  have hwf := hM.w
  have l8 := hwf.saids
  have e4 := hA.saids
  by_cases h1 : x = -1
  · rw [ans_said, st_said, if_pos h1, if_pos h1]
    refine E_iload_n d_TM_said_0 rfl ?_
    refine E_iconst (v := (-1)) d_TM_said_1 rfl ?_
    first | (with_reducible refine E_isN2 ?_; refine E_icmp_ne 14 d_TM_said_2 rfl (nb_ne fun h2 => ?_) (nb_eq (by omega) (by omega) fun h2 => ?_)) | refine E_icmp_ne 14 d_TM_said_2 rfl (fun h2 => ?_) (fun h2 => ?_)
    · exfalso; exact h2 h1
    first | refine E_aload_n d_TM_said_5 rfl ?_ | refine E_aload_nN d_TM_said_5 rfl ?_
    refine E_getR (q := 1) d_TM_said_6 gf_TM_7 (by exact ⟨by decide, rfl⟩) (by exact hR _ rfl) ?_
    refine E_iconst (v := nI 4) d_TM_said_9 rfl ?_
    refine E_iconst (v := nI 0) d_TM_said_10 rfl ?_
    refine E_iast d_TM_said_11 (by exact ⟨by decide, rfl⟩) (by exact ⟨by with_reducible rfl, by omega, by decide⟩) ?_
    refine E_iconst (v := nI 0) d_TM_said_12 rfl ?_
    refine E_retI d_TM_said_13 rfl ?_
    exact ⟨rfl, HM_said (l := []) hM (Sx.rf.wI (P := S01) rfl) (by decide) (fun q hq => absurd hq List.not_mem_nil) ((mI_w1 _).trans (if_pos rfl)) (fun i hi => absurd hi (Nat.not_lt_zero i)) (fun i q _ => (mI_w1 _).trans (if_neg q)), Sx.rf.wI S1.o⟩
  · rw [ans_said, st_said, if_neg h1, if_neg h1]
    revert h1
    revert x y
    refine args2 9 9 (fun a b ha hx ht hb hy ht2 h1 => ?_) (fun x y hx h1 => ?_) (fun x y hx hy h1 => ?_)
    · by_cases h8 : c.saids.length = 8
      · have hn : ¬ saiP c (nI a) (nI b) := fun q => q.2.2 h8
        rw [if_neg hn, if_neg hn]
        refine E_iload_n d_TM_said_0 rfl ?_
        refine E_iconst (v := (-1)) d_TM_said_1 rfl ?_
        first | (with_reducible refine E_isN2 ?_; refine E_icmp_ne 14 d_TM_said_2 rfl (nb_ne fun h2 => ?_) (nb_eq (by omega) (by omega) fun h2 => ?_)) | refine E_icmp_ne 14 d_TM_said_2 rfl (fun h2 => ?_) (fun h2 => ?_)
        rotate_left
        · exfalso; exact h1 h2
        refine E_iload_n d_TM_said_14 rfl ?_
        refine E_iconst (v := nI 0) d_TM_said_15 rfl ?_
        refine E_bipush (v := nI 8) d_TM_said_16 (by decide) ?_
        refine E_S3 (sp_TM_in _ 8 (by decide)) d_TM_said_18 ml_TM_69 cb_TM_isIn cs_TM_isIn ⟨by decide, by decide⟩ rfl (Nat.le_of_ble_eq_true rfl) (Nat.le_of_ble_eq_true rfl) (kI fun r1 M1 hc => ?_)
        obtain ⟨rfl, rfl⟩ := hc
        first | (with_reducible refine E_isP ?_; refine E_if_eq 45 d_TM_said_21 rfl (pb_0 fun h21 => ?_) (pb_1 fun h21 => ?_)) | (with_reducible refine E_isN1 ?_; refine E_if_eq 45 d_TM_said_21 rfl (nz_eq (by omega) fun h21 => ?_) (nz_ne fun h21 => ?_)) | refine E_if_eq 45 d_TM_said_21 rfl (fun h21 => ?_) (fun h21 => ?_)
        · exfalso; exact h21 hx
        refine E_iload_n d_TM_said_24 rfl ?_
        refine E_iconst (v := nI 0) d_TM_said_25 rfl ?_
        refine E_bipush (v := nI 8) d_TM_said_26 (by decide) ?_
        refine E_S3 (sp_TM_in _ 8 (by decide)) d_TM_said_28 ml_TM_69 cb_TM_isIn cs_TM_isIn ⟨by decide, by decide⟩ rfl (Nat.le_of_ble_eq_true rfl) (Nat.le_of_ble_eq_true rfl) (kI fun r1 M1 hc => ?_)
        obtain ⟨rfl, rfl⟩ := hc
        first | (with_reducible refine E_isP ?_; refine E_if_eq 45 d_TM_said_31 rfl (pb_0 fun h31 => ?_) (pb_1 fun h31 => ?_)) | (with_reducible refine E_isN1 ?_; refine E_if_eq 45 d_TM_said_31 rfl (nz_eq (by omega) fun h31 => ?_) (nz_ne fun h31 => ?_)) | refine E_if_eq 45 d_TM_said_31 rfl (fun h31 => ?_) (fun h31 => ?_)
        · exfalso; exact h31 hy
        first | refine E_aload_n d_TM_said_34 rfl ?_ | refine E_aload_nN d_TM_said_34 rfl ?_
        refine E_getR (q := 1) d_TM_said_35 gf_TM_7 (by exact ⟨by decide, rfl⟩) (by exact hR _ rfl) ?_
        refine E_iconst (v := nI 4) d_TM_said_38 rfl ?_
        refine E_iald d_TM_said_39 (by exact ⟨by decide, rfl⟩) (by exact ⟨by with_reducible rfl, by omega, by decide⟩) (by exact e4) ?_
        refine E_bipush (v := nI 8) d_TM_said_40 (by decide) ?_
        first | (with_reducible refine E_isN2 ?_; refine E_icmp_ne 48 d_TM_said_42 rfl (nb_ne fun h42 => ?_) (nb_eq (by omega) (by omega) fun h42 => ?_)) | refine E_icmp_ne 48 d_TM_said_42 rfl (fun h42 => ?_) (fun h42 => ?_)
        · exfalso; exact h42 h8
        refine E_bipush (v := (-2)) d_TM_said_45 (by decide) ?_
        refine E_retI d_TM_said_47 rfl ?_
        exact ⟨rfl, hM, Sx.rf⟩
      · have hP : saiP c (nI a) (nI b) := ⟨hx, hy, h8⟩
        rw [if_pos hP, if_pos hP, ht, ht2]
        refine E_iload_n d_TM_said_0 rfl ?_
        refine E_iconst (v := (-1)) d_TM_said_1 rfl ?_
        first | (with_reducible refine E_isN2 ?_; refine E_icmp_ne 14 d_TM_said_2 rfl (nb_ne fun h2 => ?_) (nb_eq (by omega) (by omega) fun h2 => ?_)) | refine E_icmp_ne 14 d_TM_said_2 rfl (fun h2 => ?_) (fun h2 => ?_)
        rotate_left
        · exfalso; exact h1 h2
        refine E_iload_n d_TM_said_14 rfl ?_
        refine E_iconst (v := nI 0) d_TM_said_15 rfl ?_
        refine E_bipush (v := nI 8) d_TM_said_16 (by decide) ?_
        refine E_S3 (sp_TM_in _ 8 (by decide)) d_TM_said_18 ml_TM_69 cb_TM_isIn cs_TM_isIn ⟨by decide, by decide⟩ rfl (Nat.le_of_ble_eq_true rfl) (Nat.le_of_ble_eq_true rfl) (kI fun r1 M1 hc => ?_)
        obtain ⟨rfl, rfl⟩ := hc
        first | (with_reducible refine E_isP ?_; refine E_if_eq 45 d_TM_said_21 rfl (pb_0 fun h21 => ?_) (pb_1 fun h21 => ?_)) | (with_reducible refine E_isN1 ?_; refine E_if_eq 45 d_TM_said_21 rfl (nz_eq (by omega) fun h21 => ?_) (nz_ne fun h21 => ?_)) | refine E_if_eq 45 d_TM_said_21 rfl (fun h21 => ?_) (fun h21 => ?_)
        · exfalso; exact h21 hx
        refine E_iload_n d_TM_said_24 rfl ?_
        refine E_iconst (v := nI 0) d_TM_said_25 rfl ?_
        refine E_bipush (v := nI 8) d_TM_said_26 (by decide) ?_
        refine E_S3 (sp_TM_in _ 8 (by decide)) d_TM_said_28 ml_TM_69 cb_TM_isIn cs_TM_isIn ⟨by decide, by decide⟩ rfl (Nat.le_of_ble_eq_true rfl) (Nat.le_of_ble_eq_true rfl) (kI fun r1 M1 hc => ?_)
        obtain ⟨rfl, rfl⟩ := hc
        first | (with_reducible refine E_isP ?_; refine E_if_eq 45 d_TM_said_31 rfl (pb_0 fun h31 => ?_) (pb_1 fun h31 => ?_)) | (with_reducible refine E_isN1 ?_; refine E_if_eq 45 d_TM_said_31 rfl (nz_eq (by omega) fun h31 => ?_) (nz_ne fun h31 => ?_)) | refine E_if_eq 45 d_TM_said_31 rfl (fun h31 => ?_) (fun h31 => ?_)
        · exfalso; exact h31 hy
        first | refine E_aload_n d_TM_said_34 rfl ?_ | refine E_aload_nN d_TM_said_34 rfl ?_
        refine E_getR (q := 1) d_TM_said_35 gf_TM_7 (by exact ⟨by decide, rfl⟩) (by exact hR _ rfl) ?_
        refine E_iconst (v := nI 4) d_TM_said_38 rfl ?_
        refine E_iald d_TM_said_39 (by exact ⟨by decide, rfl⟩) (by exact ⟨by with_reducible rfl, by omega, by decide⟩) (by exact e4) ?_
        refine E_bipush (v := nI 8) d_TM_said_40 (by decide) ?_
        first | (with_reducible refine E_isN2 ?_; refine E_icmp_ne 48 d_TM_said_42 rfl (nb_ne fun h42 => ?_) (nb_eq (by omega) (by omega) fun h42 => ?_)) | refine E_icmp_ne 48 d_TM_said_42 rfl (fun h42 => ?_) (fun h42 => ?_)
        rotate_left
        · exfalso; exact h8 h42
        first | refine E_aload_n d_TM_said_48 rfl ?_ | refine E_aload_nN d_TM_said_48 rfl ?_
        refine E_getR (q := 1) d_TM_said_49 gf_TM_7 (by exact ⟨by decide, rfl⟩) (by exact hR _ rfl) ?_
        refine E_bipush (v := nI 42) d_TM_said_52 (by decide) ?_
        refine E_iconst (v := nI 2) d_TM_said_54 rfl ?_
        first | refine E_aload_n d_TM_said_55 rfl ?_ | refine E_aload_nN d_TM_said_55 rfl ?_
        refine E_getR (q := 1) d_TM_said_56 gf_TM_7 (by exact ⟨by decide, rfl⟩) (by exact hR _ rfl) ?_
        refine E_iconst (v := nI 4) d_TM_said_59 rfl ?_
        refine E_iald d_TM_said_60 (by exact ⟨by decide, rfl⟩) (by exact ⟨by with_reducible rfl, by omega, by decide⟩) (by exact e4) ?_
        first | (with_reducible refine E_isN2 ?_; refine E_imulN d_TM_said_61 ?_) | refine E_imul d_TM_said_61 ?_
        first | (with_reducible refine E_isN2 ?_; refine E_iaddN d_TM_said_62 ?_) | refine E_iadd d_TM_said_62 ?_
        refine E_iload_n d_TM_said_63 rfl ?_
        refine E_iast d_TM_said_64 (by exact ⟨by decide, rfl⟩) (by exact ⟨by with_reducible rfl, by omega, by decide⟩) ?_
        first | refine E_aload_n d_TM_said_65 rfl ?_ | refine E_aload_nN d_TM_said_65 rfl ?_
        refine E_getR (q := 1) d_TM_said_66 gf_TM_7 (by exact ⟨by decide, rfl⟩) (by exact hR _ rfl) ?_
        refine E_bipush (v := nI 42) d_TM_said_69 (by decide) ?_
        refine E_iconst (v := nI 2) d_TM_said_71 rfl ?_
        first | refine E_aload_n d_TM_said_72 rfl ?_ | refine E_aload_nN d_TM_said_72 rfl ?_
        refine E_getR (q := 1) d_TM_said_73 gf_TM_7 (by exact ⟨by decide, rfl⟩) (by exact hR _ rfl) ?_
        refine E_iconst (v := nI 4) d_TM_said_76 rfl ?_
        refine E_iald d_TM_said_77 (by exact ⟨by decide, rfl⟩) (by exact ⟨by with_reducible rfl, by omega, by decide⟩) (by exact (mI_w1 _).trans ((if_neg (by omega)).trans e4)) ?_
        first | (with_reducible refine E_isN2 ?_; refine E_imulN d_TM_said_78 ?_) | refine E_imul d_TM_said_78 ?_
        first | (with_reducible refine E_isN2 ?_; refine E_iaddN d_TM_said_79 ?_) | refine E_iadd d_TM_said_79 ?_
        refine E_iconst (v := nI 1) d_TM_said_80 rfl ?_
        first | (with_reducible refine E_isN2 ?_; refine E_iaddN d_TM_said_81 ?_) | refine E_iadd d_TM_said_81 ?_
        refine E_iload_n d_TM_said_82 rfl ?_
        refine E_iast d_TM_said_83 (by exact ⟨by decide, rfl⟩) (by exact ⟨by with_reducible rfl, by omega, by decide⟩) ?_
        first | refine E_aload_n d_TM_said_84 rfl ?_ | refine E_aload_nN d_TM_said_84 rfl ?_
        refine E_getR (q := 1) d_TM_said_85 gf_TM_7 (by exact ⟨by decide, rfl⟩) (by exact hR _ rfl) ?_
        refine E_iconst (v := nI 4) d_TM_said_88 rfl ?_
        refine E_dup2 d_TM_said_89 rfl rfl ?_
        refine E_iald d_TM_said_90 (by exact ⟨by decide, rfl⟩) (by exact ⟨by with_reducible rfl, by omega, by decide⟩) (by exact (mI_w1 _).trans ((if_neg (by omega)).trans ((mI_w1 _).trans ((if_neg (by omega)).trans e4)))) ?_
        refine E_iconst (v := nI 1) d_TM_said_91 rfl ?_
        first | (with_reducible refine E_isN2 ?_; refine E_iaddN d_TM_said_92 ?_) | refine E_iadd d_TM_said_92 ?_
        refine E_iast d_TM_said_93 (by exact ⟨by decide, rfl⟩) (by exact ⟨by with_reducible rfl, by omega, by decide⟩) ?_
        first | refine E_aload_n d_TM_said_94 rfl ?_ | refine E_aload_nN d_TM_said_94 rfl ?_
        refine E_getR (q := 1) d_TM_said_95 gf_TM_7 (by exact ⟨by decide, rfl⟩) (by exact hR _ rfl) ?_
        refine E_iconst (v := nI 4) d_TM_said_98 rfl ?_
        refine E_iald d_TM_said_99 (by exact ⟨by decide, rfl⟩) (by exact ⟨by with_reducible rfl, by omega, by decide⟩) (by exact (mI_w1 _).trans (if_pos rfl)) ?_
        refine E_retI d_TM_said_100 rfl ?_
        exact ⟨rfl, HM_saidA hM (by omega) (by omega) (by omega), ((Sx.rf.wI S1.o).wI S1.o).wI S1.o⟩
    · have hn : ¬ saiP c x y := fun q => hx q.1
      rw [if_neg hn, if_neg hn]
      refine E_iload_n d_TM_said_0 rfl ?_
      refine E_iconst (v := (-1)) d_TM_said_1 rfl ?_
      first | (with_reducible refine E_isN2 ?_; refine E_icmp_ne 14 d_TM_said_2 rfl (nb_ne fun h2 => ?_) (nb_eq (by omega) (by omega) fun h2 => ?_)) | refine E_icmp_ne 14 d_TM_said_2 rfl (fun h2 => ?_) (fun h2 => ?_)
      rotate_left
      · exfalso; exact h1 h2
      refine E_iload_n d_TM_said_14 rfl ?_
      refine E_iconst (v := nI 0) d_TM_said_15 rfl ?_
      refine E_bipush (v := nI 8) d_TM_said_16 (by decide) ?_
      refine E_S3 (sp_TM_in _ 8 (by decide)) d_TM_said_18 ml_TM_69 cb_TM_isIn cs_TM_isIn ⟨by decide, by decide⟩ rfl (Nat.le_of_ble_eq_true rfl) (Nat.le_of_ble_eq_true rfl) (kI fun r1 M1 hc => ?_)
      obtain ⟨rfl, rfl⟩ := hc
      first | (with_reducible refine E_isP ?_; refine E_if_eq 45 d_TM_said_21 rfl (pb_0 fun h21 => ?_) (pb_1 fun h21 => ?_)) | (with_reducible refine E_isN1 ?_; refine E_if_eq 45 d_TM_said_21 rfl (nz_eq (by omega) fun h21 => ?_) (nz_ne fun h21 => ?_)) | refine E_if_eq 45 d_TM_said_21 rfl (fun h21 => ?_) (fun h21 => ?_)
      rotate_left
      · exfalso; exact hx h21
      refine E_bipush (v := (-2)) d_TM_said_45 (by decide) ?_
      refine E_retI d_TM_said_47 rfl ?_
      exact ⟨rfl, hM, Sx.rf⟩
    · have hn : ¬ saiP c x y := fun q => hy q.2.1
      rw [if_neg hn, if_neg hn]
      refine E_iload_n d_TM_said_0 rfl ?_
      refine E_iconst (v := (-1)) d_TM_said_1 rfl ?_
      first | (with_reducible refine E_isN2 ?_; refine E_icmp_ne 14 d_TM_said_2 rfl (nb_ne fun h2 => ?_) (nb_eq (by omega) (by omega) fun h2 => ?_)) | refine E_icmp_ne 14 d_TM_said_2 rfl (fun h2 => ?_) (fun h2 => ?_)
      rotate_left
      · exfalso; exact h1 h2
      refine E_iload_n d_TM_said_14 rfl ?_
      refine E_iconst (v := nI 0) d_TM_said_15 rfl ?_
      refine E_bipush (v := nI 8) d_TM_said_16 (by decide) ?_
      refine E_S3 (sp_TM_in _ 8 (by decide)) d_TM_said_18 ml_TM_69 cb_TM_isIn cs_TM_isIn ⟨by decide, by decide⟩ rfl (Nat.le_of_ble_eq_true rfl) (Nat.le_of_ble_eq_true rfl) (kI fun r1 M1 hc => ?_)
      obtain ⟨rfl, rfl⟩ := hc
      first | (with_reducible refine E_isP ?_; refine E_if_eq 45 d_TM_said_21 rfl (pb_0 fun h21 => ?_) (pb_1 fun h21 => ?_)) | (with_reducible refine E_isN1 ?_; refine E_if_eq 45 d_TM_said_21 rfl (nz_eq (by omega) fun h21 => ?_) (nz_ne fun h21 => ?_)) | refine E_if_eq 45 d_TM_said_21 rfl (fun h21 => ?_) (fun h21 => ?_)
      · exfalso; exact h21 hx
      refine E_iload_n d_TM_said_24 rfl ?_
      refine E_iconst (v := nI 0) d_TM_said_25 rfl ?_
      refine E_bipush (v := nI 8) d_TM_said_26 (by decide) ?_
      refine E_S3 (sp_TM_in _ 8 (by decide)) d_TM_said_28 ml_TM_69 cb_TM_isIn cs_TM_isIn ⟨by decide, by decide⟩ rfl (Nat.le_of_ble_eq_true rfl) (Nat.le_of_ble_eq_true rfl) (kI fun r1 M1 hc => ?_)
      obtain ⟨rfl, rfl⟩ := hc
      first | (with_reducible refine E_isP ?_; refine E_if_eq 45 d_TM_said_31 rfl (pb_0 fun h31 => ?_) (pb_1 fun h31 => ?_)) | (with_reducible refine E_isN1 ?_; refine E_if_eq 45 d_TM_said_31 rfl (nz_eq (by omega) fun h31 => ?_) (nz_ne fun h31 => ?_)) | refine E_if_eq 45 d_TM_said_31 rfl (fun h31 => ?_) (fun h31 => ?_)
      rotate_left
      · exfalso; exact hy h31
      refine E_bipush (v := (-2)) d_TM_said_45 (by decide) ?_
      refine E_retI d_TM_said_47 rfl ?_
      exact ⟨rfl, hM, Sx.rf⟩
