theorem cnt_sub {P P' : Nat → Bool} : ∀ n, (∀ k, k < n → P k = true → P' k = true) → cnt P n ≤ cnt P' n ∧ (cnt P' n ≤ cnt P n → ∀ k, k < n → P k = P' k) := by
  intro n
  induction n with
  | zero => intro _; exact ⟨Nat.le_refl _, fun _ k hk => absurd hk (Nat.not_lt_zero _)⟩
  | succ n ih =>
    intro h
    obtain ⟨h1, h2⟩ := ih (fun k hk => h k (Nat.lt_succ_of_lt hk))
    have hn := h n (Nat.lt_succ_self n)
    rw [cnt, cnt]
    cases e1 : P n <;> cases e2 : P' n
    · refine ⟨by simpa using h1, fun q k hk => ?_⟩
      rcases Nat.lt_succ_iff_lt_or_eq.mp hk with r | r
      · exact h2 (by simpa using q) k r
      · rw [r, e1, e2]
    · refine ⟨by simp; omega, fun q k hk => ?_⟩
      simp at q
      omega
    · rw [hn e1] at e2
      exact absurd e2 (by decide)
    · refine ⟨by simpa using h1, fun q k hk => ?_⟩
      rcases Nat.lt_succ_iff_lt_or_eq.mp hk with r | r
      · exact h2 (by simpa using q) k r
      · rw [r, e1, e2]
theorem pc9_cnt {s n : Nat} (hs : s < 2 ^ n) (hn : n ≤ 9) : pc9 s = cnt (fun k => s.testBit k) n := by
  have key : ∀ m, m ≤ n → pc9 (bset (fun k => s.testBit k) m) = cnt (fun k => s.testBit k) m := by
    intro m
    induction m with
    | zero => intro _; exact pc9_0
    | succ m ih =>
      intro hm
      rw [pc9_bset _ _ (by omega), ih (by omega), cnt]
  have := key n (Nat.le_refl _)
  rwa [bset_of hs] at this
theorem sub_eq {s t n : Nat} (hs : s < 2 ^ n) (ht : t < 2 ^ n) (hn : n ≤ 9) (h : ∀ k, s.testBit k = true → t.testBit k = true) : pc9 s ≤ pc9 t ∧ (pc9 t ≤ pc9 s → s = t) := by
  obtain ⟨h1, h2⟩ := cnt_sub n (fun k (_ : k < n) => h k)
  rw [pc9_cnt hs hn, pc9_cnt ht hn]
  exact ⟨h1, fun q => bits_ext hs ht (h2 q)⟩
theorem sweepA_sub (c : Cr) (s : Nat) : ∀ n k, s.testBit k = true → (sweepA c n s).testBit k = true := by
  intro n
  induction n with
  | zero => intro k h; exact h
  | succ n ih =>
    intro k h
    rw [sweepA]
    split
    · rw [Nat.testBit_or, ih k h]; rfl
    · exact ih k h
theorem sweepA_lt {c : Cr} (h : Wf c) {s : Nat} (hs : s < 2 ^ c.now.people) : ∀ n, sweepA c n s < 2 ^ c.now.people := by
  intro n
  induction n with
  | zero => exact hs
  | succ n ih =>
    rw [sweepA]
    split
    · exact or_lt ih (h.hears n)
    · exact ih
theorem sweep_lt {c : Cr} (h : Wf c) {s : Nat} (hs : s < 2 ^ c.now.people) : sweep c s < 2 ^ c.now.people := sweepA_lt h hs _
theorem swn_lt {c : Cr} (h : Wf c) (p : Nat) : ∀ n, itn (sweep c) n (c.hears p) < 2 ^ c.now.people := by
  intro n
  induction n with
  | zero => exact h.hears p
  | succ n ih => exact sweep_lt h ih
theorem sweep_0 (c : Cr) : sweep c 0 = 0 := by
  have key : ∀ n, sweepA c n 0 = 0 := by
    intro n
    induction n with
    | zero => rfl
    | succ n ih => rw [sweepA, ih, if_neg (by simp)]
  exact key _
theorem itn_fix {g : Nat → Nat} {x a : Nat} (h : g (itn g a x) = itn g a x) : ∀ k, itn g (a + k) x = itn g a x := by
  intro k
  induction k with
  | zero => rfl
  | succ k ih =>
    show g (itn g (a + k) x) = _
    rw [ih, h]
theorem swn_grow {c : Cr} (h : Wf c) (p : Nat) : ∀ n, sweep c (itn (sweep c) n (c.hears p)) = itn (sweep c) n (c.hears p) ∨ n ≤ pc9 (itn (sweep c) n (c.hears p)) := by
  have hp8 := h.p8
  intro n
  induction n with
  | zero => exact Or.inr (Nat.zero_le _)
  | succ n ih =>
    by_cases e : sweep c (itn (sweep c) n (c.hears p)) = itn (sweep c) n (c.hears p)
    · left
      show sweep c (sweep c (itn (sweep c) n (c.hears p))) = sweep c (itn (sweep c) n (c.hears p))
      rw [e, e]
    · right
      have h1 := ih.resolve_left e
      have h2 := sub_eq (swn_lt h p n) (sweep_lt h (swn_lt h p n)) (by omega) (sweepA_sub c _ c.now.people)
      show n + 1 ≤ pc9 (sweep c (itn (sweep c) n (c.hears p)))
      have h3 : ¬ pc9 (sweep c (itn (sweep c) n (c.hears p))) ≤ pc9 (itn (sweep c) n (c.hears p)) := fun q => e (h2.2 q).symm
      omega
theorem clo_fix {c : Cr} (h : Wf c) (p : Nat) : sweep c (clo c p) = clo c p := by
  have hp8 := h.p8
  rcases swn_grow h p c.now.people with e | e
  · exact e
  · have h2 := sub_eq (swn_lt h p c.now.people) (sweep_lt h (swn_lt h p c.now.people)) (by omega) (sweepA_sub c _ c.now.people)
    have h3 := pc9_le (sweep_lt h (swn_lt h p c.now.people))
    exact (h2.2 (by omega)).symm
theorem clo_lt {c : Cr} (h : Wf c) (p : Nat) : clo c p < 256 := Nat.lt_of_lt_of_le (swn_lt h p _) (pow256 h.p8)
theorem swn_clo {c : Cr} {p n : Nat} (hn : n ≤ c.now.people) (e : sweep c (itn (sweep c) n (c.hears p)) = itn (sweep c) n (c.hears p)) : itn (sweep c) n (c.hears p) = clo c p := by
  have := itn_fix e (c.now.people - n)
  rw [show n + (c.now.people - n) = c.now.people by omega] at this
  exact this.symm
theorem lp_TM_heardI {c : Cr} {M : Mem} {p s : Nat} {Q : Option Value → Geo → Mem → Prop} (hM : HM c M) (hs : s < 2 ^ c.now.people)
    (K : E 1 0 0 Y_TM_heardBy 12 [some (.ref 0), some (.int (nI p)), some (.int (nI (sweep c s))), some (.int (nI s)), none] [] GM M Q) :
    ∀ k q, q + k = c.now.people → E 1 0 0 Y_TM_heardBy 22 [some (.ref 0), some (.int (nI p)), some (.int (nI (sweepA c q s))), some (.int (nI s)), some (.int (nI q))] [] GM M Q := by
  have hR := hM.R
  have hA := hM.A
  have hp8 := hM.w.p8
  have h256 := pow256 hp8
  intro k
  induction k with
  | zero =>
    intro q hq
    have hq2 : q = c.now.people := by omega
    subst hq2
    refine E_iload d_TM_heardBy_22 rfl ?_
    first | refine E_aload_n d_TM_heardBy_24 rfl ?_ | refine E_aload_nN d_TM_heardBy_24 rfl ?_
    refine E_getR (q := 1) d_TM_heardBy_25 gf_TM_7 (by exact ⟨by decide, rfl⟩) (by exact hR _ rfl) ?_
    refine E_iconst (v := nI 0) d_TM_heardBy_28 rfl ?_
    refine E_iald d_TM_heardBy_29 (by exact ⟨by decide, rfl⟩) (by exact ⟨by with_reducible rfl, by omega, by decide⟩) (by first | exact hA.people | exact hA.hears (by omega) | rfl) ?_
    first | (with_reducible refine E_isN2 ?_; refine E_icmp_ge 61 d_TM_heardBy_30 rfl (nb_le (by omega) (by omega) fun h30 => ?_) (nb_nle (by omega) (by omega) fun h30 => ?_)) | refine E_icmp_ge 61 d_TM_heardBy_30 rfl (fun h30 => ?_) (fun h30 => ?_)
    rotate_left
    · exfalso; omega
    refine E_goto 12 d_TM_heardBy_61 rfl ?_
    refine E_wk ?_ K; exact ⟨Or.inl rfl, Or.inl rfl, Or.inl rfl, Or.inl rfl, Or.inr rfl, trivial⟩
  | succ k ih =>
    intro q hq
    have hl := sweepA_lt hM.w hs q
    have e : sweepA c (q + 1) s = if (sweepA c q s).testBit q = true then sweepA c q s ||| c.hears q else sweepA c q s := rfl
    refine E_iload d_TM_heardBy_22 rfl ?_
    first | refine E_aload_n d_TM_heardBy_24 rfl ?_ | refine E_aload_nN d_TM_heardBy_24 rfl ?_
    refine E_getR (q := 1) d_TM_heardBy_25 gf_TM_7 (by exact ⟨by decide, rfl⟩) (by exact hR _ rfl) ?_
    refine E_iconst (v := nI 0) d_TM_heardBy_28 rfl ?_
    refine E_iald d_TM_heardBy_29 (by exact ⟨by decide, rfl⟩) (by exact ⟨by with_reducible rfl, by omega, by decide⟩) (by first | exact hA.people | exact hA.hears (by omega) | rfl) ?_
    first | (with_reducible refine E_isN2 ?_; refine E_icmp_ge 61 d_TM_heardBy_30 rfl (nb_le (by omega) (by omega) fun h30 => ?_) (nb_nle (by omega) (by omega) fun h30 => ?_)) | refine E_icmp_ge 61 d_TM_heardBy_30 rfl (fun h30 => ?_) (fun h30 => ?_)
    · exfalso; omega
    refine E_iload_n d_TM_heardBy_33 rfl ?_
    refine E_iload d_TM_heardBy_34 rfl ?_
    refine E_S2 (sp_TM_has _ _ (by omega) (by omega)) d_TM_heardBy_36 ml_TM_229 cb_TM_has cs_TM_has ⟨by decide, by decide⟩ rfl (Nat.le_of_ble_eq_true rfl) (Nat.le_of_ble_eq_true rfl) (kI fun r1 M1 hc => ?_)
    obtain ⟨rfl, rfl⟩ := hc
    first | (with_reducible refine E_isP ?_; refine E_if_eq 55 d_TM_heardBy_39 rfl (pb_0 fun h39 => ?_) (pb_1 fun h39 => ?_)) | (with_reducible refine E_isN1 ?_; refine E_if_eq 55 d_TM_heardBy_39 rfl (nz_eq (by omega) fun h39 => ?_) (nz_ne fun h39 => ?_)) | refine E_if_eq 55 d_TM_heardBy_39 rfl (fun h39 => ?_) (fun h39 => ?_)
    · first | (with_reducible refine E_isL4 ?_; refine E_iincN4 (m := 1) d_TM_heardBy_55 rfl rfl ?_) | refine E_iinc_4 d_TM_heardBy_55 rfl rfl ?_
      refine E_goto 22 d_TM_heardBy_58 rfl ?_
      refine E_eqL ?_ (ih (q + 1) (by omega))
      rw [e]
      first | rw [if_pos h39] | rw [if_neg h39]
    · refine E_iload_n d_TM_heardBy_42 rfl ?_
      first | refine E_aload_n d_TM_heardBy_43 rfl ?_ | refine E_aload_nN d_TM_heardBy_43 rfl ?_
      refine E_getR (q := 1) d_TM_heardBy_44 gf_TM_7 (by exact ⟨by decide, rfl⟩) (by exact hR _ rfl) ?_
      refine E_bipush (v := nI 34) d_TM_heardBy_47 (by decide) ?_
      refine E_iload d_TM_heardBy_49 rfl ?_
      first | (with_reducible refine E_isN2 ?_; refine E_iaddN d_TM_heardBy_51 ?_) | refine E_iadd d_TM_heardBy_51 ?_
      refine E_iald d_TM_heardBy_52 (by exact ⟨by decide, rfl⟩) (by exact ⟨by with_reducible rfl, by omega, by decide⟩) (by first | exact hA.people | exact hA.hears (by omega) | rfl) ?_
      first | (with_reducible refine E_isN2 ?_; refine E_iorN d_TM_heardBy_53 ?_) | refine E_ior d_TM_heardBy_53 ?_
      refine E_istore_2 d_TM_heardBy_54 rfl ?_
      first | (with_reducible refine E_isL4 ?_; refine E_iincN4 (m := 1) d_TM_heardBy_55 rfl rfl ?_) | refine E_iinc_4 d_TM_heardBy_55 rfl rfl ?_
      refine E_goto 22 d_TM_heardBy_58 rfl ?_
      refine E_eqL ?_ (ih (q + 1) (by omega))
      rw [e]
      first | rw [if_pos h39] | rw [if_neg h39]
theorem lp_TM_heard {c : Cr} {M : Mem} {p : Nat} (hM : HM c M) (hp : p < c.now.people) :
    ∀ k n o, n + k = c.now.people + 1 → (n = 0 ∧ o = 0 ∨ ∃ m, n = m + 1 ∧ o = itn (sweep c) m (c.hears p)) → E 1 0 0 Y_TM_heardBy 12 [some (.ref 0), some (.int (nI p)), some (.int (nI (itn (sweep c) n (c.hears p)))), some (.int (nI o)), none] [] GM M (QI GM fun r M' => r = nI (clo c p) ∧ M' = M) := by
  have hp8 := hM.w.p8
  have h256 := pow256 hp8
  have fin : ∀ n o, n ≤ c.now.people + 1 → (n = 0 ∧ o = 0 ∨ ∃ m, n = m + 1 ∧ o = itn (sweep c) m (c.hears p)) → o = itn (sweep c) n (c.hears p) → itn (sweep c) n (c.hears p) = clo c p := by
    intro n o hn ho e
    rcases ho with ⟨rfl, rfl⟩ | ⟨m, rfl, rfl⟩
    · refine swn_clo (Nat.zero_le _) ?_
      rw [← e, sweep_0]
    · rw [← e]
      exact swn_clo (by omega) e.symm
  have ol : ∀ n o, (n = 0 ∧ o = 0 ∨ ∃ m, n = m + 1 ∧ o = itn (sweep c) m (c.hears p)) → o < 2 ^ c.now.people := by
    intro n o ho
    rcases ho with ⟨rfl, rfl⟩ | ⟨m, rfl, rfl⟩
    · exact Nat.two_pow_pos _
    · exact swn_lt hM.w p m
  intro k
  induction k with
  | zero =>
    intro n o hn ho
    have h1 := swn_lt hM.w p n
    have h2 := ol n o ho
    have he : itn (sweep c) n (c.hears p) = o := by
      rcases ho with ⟨rfl, rfl⟩ | ⟨m, rfl, rfl⟩
      · omega
      · have hm : m = c.now.people := by omega
        subst hm
        exact clo_fix hM.w p
    refine E_iload_n d_TM_heardBy_12 rfl ?_
    refine E_iload_n d_TM_heardBy_13 rfl ?_
    first | (with_reducible refine E_isN2 ?_; refine E_icmp_eq 64 d_TM_heardBy_14 rfl (nb_eq (by omega) (by omega) fun h14 => ?_) (nb_ne fun h14 => ?_)) | refine E_icmp_eq 64 d_TM_heardBy_14 rfl (fun h14 => ?_) (fun h14 => ?_)
    rotate_left
    · exfalso; exact h14 (by first | exact he | exact he.symm)
    refine E_iload_n d_TM_heardBy_64 rfl ?_
    refine E_retI d_TM_heardBy_65 rfl ?_
    exact ⟨by rw [fin n o (by omega) ho he.symm], rfl⟩
  | succ k ih =>
    intro n o hn ho
    have h1 := swn_lt hM.w p n
    have h2 := ol n o ho
    refine E_iload_n d_TM_heardBy_12 rfl ?_
    refine E_iload_n d_TM_heardBy_13 rfl ?_
    first | (with_reducible refine E_isN2 ?_; refine E_icmp_eq 64 d_TM_heardBy_14 rfl (nb_eq (by omega) (by omega) fun h14 => ?_) (nb_ne fun h14 => ?_)) | refine E_icmp_eq 64 d_TM_heardBy_14 rfl (fun h14 => ?_) (fun h14 => ?_)
    · refine E_iload_n d_TM_heardBy_64 rfl ?_
      refine E_retI d_TM_heardBy_65 rfl ?_
      exact ⟨by rw [fin n o (by omega) ho h14], rfl⟩
    · refine E_iload_n d_TM_heardBy_17 rfl ?_
      refine E_istore_3 d_TM_heardBy_18 rfl ?_
      refine E_iconst (v := nI 0) d_TM_heardBy_19 rfl ?_
      refine E_istore_4 d_TM_heardBy_20 rfl ?_
      exact lp_TM_heardI (s := itn (sweep c) n (c.hears p)) hM h1 (ih (n + 1) (itn (sweep c) n (c.hears p)) (by omega) (Or.inr ⟨n, rfl, rfl⟩)) c.now.people 0 (Nat.zero_add _)
theorem sp_TM_heardBy {c : Cr} {M : Mem} {p : Nat} (hM : HM c M) (hp : p < c.now.people) : E 1 0 0 Y_TM_heardBy 0 [some (.ref 0), some (.int (nI p)), none, none, none] [] GM M (QI GM fun r M' => r = nI (clo c p) ∧ M' = M) := by
  have hR := hM.R
  have hA := hM.A
  have hp8 := hM.w.p8
  first | refine E_aload_n d_TM_heardBy_0 rfl ?_ | refine E_aload_nN d_TM_heardBy_0 rfl ?_
  refine E_getR (q := 1) d_TM_heardBy_1 gf_TM_7 (by exact ⟨by decide, rfl⟩) (by exact hR _ rfl) ?_
  refine E_bipush (v := nI 34) d_TM_heardBy_4 (by decide) ?_
  refine E_iload_n d_TM_heardBy_6 rfl ?_
  first | (with_reducible refine E_isN2 ?_; refine E_iaddN d_TM_heardBy_7 ?_) | refine E_iadd d_TM_heardBy_7 ?_
  refine E_iald d_TM_heardBy_8 (by exact ⟨by decide, rfl⟩) (by exact ⟨by with_reducible rfl, by omega, by decide⟩) (by first | exact hA.people | exact hA.hears (by omega) | rfl) ?_
  refine E_istore_2 d_TM_heardBy_9 rfl ?_
  refine E_iconst (v := nI 0) d_TM_heardBy_10 rfl ?_
  refine E_istore_3 d_TM_heardBy_11 rfl ?_
  exact lp_TM_heard hM hp (c.now.people + 1) 0 0 (Nat.zero_add _) (Or.inl ⟨rfl, rfl⟩)
theorem sp_TM_reach {c : Cr} {M : Mem} (hM : HM c M) (x : Int32) : E 2 0 0 Y_TM_reach 0 [some (.ref 0), some (.int x)] [] GM M (QI GM fun r M' => r = ans_reach c x ∧ Sx SQ M M') := by
  revert x
  refine args1 c.now.people (fun p hp hx ht => ?_) (fun x hx => ?_)
  · first | refine E_aload_n d_TM_reach_0 rfl ?_ | refine E_aload_nN d_TM_reach_0 rfl ?_
    refine E_iload_n d_TM_reach_1 rfl ?_
    refine E_V1 (sp_TM_isPerson hM.R hM.A hM.w _) d_TM_reach_2 ml_TM_73 cb_TM_isPerson cv_TM_isPerson (by exact ⟨by decide, rfl⟩) ⟨by decide, rfl⟩ ⟨by decide, by decide⟩ rfl (Nat.le_of_ble_eq_true rfl) (Nat.le_of_ble_eq_true rfl) (kI fun r1 M1 hc => ?_)
    obtain ⟨rfl, rfl⟩ := hc
    first | (with_reducible refine E_isP ?_; refine E_if_eq 16 d_TM_reach_5 rfl (pb_0 fun h5 => ?_) (pb_1 fun h5 => ?_)) | (with_reducible refine E_isN1 ?_; refine E_if_eq 16 d_TM_reach_5 rfl (nz_eq (by omega) fun h5 => ?_) (nz_ne fun h5 => ?_)) | refine E_if_eq 16 d_TM_reach_5 rfl (fun h5 => ?_) (fun h5 => ?_)
    · exfalso; exact h5 hx
    first | refine E_aload_n d_TM_reach_8 rfl ?_ | refine E_aload_nN d_TM_reach_8 rfl ?_
    refine E_iload_n d_TM_reach_9 rfl ?_
    refine E_V1 (sp_TM_heardBy hM hp) d_TM_reach_10 ml_TM_416 cb_TM_heardBy cv_TM_heardBy (by exact ⟨by decide, rfl⟩) ⟨by decide, rfl⟩ ⟨by decide, by decide⟩ rfl (Nat.le_of_ble_eq_true rfl) (Nat.le_of_ble_eq_true rfl) (kI fun r1 M1 hc => ?_)
    obtain ⟨rfl, rfl⟩ := hc
    refine E_goto 17 d_TM_reach_13 rfl ?_
    refine E_retI d_TM_reach_17 rfl ?_
    exact ⟨by rw [ans_reach, if_pos hx, ht], Sx.rf⟩
  · first | refine E_aload_n d_TM_reach_0 rfl ?_ | refine E_aload_nN d_TM_reach_0 rfl ?_
    refine E_iload_n d_TM_reach_1 rfl ?_
    refine E_V1 (sp_TM_isPerson hM.R hM.A hM.w _) d_TM_reach_2 ml_TM_73 cb_TM_isPerson cv_TM_isPerson (by exact ⟨by decide, rfl⟩) ⟨by decide, rfl⟩ ⟨by decide, by decide⟩ rfl (Nat.le_of_ble_eq_true rfl) (Nat.le_of_ble_eq_true rfl) (kI fun r1 M1 hc => ?_)
    obtain ⟨rfl, rfl⟩ := hc
    first | (with_reducible refine E_isP ?_; refine E_if_eq 16 d_TM_reach_5 rfl (pb_0 fun h5 => ?_) (pb_1 fun h5 => ?_)) | (with_reducible refine E_isN1 ?_; refine E_if_eq 16 d_TM_reach_5 rfl (nz_eq (by omega) fun h5 => ?_) (nz_ne fun h5 => ?_)) | refine E_if_eq 16 d_TM_reach_5 rfl (fun h5 => ?_) (fun h5 => ?_)
    rotate_left
    · exfalso; exact hx h5
    refine E_iconst (v := (-1)) d_TM_reach_16 rfl ?_
    refine E_retI d_TM_reach_17 rfl ?_
    exact ⟨by rw [ans_reach, if_neg hx], Sx.rf⟩
theorem lp_TM_circI {c : Cr} {M : Mem} {p n : Nat} {Q : Option Value → Geo → Mem → Prop} (hM : HM c M) (hp : p < c.now.people)
    (K : E 2 0 0 Y_TM_circles 67 [some (.ref 0), some (.int (nI n)), some (.int (nI p)), some (.int (pI (firstA c p p = true))), none] [] GM M Q) :
    ∀ k q, q + k = p → E 2 0 0 Y_TM_circles 19 [some (.ref 0), some (.int (nI n)), some (.int (nI p)), some (.int (pI (firstA c p q = true))), some (.int (nI q))] [] GM M Q := by
  have hp8 := hM.w.p8
  intro k
  induction k with
  | zero =>
    intro q hq
    have hq2 : q = p := by omega
    subst hq2
    refine E_iload d_TM_circles_19 rfl ?_
    refine E_iload_n d_TM_circles_21 rfl ?_
    first | (with_reducible refine E_isN2 ?_; refine E_icmp_ge 67 d_TM_circles_22 rfl (nb_le (by omega) (by omega) fun h22 => ?_) (nb_nle (by omega) (by omega) fun h22 => ?_)) | refine E_icmp_ge 67 d_TM_circles_22 rfl (fun h22 => ?_) (fun h22 => ?_)
    rotate_left
    · exfalso; omega
    refine E_wk ?_ K; exact ⟨Or.inl rfl, Or.inl rfl, Or.inl rfl, Or.inl rfl, Or.inr rfl, trivial⟩
  | succ k ih =>
    intro q hq
    have l1 := clo_lt hM.w p
    have l2 := clo_lt hM.w q
    have e : firstA c p (q + 1) = (firstA c p q && !((clo c p).testBit q && (clo c q).testBit p)) := rfl
    refine E_iload d_TM_circles_19 rfl ?_
    refine E_iload_n d_TM_circles_21 rfl ?_
    first | (with_reducible refine E_isN2 ?_; refine E_icmp_ge 67 d_TM_circles_22 rfl (nb_le (by omega) (by omega) fun h22 => ?_) (nb_nle (by omega) (by omega) fun h22 => ?_)) | refine E_icmp_ge 67 d_TM_circles_22 rfl (fun h22 => ?_) (fun h22 => ?_)
    · exfalso; omega
    refine E_iload_n d_TM_circles_25 rfl ?_
    first | (with_reducible refine E_isP ?_; refine E_if_eq 59 d_TM_circles_26 rfl (pb_0 fun h26 => ?_) (pb_1 fun h26 => ?_)) | (with_reducible refine E_isN1 ?_; refine E_if_eq 59 d_TM_circles_26 rfl (nz_eq (by omega) fun h26 => ?_) (nz_ne fun h26 => ?_)) | refine E_if_eq 59 d_TM_circles_26 rfl (fun h26 => ?_) (fun h26 => ?_)
    · refine E_iconst (v := nI 0) d_TM_circles_59 rfl ?_
      refine E_istore_3 d_TM_circles_60 rfl ?_
      first | (with_reducible refine E_isL4 ?_; refine E_iincN4 (m := 1) d_TM_circles_61 rfl rfl ?_) | refine E_iinc_4 d_TM_circles_61 rfl rfl ?_
      refine E_goto 19 d_TM_circles_64 rfl ?_
      refine E_eqL ?_ (ih (q + 1) (by omega))
      rw [e]
      first | (rw [h26]; (try rw [h39]); (try rw [h52]); rfl) | (rw [Bool.eq_false_iff.mpr h26]; rfl) | (rw [h26, Bool.eq_false_iff.mpr h39]; rfl) | (rw [h26, h39, Bool.eq_false_iff.mpr h52]; rfl)
    · first | refine E_aload_n d_TM_circles_29 rfl ?_ | refine E_aload_nN d_TM_circles_29 rfl ?_
      refine E_iload_n d_TM_circles_30 rfl ?_
      refine E_V1 (sp_TM_heardBy hM (by omega)) d_TM_circles_31 ml_TM_416 cb_TM_heardBy cv_TM_heardBy (by exact ⟨by decide, rfl⟩) ⟨by decide, rfl⟩ ⟨by decide, by decide⟩ rfl (Nat.le_of_ble_eq_true rfl) (Nat.le_of_ble_eq_true rfl) (kI fun r1 M1 hc => ?_)
      obtain ⟨rfl, rfl⟩ := hc
      refine E_iload d_TM_circles_34 rfl ?_
      refine E_S2 (sp_TM_has _ _ (by omega) (by omega)) d_TM_circles_36 ml_TM_229 cb_TM_has cs_TM_has ⟨by decide, by decide⟩ rfl (Nat.le_of_ble_eq_true rfl) (Nat.le_of_ble_eq_true rfl) (kI fun r1 M1 hc => ?_)
      obtain ⟨rfl, rfl⟩ := hc
      first | (with_reducible refine E_isP ?_; refine E_if_eq 55 d_TM_circles_39 rfl (pb_0 fun h39 => ?_) (pb_1 fun h39 => ?_)) | (with_reducible refine E_isN1 ?_; refine E_if_eq 55 d_TM_circles_39 rfl (nz_eq (by omega) fun h39 => ?_) (nz_ne fun h39 => ?_)) | refine E_if_eq 55 d_TM_circles_39 rfl (fun h39 => ?_) (fun h39 => ?_)
      · refine E_iconst (v := nI 1) d_TM_circles_55 rfl ?_
        refine E_goto 60 d_TM_circles_56 rfl ?_
        refine E_istore_3 d_TM_circles_60 rfl ?_
        first | (with_reducible refine E_isL4 ?_; refine E_iincN4 (m := 1) d_TM_circles_61 rfl rfl ?_) | refine E_iinc_4 d_TM_circles_61 rfl rfl ?_
        refine E_goto 19 d_TM_circles_64 rfl ?_
        refine E_eqL ?_ (ih (q + 1) (by omega))
        rw [e]
        first | (rw [h26]; (try rw [h39]); (try rw [h52]); rfl) | (rw [Bool.eq_false_iff.mpr h26]; rfl) | (rw [h26, Bool.eq_false_iff.mpr h39]; rfl) | (rw [h26, h39, Bool.eq_false_iff.mpr h52]; rfl)
      · first | refine E_aload_n d_TM_circles_42 rfl ?_ | refine E_aload_nN d_TM_circles_42 rfl ?_
        refine E_iload d_TM_circles_43 rfl ?_
        refine E_V1 (sp_TM_heardBy hM (by omega)) d_TM_circles_45 ml_TM_416 cb_TM_heardBy cv_TM_heardBy (by exact ⟨by decide, rfl⟩) ⟨by decide, rfl⟩ ⟨by decide, by decide⟩ rfl (Nat.le_of_ble_eq_true rfl) (Nat.le_of_ble_eq_true rfl) (kI fun r1 M1 hc => ?_)
        obtain ⟨rfl, rfl⟩ := hc
        refine E_iload_n d_TM_circles_48 rfl ?_
        refine E_S2 (sp_TM_has _ _ (by omega) (by omega)) d_TM_circles_49 ml_TM_229 cb_TM_has cs_TM_has ⟨by decide, by decide⟩ rfl (Nat.le_of_ble_eq_true rfl) (Nat.le_of_ble_eq_true rfl) (kI fun r1 M1 hc => ?_)
        obtain ⟨rfl, rfl⟩ := hc
        first | (with_reducible refine E_isP ?_; refine E_if_ne 59 d_TM_circles_52 rfl (pb_1 fun h52 => ?_) (pb_0 fun h52 => ?_)) | (with_reducible refine E_isN1 ?_; refine E_if_ne 59 d_TM_circles_52 rfl (nz_ne fun h52 => ?_) (nz_eq (by omega) fun h52 => ?_)) | refine E_if_ne 59 d_TM_circles_52 rfl (fun h52 => ?_) (fun h52 => ?_)
        · refine E_iconst (v := nI 0) d_TM_circles_59 rfl ?_
          refine E_istore_3 d_TM_circles_60 rfl ?_
          first | (with_reducible refine E_isL4 ?_; refine E_iincN4 (m := 1) d_TM_circles_61 rfl rfl ?_) | refine E_iinc_4 d_TM_circles_61 rfl rfl ?_
          refine E_goto 19 d_TM_circles_64 rfl ?_
          refine E_eqL ?_ (ih (q + 1) (by omega))
          rw [e]
          first | (rw [h26]; (try rw [h39]); (try rw [h52]); rfl) | (rw [Bool.eq_false_iff.mpr h26]; rfl) | (rw [h26, Bool.eq_false_iff.mpr h39]; rfl) | (rw [h26, h39, Bool.eq_false_iff.mpr h52]; rfl)
        · refine E_iconst (v := nI 1) d_TM_circles_55 rfl ?_
          refine E_goto 60 d_TM_circles_56 rfl ?_
          refine E_istore_3 d_TM_circles_60 rfl ?_
          first | (with_reducible refine E_isL4 ?_; refine E_iincN4 (m := 1) d_TM_circles_61 rfl rfl ?_) | refine E_iinc_4 d_TM_circles_61 rfl rfl ?_
          refine E_goto 19 d_TM_circles_64 rfl ?_
          refine E_eqL ?_ (ih (q + 1) (by omega))
          rw [e]
          first | (rw [h26]; (try rw [h39]); (try rw [h52]); rfl) | (rw [Bool.eq_false_iff.mpr h26]; rfl) | (rw [h26, Bool.eq_false_iff.mpr h39]; rfl) | (rw [h26, h39, Bool.eq_false_iff.mpr h52]; rfl)
theorem lp_TM_circles {c : Cr} {M : Mem} (hM : HM c M) :
    ∀ k p, p + k = c.now.people → E 2 0 0 Y_TM_circles 4 [some (.ref 0), some (.int (nI (cnt (fun p => firstA c p p) p))), some (.int (nI p)), none, none] [] GM M (QI GM fun r M' => r = ans_circles c ∧ M' = M) := by
  have hR := hM.R
  have hA := hM.A
  have hp8 := hM.w.p8
  intro k
  induction k with
  | zero =>
    intro p hq
    have hq2 : p = c.now.people := by omega
    subst hq2
    refine E_iload_n d_TM_circles_4 rfl ?_
    first | refine E_aload_n d_TM_circles_5 rfl ?_ | refine E_aload_nN d_TM_circles_5 rfl ?_
    refine E_getR (q := 1) d_TM_circles_6 gf_TM_7 (by exact ⟨by decide, rfl⟩) (by exact hR _ rfl) ?_
    refine E_iconst (v := nI 0) d_TM_circles_9 rfl ?_
    refine E_iald d_TM_circles_10 (by exact ⟨by decide, rfl⟩) (by exact ⟨by with_reducible rfl, by omega, by decide⟩) (by first | exact hA.people | exact hA.hears (by omega) | rfl) ?_
    first | (with_reducible refine E_isN2 ?_; refine E_icmp_ge 85 d_TM_circles_11 rfl (nb_le (by omega) (by omega) fun h11 => ?_) (nb_nle (by omega) (by omega) fun h11 => ?_)) | refine E_icmp_ge 85 d_TM_circles_11 rfl (fun h11 => ?_) (fun h11 => ?_)
    rotate_left
    · exfalso; omega
    refine E_iload_n d_TM_circles_85 rfl ?_
    refine E_retI d_TM_circles_86 rfl ?_
    exact ⟨rfl, rfl⟩
  | succ k ih =>
    intro p hq
    have e : cnt (fun p => firstA c p p) (p + 1) = cnt (fun p => firstA c p p) p + (if firstA c p p = true then 1 else 0) := rfl
    have K : E 2 0 0 Y_TM_circles 67 [some (.ref 0), some (.int (nI (cnt (fun p => firstA c p p) p))), some (.int (nI p)), some (.int (pI (firstA c p p = true))), none] [] GM M (QI GM fun r M' => r = ans_circles c ∧ M' = M) := by
      refine E_iload_n d_TM_circles_67 rfl ?_
      refine E_iload_n d_TM_circles_68 rfl ?_
      first | (with_reducible refine E_isP ?_; refine E_if_eq 76 d_TM_circles_69 rfl (pb_0 fun h69 => ?_) (pb_1 fun h69 => ?_)) | (with_reducible refine E_isN1 ?_; refine E_if_eq 76 d_TM_circles_69 rfl (nz_eq (by omega) fun h69 => ?_) (nz_ne fun h69 => ?_)) | refine E_if_eq 76 d_TM_circles_69 rfl (fun h69 => ?_) (fun h69 => ?_)
      · refine E_iconst (v := nI 0) d_TM_circles_76 rfl ?_
        first | (with_reducible refine E_isN2 ?_; refine E_iaddN d_TM_circles_77 ?_) | refine E_iadd d_TM_circles_77 ?_
        refine E_istore_1 d_TM_circles_78 rfl ?_
        first | (with_reducible refine E_isL2 ?_; refine E_iincN2 (m := 1) d_TM_circles_79 rfl rfl ?_) | refine E_iinc_2 d_TM_circles_79 rfl rfl ?_
        refine E_goto 4 d_TM_circles_82 rfl ?_
        first | rw [if_pos h69] at e | rw [if_neg h69] at e
        rw [← e]
        refine E_wk ?_ (ih (p + 1) (by omega))
        exact ⟨Or.inl rfl, Or.inl rfl, Or.inl rfl, Or.inr rfl, Or.inl rfl, trivial⟩
      · refine E_iconst (v := nI 1) d_TM_circles_72 rfl ?_
        refine E_goto 77 d_TM_circles_73 rfl ?_
        first | (with_reducible refine E_isN2 ?_; refine E_iaddN d_TM_circles_77 ?_) | refine E_iadd d_TM_circles_77 ?_
        refine E_istore_1 d_TM_circles_78 rfl ?_
        first | (with_reducible refine E_isL2 ?_; refine E_iincN2 (m := 1) d_TM_circles_79 rfl rfl ?_) | refine E_iinc_2 d_TM_circles_79 rfl rfl ?_
        refine E_goto 4 d_TM_circles_82 rfl ?_
        first | rw [if_pos h69] at e | rw [if_neg h69] at e
        rw [← e]
        refine E_wk ?_ (ih (p + 1) (by omega))
        exact ⟨Or.inl rfl, Or.inl rfl, Or.inl rfl, Or.inr rfl, Or.inl rfl, trivial⟩
    refine E_iload_n d_TM_circles_4 rfl ?_
    first | refine E_aload_n d_TM_circles_5 rfl ?_ | refine E_aload_nN d_TM_circles_5 rfl ?_
    refine E_getR (q := 1) d_TM_circles_6 gf_TM_7 (by exact ⟨by decide, rfl⟩) (by exact hR _ rfl) ?_
    refine E_iconst (v := nI 0) d_TM_circles_9 rfl ?_
    refine E_iald d_TM_circles_10 (by exact ⟨by decide, rfl⟩) (by exact ⟨by with_reducible rfl, by omega, by decide⟩) (by first | exact hA.people | exact hA.hears (by omega) | rfl) ?_
    first | (with_reducible refine E_isN2 ?_; refine E_icmp_ge 85 d_TM_circles_11 rfl (nb_le (by omega) (by omega) fun h11 => ?_) (nb_nle (by omega) (by omega) fun h11 => ?_)) | refine E_icmp_ge 85 d_TM_circles_11 rfl (fun h11 => ?_) (fun h11 => ?_)
    · exfalso; omega
    refine E_iconst (v := nI 1) d_TM_circles_14 rfl ?_
    refine E_istore_3 d_TM_circles_15 rfl ?_
    refine E_iconst (v := nI 0) d_TM_circles_16 rfl ?_
    refine E_istore_4 d_TM_circles_17 rfl ?_
    exact lp_TM_circI hM (by omega) K p 0 (Nat.zero_add _)
theorem sp_TM_circles {c : Cr} {M : Mem} (hM : HM c M) : E 2 0 0 Y_TM_circles 0 [some (.ref 0), none, none, none, none] [] GM M (QI GM fun r M' => r = ans_circles c ∧ M' = M) := by
  refine E_iconst (v := nI 0) d_TM_circles_0 rfl ?_
  refine E_istore_1 d_TM_circles_1 rfl ?_
  refine E_iconst (v := nI 0) d_TM_circles_2 rfl ?_
  refine E_istore_2 d_TM_circles_3 rfl ?_
  exact lp_TM_circles hM c.now.people 0 (Nat.zero_add _)
theorem lp_TM_hearers {c : Cr} {M : Mem} {p : Nat} (hM : HM c M) (hp : p < 9) :
    ∀ k q, q + k = c.now.people → E 0 0 0 Y_TM_hearers 4 [some (.ref 0), some (.int (nI p)), some (.int (nI (cnt (fun q => (c.hears q).testBit p) q))), some (.int (nI q))] [] GM M (QI GM fun r M' => r = nI (earsN c p) ∧ M' = M) := by
  have hR := hM.R
  have hA := hM.A
  have hp8 := hM.w.p8
  intro k
  induction k with
  | zero =>
    intro q hq
    have hq2 : q = c.now.people := by omega
    subst hq2
    refine E_iload_n d_TM_hearers_4 rfl ?_
    first | refine E_aload_n d_TM_hearers_5 rfl ?_ | refine E_aload_nN d_TM_hearers_5 rfl ?_
    refine E_getR (q := 1) d_TM_hearers_6 gf_TM_7 (by exact ⟨by decide, rfl⟩) (by exact hR _ rfl) ?_
    refine E_iconst (v := nI 0) d_TM_hearers_9 rfl ?_
    refine E_iald d_TM_hearers_10 (by exact ⟨by decide, rfl⟩) (by exact ⟨by with_reducible rfl, by omega, by decide⟩) (by first | exact hA.people | exact hA.hears (by omega) | rfl) ?_
    first | (with_reducible refine E_isN2 ?_; refine E_icmp_ge 36 d_TM_hearers_11 rfl (nb_le (by omega) (by omega) fun h11 => ?_) (nb_nle (by omega) (by omega) fun h11 => ?_)) | refine E_icmp_ge 36 d_TM_hearers_11 rfl (fun h11 => ?_) (fun h11 => ?_)
    rotate_left
    · exfalso; omega
    refine E_iload_n d_TM_hearers_36 rfl ?_
    refine E_retI d_TM_hearers_37 rfl ?_
    exact ⟨rfl, rfl⟩
  | succ k ih =>
    intro q hq
    have hh := hM.w.hears8 q
    have e : cnt (fun q => (c.hears q).testBit p) (q + 1) = cnt (fun q => (c.hears q).testBit p) q + (if (c.hears q).testBit p = true then 1 else 0) := rfl
    refine E_iload_n d_TM_hearers_4 rfl ?_
    first | refine E_aload_n d_TM_hearers_5 rfl ?_ | refine E_aload_nN d_TM_hearers_5 rfl ?_
    refine E_getR (q := 1) d_TM_hearers_6 gf_TM_7 (by exact ⟨by decide, rfl⟩) (by exact hR _ rfl) ?_
    refine E_iconst (v := nI 0) d_TM_hearers_9 rfl ?_
    refine E_iald d_TM_hearers_10 (by exact ⟨by decide, rfl⟩) (by exact ⟨by with_reducible rfl, by omega, by decide⟩) (by first | exact hA.people | exact hA.hears (by omega) | rfl) ?_
    first | (with_reducible refine E_isN2 ?_; refine E_icmp_ge 36 d_TM_hearers_11 rfl (nb_le (by omega) (by omega) fun h11 => ?_) (nb_nle (by omega) (by omega) fun h11 => ?_)) | refine E_icmp_ge 36 d_TM_hearers_11 rfl (fun h11 => ?_) (fun h11 => ?_)
    · exfalso; omega
    refine E_iload_n d_TM_hearers_14 rfl ?_
    first | refine E_aload_n d_TM_hearers_15 rfl ?_ | refine E_aload_nN d_TM_hearers_15 rfl ?_
    refine E_getR (q := 1) d_TM_hearers_16 gf_TM_7 (by exact ⟨by decide, rfl⟩) (by exact hR _ rfl) ?_
    refine E_bipush (v := nI 34) d_TM_hearers_19 (by decide) ?_
    refine E_iload_n d_TM_hearers_21 rfl ?_
    first | (with_reducible refine E_isN2 ?_; refine E_iaddN d_TM_hearers_22 ?_) | refine E_iadd d_TM_hearers_22 ?_
    refine E_iald d_TM_hearers_23 (by exact ⟨by decide, rfl⟩) (by exact ⟨by with_reducible rfl, by omega, by decide⟩) (by first | exact hA.people | exact hA.hears (by omega) | rfl) ?_
    refine E_iload_n d_TM_hearers_24 rfl ?_
    first | (with_reducible refine E_isN2 ?_; refine E_ishrN d_TM_hearers_25 (by omega) (by omega) ?_) | refine E_ishr d_TM_hearers_25 ?_
    refine E_iconst (v := nI 1) d_TM_hearers_26 rfl ?_
    first | (with_reducible refine E_isN2 ?_; refine E_iandN d_TM_hearers_27 ?_) | refine E_iand d_TM_hearers_27 ?_
    first | (with_reducible refine E_isN2 ?_; refine E_iaddN d_TM_hearers_28 ?_) | refine E_iadd d_TM_hearers_28 ?_
    refine E_istore_2 d_TM_hearers_29 rfl ?_
    first | (with_reducible refine E_isL3 ?_; refine E_iincN3 (m := 1) d_TM_hearers_30 rfl rfl ?_) | refine E_iinc_3 d_TM_hearers_30 rfl rfl ?_
    refine E_goto 4 d_TM_hearers_33 rfl ?_
    exact E_eqL (by rw [e, tb_and]) (ih (q + 1) (by omega))
theorem sp_TM_hearers {c : Cr} {M : Mem} {p : Nat} (hM : HM c M) (hp : p < 9) : E 0 0 0 Y_TM_hearers 0 [some (.ref 0), some (.int (nI p)), none, none] [] GM M (QI GM fun r M' => r = nI (earsN c p) ∧ M' = M) := by
  refine E_iconst (v := nI 0) d_TM_hearers_0 rfl ?_
  refine E_istore_2 d_TM_hearers_1 rfl ?_
  refine E_iconst (v := nI 0) d_TM_hearers_2 rfl ?_
  refine E_istore_3 d_TM_hearers_3 rfl ?_
  exact lp_TM_hearers hM hp c.now.people 0 (Nat.zero_add _)
theorem earsN_le {c : Cr} (p : Nat) : earsN c p ≤ c.now.people := cnt_le _ _
theorem loudA_le (c : Cr) : ∀ n, loudA c n ≤ n := by
  intro n
  induction n with
  | zero => exact Nat.le_refl _
  | succ n ih =>
    rw [loudA]
    split
    · split <;> omega
    · split <;> omega
theorem lp_TM_loud {c : Cr} {M : Mem} (hM : HM c M) :
    ∀ k p, p + k = c.now.people → E 1 0 0 Y_TM_loud 4 [some (.ref 0), some (.int (pM (loudA c p))), some (.int (nI p))] [] GM M (QI GM fun r M' => r = ans_loud c ∧ M' = M) := by
  have hR := hM.R
  have hA := hM.A
  have hp8 := hM.w.p8
  intro k
  induction k with
  | zero =>
    intro p hq
    have hq2 : p = c.now.people := by omega
    subst hq2
    refine E_iload_n d_TM_loud_4 rfl ?_
    first | refine E_aload_n d_TM_loud_5 rfl ?_ | refine E_aload_nN d_TM_loud_5 rfl ?_
    refine E_getR (q := 1) d_TM_loud_6 gf_TM_7 (by exact ⟨by decide, rfl⟩) (by exact hR _ rfl) ?_
    refine E_iconst (v := nI 0) d_TM_loud_9 rfl ?_
    refine E_iald d_TM_loud_10 (by exact ⟨by decide, rfl⟩) (by exact ⟨by with_reducible rfl, by omega, by decide⟩) (by first | exact hA.people | exact hA.hears (by omega) | rfl) ?_
    first | (with_reducible refine E_isN2 ?_; refine E_icmp_ge 44 d_TM_loud_11 rfl (nb_le (by omega) (by omega) fun h11 => ?_) (nb_nle (by omega) (by omega) fun h11 => ?_)) | refine E_icmp_ge 44 d_TM_loud_11 rfl (fun h11 => ?_) (fun h11 => ?_)
    rotate_left
    · exfalso; omega
    refine E_iload_n d_TM_loud_44 rfl ?_
    refine E_retI d_TM_loud_45 rfl ?_
    exact ⟨by rw [ans_loud]; cases loudA c c.now.people <;> rfl, rfl⟩
  | succ k ih =>
    intro p hq
    have hl := loudA_le c p
    have e1 := earsN_le (c := c) p
    have e : loudA c (p + 1) = if (if loudA c p = 0 then 0 else earsN c (loudA c p - 1)) < earsN c p then p + 1 else loudA c p := by
      rw [loudA]
    have ih2 := ih (p + 1) (by omega)
    rw [e] at ih2
    revert hl ih2
    generalize loudA c p = b
    cases b with
    | zero =>
      intro hl ih2
      rw [if_pos rfl] at ih2
      refine E_iload_n d_TM_loud_4 rfl ?_
      first | refine E_aload_n d_TM_loud_5 rfl ?_ | refine E_aload_nN d_TM_loud_5 rfl ?_
      refine E_getR (q := 1) d_TM_loud_6 gf_TM_7 (by exact ⟨by decide, rfl⟩) (by exact hR _ rfl) ?_
      refine E_iconst (v := nI 0) d_TM_loud_9 rfl ?_
      refine E_iald d_TM_loud_10 (by exact ⟨by decide, rfl⟩) (by exact ⟨by with_reducible rfl, by omega, by decide⟩) (by first | exact hA.people | exact hA.hears (by omega) | rfl) ?_
      first | (with_reducible refine E_isN2 ?_; refine E_icmp_ge 44 d_TM_loud_11 rfl (nb_le (by omega) (by omega) fun h11 => ?_) (nb_nle (by omega) (by omega) fun h11 => ?_)) | refine E_icmp_ge 44 d_TM_loud_11 rfl (fun h11 => ?_) (fun h11 => ?_)
      · exfalso; omega
      first | refine E_aload_n d_TM_loud_14 rfl ?_ | refine E_aload_nN d_TM_loud_14 rfl ?_
      refine E_iload_n d_TM_loud_15 rfl ?_
      refine E_V1 (sp_TM_hearers hM (by omega)) d_TM_loud_16 ml_TM_419 cb_TM_hearers cv_TM_hearers (by exact ⟨by decide, rfl⟩) ⟨by decide, rfl⟩ ⟨by decide, by decide⟩ rfl (Nat.le_of_ble_eq_true rfl) (Nat.le_of_ble_eq_true rfl) (kI fun r1 M1 hc => ?_)
      obtain ⟨rfl, rfl⟩ := hc
      refine E_iload_n d_TM_loud_19 rfl ?_
      refine E_iconst (v := (-1)) d_TM_loud_20 rfl ?_
      first | (with_reducible refine E_isN2 ?_; refine E_icmp_ne 28 d_TM_loud_21 rfl (nb_ne fun h21 => ?_) (nb_eq (by omega) (by omega) fun h21 => ?_)) | refine E_icmp_ne 28 d_TM_loud_21 rfl (fun h21 => ?_) (fun h21 => ?_)
      · exfalso; exact h21 rfl
      refine E_iconst (v := nI 0) d_TM_loud_24 rfl ?_
      refine E_goto 33 d_TM_loud_25 rfl ?_
      first | (with_reducible refine E_isN2 ?_; refine E_icmp_le 38 d_TM_loud_33 rfl (nb_le (by omega) (by omega) fun h33 => ?_) (nb_nle (by omega) (by omega) fun h33 => ?_)) | refine E_icmp_le 38 d_TM_loud_33 rfl (fun h33 => ?_) (fun h33 => ?_)
      · first | (with_reducible refine E_isL2 ?_; refine E_iincN2 (m := 1) d_TM_loud_38 rfl rfl ?_) | refine E_iinc_2 d_TM_loud_38 rfl rfl ?_
        refine E_goto 4 d_TM_loud_41 rfl ?_
        first | (rw [if_pos h33] at ih2; exact ih2) | (rw [if_neg (Nat.not_lt.mpr h33)] at ih2; exact ih2)
      · refine E_iload_n d_TM_loud_36 rfl ?_
        refine E_istore_1 d_TM_loud_37 rfl ?_
        first | (with_reducible refine E_isL2 ?_; refine E_iincN2 (m := 1) d_TM_loud_38 rfl rfl ?_) | refine E_iinc_2 d_TM_loud_38 rfl rfl ?_
        refine E_goto 4 d_TM_loud_41 rfl ?_
        first | (rw [if_pos h33] at ih2; exact ih2) | (rw [if_neg (Nat.not_lt.mpr h33)] at ih2; exact ih2)
    | succ b =>
      intro hl ih2
      have e2 := earsN_le (c := c) b
      rw [show (if b + 1 = 0 then 0 else earsN c (b + 1 - 1)) = earsN c b from if_neg (Nat.succ_ne_zero b)] at ih2
      rw [show pM (b + 1) = nI b from rfl]
      refine E_iload_n d_TM_loud_4 rfl ?_
      first | refine E_aload_n d_TM_loud_5 rfl ?_ | refine E_aload_nN d_TM_loud_5 rfl ?_
      refine E_getR (q := 1) d_TM_loud_6 gf_TM_7 (by exact ⟨by decide, rfl⟩) (by exact hR _ rfl) ?_
      refine E_iconst (v := nI 0) d_TM_loud_9 rfl ?_
      refine E_iald d_TM_loud_10 (by exact ⟨by decide, rfl⟩) (by exact ⟨by with_reducible rfl, by omega, by decide⟩) (by first | exact hA.people | exact hA.hears (by omega) | rfl) ?_
      first | (with_reducible refine E_isN2 ?_; refine E_icmp_ge 44 d_TM_loud_11 rfl (nb_le (by omega) (by omega) fun h11 => ?_) (nb_nle (by omega) (by omega) fun h11 => ?_)) | refine E_icmp_ge 44 d_TM_loud_11 rfl (fun h11 => ?_) (fun h11 => ?_)
      · exfalso; omega
      first | refine E_aload_n d_TM_loud_14 rfl ?_ | refine E_aload_nN d_TM_loud_14 rfl ?_
      refine E_iload_n d_TM_loud_15 rfl ?_
      refine E_V1 (sp_TM_hearers hM (by omega)) d_TM_loud_16 ml_TM_419 cb_TM_hearers cv_TM_hearers (by exact ⟨by decide, rfl⟩) ⟨by decide, rfl⟩ ⟨by decide, by decide⟩ rfl (Nat.le_of_ble_eq_true rfl) (Nat.le_of_ble_eq_true rfl) (kI fun r1 M1 hc => ?_)
      obtain ⟨rfl, rfl⟩ := hc
      refine E_iload_n d_TM_loud_19 rfl ?_
      refine E_iconst (v := (-1)) d_TM_loud_20 rfl ?_
      first | (with_reducible refine E_isN2 ?_; refine E_icmp_ne 28 d_TM_loud_21 rfl (nb_ne fun h21 => ?_) (nb_eq (by omega) (by omega) fun h21 => ?_)) | refine E_icmp_ne 28 d_TM_loud_21 rfl (fun h21 => ?_) (fun h21 => ?_)
      rotate_left
      · exfalso; exact nI_nm1 (by omega) h21
      first | refine E_aload_n d_TM_loud_28 rfl ?_ | refine E_aload_nN d_TM_loud_28 rfl ?_
      refine E_iload_n d_TM_loud_29 rfl ?_
      refine E_V1 (sp_TM_hearers hM (by omega)) d_TM_loud_30 ml_TM_419 cb_TM_hearers cv_TM_hearers (by exact ⟨by decide, rfl⟩) ⟨by decide, rfl⟩ ⟨by decide, by decide⟩ rfl (Nat.le_of_ble_eq_true rfl) (Nat.le_of_ble_eq_true rfl) (kI fun r1 M1 hc => ?_)
      obtain ⟨rfl, rfl⟩ := hc
      first | (with_reducible refine E_isN2 ?_; refine E_icmp_le 38 d_TM_loud_33 rfl (nb_le (by omega) (by omega) fun h33 => ?_) (nb_nle (by omega) (by omega) fun h33 => ?_)) | refine E_icmp_le 38 d_TM_loud_33 rfl (fun h33 => ?_) (fun h33 => ?_)
      · first | (with_reducible refine E_isL2 ?_; refine E_iincN2 (m := 1) d_TM_loud_38 rfl rfl ?_) | refine E_iinc_2 d_TM_loud_38 rfl rfl ?_
        refine E_goto 4 d_TM_loud_41 rfl ?_
        first | (rw [if_pos h33] at ih2; exact ih2) | (rw [if_neg (Nat.not_lt.mpr h33)] at ih2; exact ih2)
      · refine E_iload_n d_TM_loud_36 rfl ?_
        refine E_istore_1 d_TM_loud_37 rfl ?_
        first | (with_reducible refine E_isL2 ?_; refine E_iincN2 (m := 1) d_TM_loud_38 rfl rfl ?_) | refine E_iinc_2 d_TM_loud_38 rfl rfl ?_
        refine E_goto 4 d_TM_loud_41 rfl ?_
        first | (rw [if_pos h33] at ih2; exact ih2) | (rw [if_neg (Nat.not_lt.mpr h33)] at ih2; exact ih2)
theorem sp_TM_loud {c : Cr} {M : Mem} (hM : HM c M) : E 1 0 0 Y_TM_loud 0 [some (.ref 0), none, none] [] GM M (QI GM fun r M' => r = ans_loud c ∧ M' = M) := by
  refine E_iconst (v := (-1)) d_TM_loud_0 rfl ?_
  refine E_istore_1 d_TM_loud_1 rfl ?_
  refine E_iconst (v := nI 0) d_TM_loud_2 rfl ?_
  refine E_istore_2 d_TM_loud_3 rfl ?_
  exact lp_TM_loud hM c.now.people 0 (Nat.zero_add _)
