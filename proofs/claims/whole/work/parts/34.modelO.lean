theorem gS_or (mx : Bool) (b v : Nat) : gS mx b v = v + 1 ∨ (gS mx b v = b ∧ b ≠ 0) := by
  unfold gS
  by_cases h : b = 0 ∨ (if mx = true then b < v + 1 else v + 1 < b)
  · rw [if_pos h]; exact Or.inl rfl
  · rw [if_neg h]; exact Or.inr ⟨rfl, fun q => h (Or.inl q)⟩
theorem gmB_le {mx : Bool} {v : Nat → Nat} {f m : Nat} (hv : ∀ t, v t ≤ m) : ∀ k, gmB mx v f k ≤ m + 1 := by
  intro k
  induction k with
  | zero => exact Nat.zero_le _
  | succ k ih =>
    rw [gmB]
    have := hv k
    have := gS_or mx (gmB mx v f k) (v k)
    split <;> omega
theorem gmB_pos {mx : Bool} {v : Nat → Nat} {f : Nat} : ∀ k, f < k → gmB mx v f k ≠ 0 := by
  intro k
  induction k with
  | zero => intro h; omega
  | succ k ih =>
    intro h
    rw [gmB]
    have := gS_or mx (gmB mx v f k) (v k)
    by_cases e : f = k
    · subst e
      rw [if_pos (show ap f f ≤ 1 by unfold ap; rw [if_neg (Nat.lt_irrefl f)]; omega)]
      omega
    · have := ih (by omega)
      split <;> omega
theorem gmB_att {mx : Bool} {v : Nat → Nat} {f : Nat} : ∀ k, gmB mx v f k ≠ 0 → ∃ t, t < k ∧ ap f t ≤ 1 ∧ gmB mx v f k = v t + 1 := by
  intro k
  induction k with
  | zero => intro h; exact absurd rfl h
  | succ k ih =>
    intro h
    rw [gmB] at h ⊢
    by_cases e : ap f k ≤ 1
    · rw [if_pos e] at h ⊢
      rcases gS_or mx (gmB mx v f k) (v k) with q | ⟨q, q0⟩
      · exact ⟨k, Nat.lt_succ_self k, e, q⟩
      · rw [q]
        obtain ⟨t, h1, h2, h3⟩ := ih q0
        exact ⟨t, by omega, h2, h3⟩
    · rw [if_neg e] at h ⊢
      obtain ⟨t, h1, h2, h3⟩ := ih h
      exact ⟨t, by omega, h2, h3⟩
theorem gamA_le {c : Cr} {n : Nat} : ∀ j f, f ≤ c.now.people → gamA c n j f ≤ c.now.people := by
  intro j
  induction j with
  | zero => intro f h; exact h
  | succ j ih =>
    intro f h
    rw [gamA]
    have := gmB_le (mx := decide ((n - (j + 1)) % 2 = 0)) (f := f) (fun t => ih (cm c t) (cm_le c t)) (c.now.people + 1)
    omega
theorem gS0 (mx : Bool) (v : Nat) : gS mx 0 v = v + 1 := if_pos (Or.inl rfl)
theorem gm1 {mx : Bool} {b v : Nat} (h : mx = true) (q : b < v) : gS mx (b + 1) v = v + 1 := by
  unfold gS
  rw [if_pos (Or.inr (by rw [if_pos h]; omega))]
theorem gm2 {mx : Bool} {b v : Nat} (h : mx = true) (q : v ≤ b) : gS mx (b + 1) v = b + 1 := by
  unfold gS
  rw [if_neg (by rw [if_pos h]; omega)]
theorem gm3 {mx : Bool} {b v : Nat} (h : ¬ mx = true) (q : v < b) : gS mx (b + 1) v = v + 1 := by
  unfold gS
  rw [if_pos (Or.inr (by rw [if_neg h]; omega))]
theorem gm4 {mx : Bool} {b v : Nat} (h : ¬ mx = true) (q : b ≤ v) : gS mx (b + 1) v = b + 1 := by
  unfold gS
  rw [if_neg (by rw [if_neg h]; omega)]
theorem sp_TM_byTold {c : Cr} {M : Mem} {j t v : Nat} (hM : HM c M) (hN : HN c M) (hj : j ≤ 8) (ht : t ≤ c.now.people) (hv : mI M 14 (9 * j + cm c t) = nI v) : E 0 0 0 Y_TM_byTold 0 [some (.ref 0), some (.int (nI j)), some (.int (nI t))] [] GM M (QI GM fun r M' => r = nI v ∧ M' = M) := by
  have hR := hM.R
  have hp8 := hM.w.p8
  have hg := Nat.le_trans (cm_le c t) hp8
  first | refine E_aload_n d_TM_byTold_0 rfl ?_ | refine E_aload_nN d_TM_byTold_0 rfl ?_
  refine E_getR (q := 14) d_TM_byTold_1 gf_TM_62 (by exact ⟨by decide, rfl⟩) (by exact hR _ rfl) ?_
  refine E_bipush (v := nI 9) d_TM_byTold_4 (by decide) ?_
  refine E_iload_n d_TM_byTold_6 rfl ?_
  first | (with_reducible refine E_isN2 ?_; refine E_imulN d_TM_byTold_7 ?_) | refine E_imul d_TM_byTold_7 ?_
  first | refine E_aload_n d_TM_byTold_8 rfl ?_ | refine E_aload_nN d_TM_byTold_8 rfl ?_
  refine E_getR (q := 11) d_TM_byTold_9 gf_TM_53 (by exact ⟨by decide, rfl⟩) (by exact hR _ rfl) ?_
  refine E_iload_n d_TM_byTold_12 rfl ?_
  refine E_iald d_TM_byTold_13 (by exact ⟨by decide, rfl⟩) (by exact ⟨by with_reducible rfl, by omega, by decide⟩) (by first | exact hN _ (by omega) | exact hv) ?_
  first | (with_reducible refine E_isN2 ?_; refine E_iaddN d_TM_byTold_14 ?_) | refine E_iadd d_TM_byTold_14 ?_
  refine E_iald d_TM_byTold_15 (by exact ⟨by decide, rfl⟩) (by exact ⟨by with_reducible rfl, by omega, by decide⟩) (by first | exact hN _ (by omega) | exact hv) ?_
  refine E_retI d_TM_byTold_16 rfl ?_
  exact ⟨rfl, rfl⟩
theorem lp_TM_gmT {c : Cr} {M : Mem} {n j f : Nat} {mx : Bool} {Q : Option Value → Geo → Mem → Prop} (hM : HM c M) (hN : HN c M) (hj : j < 8) (hf : f ≤ c.now.people) (hG : ∀ g, g ≤ c.now.people → mI M 14 (9 * j + g) = nI (gamA c n j g))
    (K : E 8 0 0 Y_TM_layGames 143 [some (.ref 0), some (.int (nI n)), some (.int (nI (j + 1))), some (.int (pI (mx = true))), some (.int (nI f)), some (.int (pM (gmB mx (fun t => gamA c n j (cm c t)) f (c.now.people + 1)))), none, none] [] GM M Q) :
    ∀ k t, t + k = c.now.people + 1 → E 8 0 0 Y_TM_layGames 70 [some (.ref 0), some (.int (nI n)), some (.int (nI (j + 1))), some (.int (pI (mx = true))), some (.int (nI f)), some (.int (pM (gmB mx (fun t => gamA c n j (cm c t)) f t))), some (.int (nI t)), none] [] GM M Q := by
  have hR := hM.R
  have hA := hM.A
  have hp8 := hM.w.p8
  intro k
  induction k with
  | zero =>
    intro t ht
    have ht2 : t = c.now.people + 1 := by omega
    subst ht2
    refine E_iload d_TM_layGames_70 rfl ?_
    first | refine E_aload_n d_TM_layGames_72 rfl ?_ | refine E_aload_nN d_TM_layGames_72 rfl ?_
    refine E_getR (q := 1) d_TM_layGames_73 gf_TM_7 (by exact ⟨by decide, rfl⟩) (by exact hR _ rfl) ?_
    refine E_iconst (v := nI 0) d_TM_layGames_76 rfl ?_
    refine E_iald d_TM_layGames_77 (by exact ⟨by decide, rfl⟩) (by exact ⟨by with_reducible rfl, by omega, by decide⟩) (by first | exact hA.people | exact hA.figure | exact hN _ (by omega) | rfl) ?_
    first | (with_reducible refine E_isN2 ?_; refine E_icmp_gt 143 d_TM_layGames_78 rfl (nb_lt (by omega) (by omega) fun h78 => ?_) (nb_nlt (by omega) (by omega) fun h78 => ?_)) | refine E_icmp_gt 143 d_TM_layGames_78 rfl (fun h78 => ?_) (fun h78 => ?_)
    rotate_left
    · exfalso; omega
    refine E_wk ?_ K; exact ⟨Or.inl rfl, Or.inl rfl, Or.inl rfl, Or.inl rfl, Or.inl rfl, Or.inl rfl, Or.inr rfl, Or.inl rfl, trivial⟩
  | succ k ih =>
    intro t ht
    have hv := gamA_le (c := c) (n := n) j (cm c t) (cm_le c t)
    have hvG := hG (cm c t) (cm_le c t)
    have e : gmB mx (fun t => gamA c n j (cm c t)) f (t + 1) = if ap f t ≤ 1 then gS mx (gmB mx (fun t => gamA c n j (cm c t)) f t) (gamA c n j (cm c t)) else gmB mx (fun t => gamA c n j (cm c t)) f t := rfl
    have hb := gmB_le (mx := mx) (f := f) (fun t => gamA_le (c := c) (n := n) j (cm c t) (cm_le c t)) t
    have ih2 := ih (t + 1) (by omega)
    rw [e] at ih2
    revert ih2 hb
    generalize gmB mx (fun t => gamA c n j (cm c t)) f t = b
    revert hv hvG
    generalize gamA c n j (cm c t) = v
    intro hv hvG hb ih2
    have up : ∀ (b' : Nat) (x : Option Value), b' = (if ap f t ≤ 1 then gS mx b v else b) → E 8 0 0 Y_TM_layGames 137 [some (.ref 0), some (.int (nI n)), some (.int (nI (j + 1))), some (.int (pI (mx = true))), some (.int (nI f)), some (.int (pM b')), some (.int (nI t)), x] [] GM M Q := by
      intro b' x hb'
      first | (with_reducible refine E_isL6 ?_; refine E_iincN6 (m := 1) d_TM_layGames_137 rfl rfl ?_) | refine E_iinc_6 d_TM_layGames_137 rfl rfl ?_
      refine E_goto 70 d_TM_layGames_140 rfl ?_
      rw [← hb'] at ih2; refine E_wk ?_ ih2; exact ⟨Or.inl rfl, Or.inl rfl, Or.inl rfl, Or.inl rfl, Or.inl rfl, Or.inl rfl, Or.inl rfl, Or.inr rfl, trivial⟩
    cases b with
    | zero =>
      refine E_iload d_TM_layGames_70 rfl ?_
      first | refine E_aload_n d_TM_layGames_72 rfl ?_ | refine E_aload_nN d_TM_layGames_72 rfl ?_
      refine E_getR (q := 1) d_TM_layGames_73 gf_TM_7 (by exact ⟨by decide, rfl⟩) (by exact hR _ rfl) ?_
      refine E_iconst (v := nI 0) d_TM_layGames_76 rfl ?_
      refine E_iald d_TM_layGames_77 (by exact ⟨by decide, rfl⟩) (by exact ⟨by with_reducible rfl, by omega, by decide⟩) (by first | exact hA.people | exact hA.figure | exact hN _ (by omega) | rfl) ?_
      first | (with_reducible refine E_isN2 ?_; refine E_icmp_gt 143 d_TM_layGames_78 rfl (nb_lt (by omega) (by omega) fun h78 => ?_) (nb_nlt (by omega) (by omega) fun h78 => ?_)) | refine E_icmp_gt 143 d_TM_layGames_78 rfl (fun h78 => ?_) (fun h78 => ?_)
      · exfalso; omega
      first | refine E_aload_n d_TM_layGames_81 rfl ?_ | refine E_aload_nN d_TM_layGames_81 rfl ?_
      refine E_iload d_TM_layGames_82 rfl ?_
      refine E_iload d_TM_layGames_84 rfl ?_
      refine E_V2 (sp_TM_canTell hM (by omega) (by omega)) d_TM_layGames_86 ml_TM_428 cb_TM_canTell cv_TM_canTell (by exact ⟨by decide, rfl⟩) ⟨by decide, rfl⟩ ⟨by decide, by decide⟩ rfl (Nat.le_of_ble_eq_true rfl) (Nat.le_of_ble_eq_true rfl) (kI fun r1 M1 hc => ?_)
      obtain ⟨rfl, rfl⟩ := hc
      first | (with_reducible refine E_isP ?_; refine E_if_ne 95 d_TM_layGames_89 rfl (pb_1 fun h89 => ?_) (pb_0 fun h89 => ?_)) | (with_reducible refine E_isN1 ?_; refine E_if_ne 95 d_TM_layGames_89 rfl (nz_ne fun h89 => ?_) (nz_eq (by omega) fun h89 => ?_)) | refine E_if_ne 95 d_TM_layGames_89 rfl (fun h89 => ?_) (fun h89 => ?_)
      · first | refine E_aload_n d_TM_layGames_95 rfl ?_ | refine E_aload_nN d_TM_layGames_95 rfl ?_
        refine E_iload_n d_TM_layGames_96 rfl ?_
        refine E_iconst (v := nI 1) d_TM_layGames_97 rfl ?_
        first | (with_reducible refine E_isN2 ?_; refine E_isubN d_TM_layGames_98 (by omega) ?_) | refine E_isub d_TM_layGames_98 ?_
        refine E_iload d_TM_layGames_99 rfl ?_
        refine E_V2 (sp_TM_byTold hM hN (by omega) (by omega) (by rw [Nat.add_sub_cancel]; exact hvG)) d_TM_layGames_101 ml_TM_431 cb_TM_byTold cv_TM_byTold (by exact ⟨by decide, rfl⟩) ⟨by decide, rfl⟩ ⟨by decide, by decide⟩ rfl (Nat.le_of_ble_eq_true rfl) (Nat.le_of_ble_eq_true rfl) (kI fun r1 M1 hc => ?_)
        obtain ⟨rfl, rfl⟩ := hc
        refine E_istore_7 d_TM_layGames_104 rfl ?_
        refine E_iload d_TM_layGames_106 rfl ?_
        refine E_iconst (v := (-1)) d_TM_layGames_108 rfl ?_
        first | (with_reducible refine E_isN2 ?_; refine E_icmp_eq 133 d_TM_layGames_109 rfl (nb_eq (by omega) (by omega) fun h109 => ?_) (nb_ne fun h109 => ?_)) | refine E_icmp_eq 133 d_TM_layGames_109 rfl (fun h109 => ?_) (fun h109 => ?_)
        rotate_left
        · exfalso; exact h109 rfl
        refine E_iload d_TM_layGames_133 rfl ?_
        refine E_istore_5 d_TM_layGames_135 rfl ?_
        first | exact up 0 _ (by rw [if_neg (fun q => h89 (And.intro q (Nat.le_of_lt_succ (Nat.lt_succ_of_le h78))))]) | exact up (v + 1) _ (by rw [if_pos h89.1, gS0])
      · refine E_goto 137 d_TM_layGames_92 rfl ?_
        first | exact up 0 _ (by rw [if_neg (fun q => h89 (And.intro q (Nat.le_of_lt_succ (Nat.lt_succ_of_le h78))))]) | exact up (v + 1) _ (by rw [if_pos h89.1, gS0])
    | succ b =>
      rw [show pM (b + 1) = nI b from rfl]
      refine E_iload d_TM_layGames_70 rfl ?_
      first | refine E_aload_n d_TM_layGames_72 rfl ?_ | refine E_aload_nN d_TM_layGames_72 rfl ?_
      refine E_getR (q := 1) d_TM_layGames_73 gf_TM_7 (by exact ⟨by decide, rfl⟩) (by exact hR _ rfl) ?_
      refine E_iconst (v := nI 0) d_TM_layGames_76 rfl ?_
      refine E_iald d_TM_layGames_77 (by exact ⟨by decide, rfl⟩) (by exact ⟨by with_reducible rfl, by omega, by decide⟩) (by first | exact hA.people | exact hA.figure | exact hN _ (by omega) | rfl) ?_
      first | (with_reducible refine E_isN2 ?_; refine E_icmp_gt 143 d_TM_layGames_78 rfl (nb_lt (by omega) (by omega) fun h78 => ?_) (nb_nlt (by omega) (by omega) fun h78 => ?_)) | refine E_icmp_gt 143 d_TM_layGames_78 rfl (fun h78 => ?_) (fun h78 => ?_)
      · exfalso; omega
      first | refine E_aload_n d_TM_layGames_81 rfl ?_ | refine E_aload_nN d_TM_layGames_81 rfl ?_
      refine E_iload d_TM_layGames_82 rfl ?_
      refine E_iload d_TM_layGames_84 rfl ?_
      refine E_V2 (sp_TM_canTell hM (by omega) (by omega)) d_TM_layGames_86 ml_TM_428 cb_TM_canTell cv_TM_canTell (by exact ⟨by decide, rfl⟩) ⟨by decide, rfl⟩ ⟨by decide, by decide⟩ rfl (Nat.le_of_ble_eq_true rfl) (Nat.le_of_ble_eq_true rfl) (kI fun r1 M1 hc => ?_)
      obtain ⟨rfl, rfl⟩ := hc
      first | (with_reducible refine E_isP ?_; refine E_if_ne 95 d_TM_layGames_89 rfl (pb_1 fun h89 => ?_) (pb_0 fun h89 => ?_)) | (with_reducible refine E_isN1 ?_; refine E_if_ne 95 d_TM_layGames_89 rfl (nz_ne fun h89 => ?_) (nz_eq (by omega) fun h89 => ?_)) | refine E_if_ne 95 d_TM_layGames_89 rfl (fun h89 => ?_) (fun h89 => ?_)
      · first | refine E_aload_n d_TM_layGames_95 rfl ?_ | refine E_aload_nN d_TM_layGames_95 rfl ?_
        refine E_iload_n d_TM_layGames_96 rfl ?_
        refine E_iconst (v := nI 1) d_TM_layGames_97 rfl ?_
        first | (with_reducible refine E_isN2 ?_; refine E_isubN d_TM_layGames_98 (by omega) ?_) | refine E_isub d_TM_layGames_98 ?_
        refine E_iload d_TM_layGames_99 rfl ?_
        refine E_V2 (sp_TM_byTold hM hN (by omega) (by omega) (by rw [Nat.add_sub_cancel]; exact hvG)) d_TM_layGames_101 ml_TM_431 cb_TM_byTold cv_TM_byTold (by exact ⟨by decide, rfl⟩) ⟨by decide, rfl⟩ ⟨by decide, by decide⟩ rfl (Nat.le_of_ble_eq_true rfl) (Nat.le_of_ble_eq_true rfl) (kI fun r1 M1 hc => ?_)
        obtain ⟨rfl, rfl⟩ := hc
        refine E_istore_7 d_TM_layGames_104 rfl ?_
        refine E_iload d_TM_layGames_106 rfl ?_
        refine E_iconst (v := (-1)) d_TM_layGames_108 rfl ?_
        first | (with_reducible refine E_isN2 ?_; refine E_icmp_eq 133 d_TM_layGames_109 rfl (nb_eq (by omega) (by omega) fun h109 => ?_) (nb_ne fun h109 => ?_)) | refine E_icmp_eq 133 d_TM_layGames_109 rfl (fun h109 => ?_) (fun h109 => ?_)
        · exfalso; exact nI_nm1 (by omega) h109
        refine E_iload_n d_TM_layGames_112 rfl ?_
        first | (with_reducible refine E_isP ?_; refine E_if_eq 126 d_TM_layGames_113 rfl (pb_0 fun h113 => ?_) (pb_1 fun h113 => ?_)) | (with_reducible refine E_isN1 ?_; refine E_if_eq 126 d_TM_layGames_113 rfl (nz_eq (by omega) fun h113 => ?_) (nz_ne fun h113 => ?_)) | refine E_if_eq 126 d_TM_layGames_113 rfl (fun h113 => ?_) (fun h113 => ?_)
        · refine E_iload d_TM_layGames_126 rfl ?_
          refine E_iload d_TM_layGames_128 rfl ?_
          first | (with_reducible refine E_isN2 ?_; refine E_icmp_ge 137 d_TM_layGames_130 rfl (nb_le (by omega) (by omega) fun h130 => ?_) (nb_nle (by omega) (by omega) fun h130 => ?_)) | refine E_icmp_ge 137 d_TM_layGames_130 rfl (fun h130 => ?_) (fun h130 => ?_)
          · first | (have q1 := gm1 h113 h120; exact up (v + 1) _ (by rw [if_pos h89.1, q1])) | (have q1 := gm2 h113 h120; exact up (b + 1) _ (by rw [if_pos h89.1, q1])) | (have q1 := gm3 h113 h130; exact up (v + 1) _ (by rw [if_pos h89.1, q1])) | (have q1 := gm4 h113 h130; exact up (b + 1) _ (by rw [if_pos h89.1, q1])) | exact up (b + 1) _ (by rw [if_neg (fun q => h89 (And.intro q (Nat.le_of_lt_succ (Nat.lt_succ_of_le h78))))])
          · refine E_iload d_TM_layGames_133 rfl ?_
            refine E_istore_5 d_TM_layGames_135 rfl ?_
            first | (have q1 := gm1 h113 h120; exact up (v + 1) _ (by rw [if_pos h89.1, q1])) | (have q1 := gm2 h113 h120; exact up (b + 1) _ (by rw [if_pos h89.1, q1])) | (have q1 := gm3 h113 h130; exact up (v + 1) _ (by rw [if_pos h89.1, q1])) | (have q1 := gm4 h113 h130; exact up (b + 1) _ (by rw [if_pos h89.1, q1])) | exact up (b + 1) _ (by rw [if_neg (fun q => h89 (And.intro q (Nat.le_of_lt_succ (Nat.lt_succ_of_le h78))))])
        · refine E_iload d_TM_layGames_116 rfl ?_
          refine E_iload d_TM_layGames_118 rfl ?_
          first | (with_reducible refine E_isN2 ?_; refine E_icmp_le 137 d_TM_layGames_120 rfl (nb_le (by omega) (by omega) fun h120 => ?_) (nb_nle (by omega) (by omega) fun h120 => ?_)) | refine E_icmp_le 137 d_TM_layGames_120 rfl (fun h120 => ?_) (fun h120 => ?_)
          · first | (have q1 := gm1 h113 h120; exact up (v + 1) _ (by rw [if_pos h89.1, q1])) | (have q1 := gm2 h113 h120; exact up (b + 1) _ (by rw [if_pos h89.1, q1])) | (have q1 := gm3 h113 h130; exact up (v + 1) _ (by rw [if_pos h89.1, q1])) | (have q1 := gm4 h113 h130; exact up (b + 1) _ (by rw [if_pos h89.1, q1])) | exact up (b + 1) _ (by rw [if_neg (fun q => h89 (And.intro q (Nat.le_of_lt_succ (Nat.lt_succ_of_le h78))))])
          · refine E_goto 133 d_TM_layGames_123 rfl ?_
            refine E_iload d_TM_layGames_133 rfl ?_
            refine E_istore_5 d_TM_layGames_135 rfl ?_
            first | (have q1 := gm1 h113 h120; exact up (v + 1) _ (by rw [if_pos h89.1, q1])) | (have q1 := gm2 h113 h120; exact up (b + 1) _ (by rw [if_pos h89.1, q1])) | (have q1 := gm3 h113 h130; exact up (v + 1) _ (by rw [if_pos h89.1, q1])) | (have q1 := gm4 h113 h130; exact up (b + 1) _ (by rw [if_pos h89.1, q1])) | exact up (b + 1) _ (by rw [if_neg (fun q => h89 (And.intro q (Nat.le_of_lt_succ (Nat.lt_succ_of_le h78))))])
      · refine E_goto 137 d_TM_layGames_92 rfl ?_
        first | (have q1 := gm1 h113 h120; exact up (v + 1) _ (by rw [if_pos h89.1, q1])) | (have q1 := gm2 h113 h120; exact up (b + 1) _ (by rw [if_pos h89.1, q1])) | (have q1 := gm3 h113 h130; exact up (v + 1) _ (by rw [if_pos h89.1, q1])) | (have q1 := gm4 h113 h130; exact up (b + 1) _ (by rw [if_pos h89.1, q1])) | exact up (b + 1) _ (by rw [if_neg (fun q => h89 (And.intro q (Nat.le_of_lt_succ (Nat.lt_succ_of_le h78))))])
def HG (c : Cr) (n j f : Nat) (M : Mem) : Prop := ∀ i g, g ≤ c.now.people → (i < j ∨ (i = j ∧ g < f)) → mI M 14 (9 * i + g) = nI (gamA c n i g)
theorem HG.up {c : Cr} {n j f : Nat} {M : Mem} (h : HG c n j f M) (hp8 : c.now.people ≤ 8) (hf : f ≤ c.now.people) {x : Int32} (e : x = nI (gamA c n j f)) : HG c n j (f + 1) (wI M 14 (9 * j + f) x) := by
  intro i g hg hi
  rw [mI_wI]
  by_cases q : 9 * i + g = 9 * j + f
  · have q1 : i = j := by omega
    have q2 : g = f := by omega
    rw [if_pos ⟨rfl, q⟩, q1, q2, e]
  · rw [if_neg (fun r => q r.2)]
    refine h i g hg ?_
    rcases hi with r | ⟨r1, r2⟩
    · exact Or.inl r
    · subst r1
      exact Or.inr ⟨rfl, by omega⟩
theorem HG.next {c : Cr} {n j : Nat} {M : Mem} (h : HG c n j (c.now.people + 1) M) : HG c n (j + 1) 0 M := by
  intro i g hg hi
  refine h i g hg ?_
  rcases hi with r | ⟨r1, r2⟩
  · by_cases q : i = j
    · exact Or.inr ⟨q, by omega⟩
    · exact Or.inl (by omega)
  · exact absurd r2 (Nat.not_lt_zero _)
theorem HN.w14 {c : Cr} {M : Mem} (h : HN c M) (i : Nat) (x : Int32) : HN c (wI M 14 i x) := by
  intro j hj
  rw [mI_wI, if_neg (fun q => absurd q.1 (by decide))]
  exact h j hj
theorem lp_TM_gmF {c : Cr} {M0 : Mem} {n j : Nat} {mx : Bool} {Q : Option Value → Geo → Mem → Prop} (hj : j < 8) (hmx : mx = decide ((n - (j + 1)) % 2 = 0))
    (K : ∀ M, HM c M → HN c M → Sx SQ M0 M → HG c n (j + 1) (c.now.people + 1) M → E 8 0 0 Y_TM_layGames 163 [some (.ref 0), some (.int (nI n)), some (.int (nI (j + 1))), none, none, none, none, none] [] GM M Q) :
    ∀ k f, f + k = c.now.people + 1 → ∀ M, HM c M → HN c M → Sx SQ M0 M → HG c n (j + 1) f M → E 8 0 0 Y_TM_layGames 53 [some (.ref 0), some (.int (nI n)), some (.int (nI (j + 1))), some (.int (pI (mx = true))), some (.int (nI f)), none, none, none] [] GM M Q := by
  intro k
  induction k with
  | zero =>
    intro f hf M hM hN hX hG
    have hR := hM.R
    have hA := hM.A
    have hp8 := hM.w.p8
    have hf2 : f = c.now.people + 1 := by omega
    subst hf2
    refine E_iload d_TM_layGames_53 rfl ?_
    first | refine E_aload_n d_TM_layGames_55 rfl ?_ | refine E_aload_nN d_TM_layGames_55 rfl ?_
    refine E_getR (q := 1) d_TM_layGames_56 gf_TM_7 (by exact ⟨by decide, rfl⟩) (by exact hR _ rfl) ?_
    refine E_iconst (v := nI 0) d_TM_layGames_59 rfl ?_
    refine E_iald d_TM_layGames_60 (by exact ⟨by decide, rfl⟩) (by exact ⟨by with_reducible rfl, by omega, by decide⟩) (by first | exact hA.people | exact hA.figure | exact hN _ (by omega) | rfl) ?_
    first | (with_reducible refine E_isN2 ?_; refine E_icmp_gt 163 d_TM_layGames_61 rfl (nb_lt (by omega) (by omega) fun h61 => ?_) (nb_nlt (by omega) (by omega) fun h61 => ?_)) | refine E_icmp_gt 163 d_TM_layGames_61 rfl (fun h61 => ?_) (fun h61 => ?_)
    rotate_left
    · exfalso; omega
    refine E_wk ?_ (K M hM hN hX hG); exact ⟨Or.inl rfl, Or.inl rfl, Or.inl rfl, Or.inr rfl, Or.inr rfl, Or.inl rfl, Or.inl rfl, Or.inl rfl, trivial⟩
  | succ k ih =>
    intro f hf M hM hN hX hG
    have hR := hM.R
    have hA := hM.A
    have hp8 := hM.w.p8
    have hpos := gmB_pos (mx := mx) (v := fun t => gamA c n j (cm c t)) (c.now.people + 1) (show f < c.now.people + 1 by omega)
    have e1 : pM (gmB mx (fun t => gamA c n j (cm c t)) f (c.now.people + 1)) = nI (gamA c n (j + 1) f) := by
      rw [pM_pred (by omega), gamA, ← hmx]
    have K2 : E 8 0 0 Y_TM_layGames 143 [some (.ref 0), some (.int (nI n)), some (.int (nI (j + 1))), some (.int (pI (mx = true))), some (.int (nI f)), some (.int (pM (gmB mx (fun t => gamA c n j (cm c t)) f (c.now.people + 1)))), none, none] [] GM M Q := by
      rw [e1]
      first | refine E_aload_n d_TM_layGames_143 rfl ?_ | refine E_aload_nN d_TM_layGames_143 rfl ?_
      refine E_getR (q := 14) d_TM_layGames_144 gf_TM_62 (by exact ⟨by decide, rfl⟩) (by exact hR _ rfl) ?_
      refine E_bipush (v := nI 9) d_TM_layGames_147 (by decide) ?_
      refine E_iload_n d_TM_layGames_149 rfl ?_
      first | (with_reducible refine E_isN2 ?_; refine E_imulN d_TM_layGames_150 ?_) | refine E_imul d_TM_layGames_150 ?_
      refine E_iload d_TM_layGames_151 rfl ?_
      first | (with_reducible refine E_isN2 ?_; refine E_iaddN d_TM_layGames_153 ?_) | refine E_iadd d_TM_layGames_153 ?_
      refine E_iload d_TM_layGames_154 rfl ?_
      refine E_iast d_TM_layGames_156 (by exact ⟨by decide, rfl⟩) (by exact ⟨by with_reducible rfl, by omega, by decide⟩) ?_
      first | (with_reducible refine E_isL4 ?_; refine E_iincN4 (m := 1) d_TM_layGames_157 rfl rfl ?_) | refine E_iinc_4 d_TM_layGames_157 rfl rfl ?_
      refine E_goto 53 d_TM_layGames_160 rfl ?_
      refine E_wk ?_ (ih (f + 1) (by omega) _ (hM.sx (Sx.rf.wI (a := 14) (j := 9 * (j + 1) + f) (x := nI (gamA c n (j + 1) f)) (by unfold SQ; decide))) (hN.w14 _ _) (hX.wI (a := 14) (j := 9 * (j + 1) + f) (x := nI (gamA c n (j + 1) f)) (by unfold SQ; decide)) (hG.up hp8 (by omega) rfl))
      exact ⟨Or.inl rfl, Or.inl rfl, Or.inl rfl, Or.inl rfl, Or.inl rfl, Or.inr rfl, Or.inl rfl, Or.inl rfl, trivial⟩
    refine E_iload d_TM_layGames_53 rfl ?_
    first | refine E_aload_n d_TM_layGames_55 rfl ?_ | refine E_aload_nN d_TM_layGames_55 rfl ?_
    refine E_getR (q := 1) d_TM_layGames_56 gf_TM_7 (by exact ⟨by decide, rfl⟩) (by exact hR _ rfl) ?_
    refine E_iconst (v := nI 0) d_TM_layGames_59 rfl ?_
    refine E_iald d_TM_layGames_60 (by exact ⟨by decide, rfl⟩) (by exact ⟨by with_reducible rfl, by omega, by decide⟩) (by first | exact hA.people | exact hA.figure | exact hN _ (by omega) | rfl) ?_
    first | (with_reducible refine E_isN2 ?_; refine E_icmp_gt 163 d_TM_layGames_61 rfl (nb_lt (by omega) (by omega) fun h61 => ?_) (nb_nlt (by omega) (by omega) fun h61 => ?_)) | refine E_icmp_gt 163 d_TM_layGames_61 rfl (fun h61 => ?_) (fun h61 => ?_)
    · exfalso; omega
    refine E_iconst (v := (-1)) d_TM_layGames_64 rfl ?_
    refine E_istore_5 d_TM_layGames_65 rfl ?_
    refine E_iconst (v := nI 0) d_TM_layGames_67 rfl ?_
    refine E_istore_6 d_TM_layGames_68 rfl ?_
    exact lp_TM_gmT hM hN hj (by omega) (fun g hg => hG j g hg (Or.inl (by omega))) K2 (c.now.people + 1) 0 (Nat.zero_add _)
theorem lp_TM_gmJ {c : Cr} {M0 : Mem} {n : Nat} (hn : n ≤ 8) :
    ∀ k j, j + k = n → ∀ M, HM c M → HN c M → Sx SQ M0 M → HG c n (j + 1) 0 M → E 8 0 0 Y_TM_layGames 31 [some (.ref 0), some (.int (nI n)), some (.int (nI (j + 1))), none, none, none, none, none] [] GM M (QV GM fun M' => HG c n (n + 1) 0 M' ∧ HM c M' ∧ HN c M' ∧ Sx SQ M0 M') := by
  intro k
  induction k with
  | zero =>
    intro j hj M hM hN hX hG
    have hj2 : j = n := by omega
    subst hj2
    refine E_iload_n d_TM_layGames_31 rfl ?_
    refine E_iload_n d_TM_layGames_32 rfl ?_
    first | (with_reducible refine E_isN2 ?_; refine E_icmp_gt 169 d_TM_layGames_33 rfl (nb_lt (by omega) (by omega) fun h33 => ?_) (nb_nlt (by omega) (by omega) fun h33 => ?_)) | refine E_icmp_gt 169 d_TM_layGames_33 rfl (fun h33 => ?_) (fun h33 => ?_)
    rotate_left
    · exfalso; omega
    refine E_retV d_TM_layGames_169 rfl ?_
    exact ⟨hG, hM, hN, hX⟩
  | succ k ih =>
    intro j hj M hM hN hX hG
    have K : ∀ M, HM c M → HN c M → Sx SQ M0 M → HG c n (j + 1) (c.now.people + 1) M → E 8 0 0 Y_TM_layGames 163 [some (.ref 0), some (.int (nI n)), some (.int (nI (j + 1))), none, none, none, none, none] [] GM M (QV GM fun M' => HG c n (n + 1) 0 M' ∧ HM c M' ∧ HN c M' ∧ Sx SQ M0 M') := by
      intro M hM hN hX hG
      first | (with_reducible refine E_isL2 ?_; refine E_iincN2 (m := 1) d_TM_layGames_163 rfl rfl ?_) | refine E_iinc_2 d_TM_layGames_163 rfl rfl ?_
      refine E_goto 31 d_TM_layGames_166 rfl ?_
      exact ih (j + 1) (by omega) M hM hN hX hG.next
    have L := lp_TM_gmF (j := j) (by omega) rfl K (c.now.people + 1) 0 (Nat.zero_add _) M hM hN hX hG
    refine E_iload_n d_TM_layGames_31 rfl ?_
    refine E_iload_n d_TM_layGames_32 rfl ?_
    first | (with_reducible refine E_isN2 ?_; refine E_icmp_gt 169 d_TM_layGames_33 rfl (nb_lt (by omega) (by omega) fun h33 => ?_) (nb_nlt (by omega) (by omega) fun h33 => ?_)) | refine E_icmp_gt 169 d_TM_layGames_33 rfl (fun h33 => ?_) (fun h33 => ?_)
    · exfalso; omega
    refine E_iload_n d_TM_layGames_36 rfl ?_
    refine E_iload_n d_TM_layGames_37 rfl ?_
    first | (with_reducible refine E_isN2 ?_; refine E_isubN d_TM_layGames_38 (by omega) ?_) | refine E_isub d_TM_layGames_38 ?_
    refine E_iconst (v := nI 2) d_TM_layGames_39 rfl ?_
    first | (with_reducible refine E_isN2 ?_; refine E_iremN d_TM_layGames_40 (by omega) (by omega) (by omega) ?_) | refine E_irem d_TM_layGames_40 (by decide) ?_
    first | (with_reducible refine E_isP ?_; refine E_if_ne 48 d_TM_layGames_41 rfl (pb_1 fun h41 => ?_) (pb_0 fun h41 => ?_)) | (with_reducible refine E_isN1 ?_; refine E_if_ne 48 d_TM_layGames_41 rfl (nz_ne fun h41 => ?_) (nz_eq (by omega) fun h41 => ?_)) | refine E_if_ne 48 d_TM_layGames_41 rfl (fun h41 => ?_) (fun h41 => ?_)
    · refine E_iconst (v := nI 0) d_TM_layGames_48 rfl ?_
      refine E_istore_3 d_TM_layGames_49 rfl ?_
      refine E_iconst (v := nI 0) d_TM_layGames_50 rfl ?_
      refine E_istore_4 d_TM_layGames_51 rfl ?_
      first | (rw [pI_t (decide_eq_true h41)] at L; exact L) | (rw [pI_f (fun q => h41 (of_decide_eq_true q))] at L; exact L)
    · refine E_iconst (v := nI 1) d_TM_layGames_44 rfl ?_
      refine E_goto 49 d_TM_layGames_45 rfl ?_
      refine E_istore_3 d_TM_layGames_49 rfl ?_
      refine E_iconst (v := nI 0) d_TM_layGames_50 rfl ?_
      refine E_istore_4 d_TM_layGames_51 rfl ?_
      first | (rw [pI_t (decide_eq_true h41)] at L; exact L) | (rw [pI_f (fun q => h41 (of_decide_eq_true q))] at L; exact L)
theorem lp_TM_gm0 {c : Cr} {M0 : Mem} {n : Nat} (hn : n ≤ 8) {Q : Option Value → Geo → Mem → Prop}
    (K : ∀ M, HM c M → HN c M → Sx SQ M0 M → HG c n 0 (c.now.people + 1) M → E 8 0 0 Y_TM_layGames 29 [some (.ref 0), some (.int (nI n)), none, none, none, none, none, none] [] GM M Q) :
    ∀ k f, f + k = c.now.people + 1 → ∀ M, HM c M → HN c M → Sx SQ M0 M → HG c n 0 f M → E 8 0 0 Y_TM_layGames 6 [some (.ref 0), some (.int (nI n)), some (.int (nI f)), none, none, none, none, none] [] GM M Q := by
  intro k
  induction k with
  | zero =>
    intro f hf M hM hN hX hG
    have hR := hM.R
    have hA := hM.A
    have hp8 := hM.w.p8
    have hf2 : f = c.now.people + 1 := by omega
    subst hf2
    refine E_iload_n d_TM_layGames_6 rfl ?_
    first | refine E_aload_n d_TM_layGames_7 rfl ?_ | refine E_aload_nN d_TM_layGames_7 rfl ?_
    refine E_getR (q := 1) d_TM_layGames_8 gf_TM_7 (by exact ⟨by decide, rfl⟩) (by exact hR _ rfl) ?_
    refine E_iconst (v := nI 0) d_TM_layGames_11 rfl ?_
    refine E_iald d_TM_layGames_12 (by exact ⟨by decide, rfl⟩) (by exact ⟨by with_reducible rfl, by omega, by decide⟩) (by first | exact hA.people | exact hA.figure | exact hN _ (by omega) | rfl) ?_
    first | (with_reducible refine E_isN2 ?_; refine E_icmp_gt 29 d_TM_layGames_13 rfl (nb_lt (by omega) (by omega) fun h13 => ?_) (nb_nlt (by omega) (by omega) fun h13 => ?_)) | refine E_icmp_gt 29 d_TM_layGames_13 rfl (fun h13 => ?_) (fun h13 => ?_)
    rotate_left
    · exfalso; omega
    refine E_wk ?_ (K M hM hN hX hG); exact ⟨Or.inl rfl, Or.inl rfl, Or.inr rfl, Or.inl rfl, Or.inl rfl, Or.inl rfl, Or.inl rfl, Or.inl rfl, trivial⟩
  | succ k ih =>
    intro f hf M hM hN hX hG
    have hR := hM.R
    have hA := hM.A
    have hp8 := hM.w.p8
    have hG2 := hG.up hp8 (show f ≤ c.now.people by omega) (x := nI f) rfl
    rw [show 9 * 0 + f = f by omega] at hG2
    refine E_iload_n d_TM_layGames_6 rfl ?_
    first | refine E_aload_n d_TM_layGames_7 rfl ?_ | refine E_aload_nN d_TM_layGames_7 rfl ?_
    refine E_getR (q := 1) d_TM_layGames_8 gf_TM_7 (by exact ⟨by decide, rfl⟩) (by exact hR _ rfl) ?_
    refine E_iconst (v := nI 0) d_TM_layGames_11 rfl ?_
    refine E_iald d_TM_layGames_12 (by exact ⟨by decide, rfl⟩) (by exact ⟨by with_reducible rfl, by omega, by decide⟩) (by first | exact hA.people | exact hA.figure | exact hN _ (by omega) | rfl) ?_
    first | (with_reducible refine E_isN2 ?_; refine E_icmp_gt 29 d_TM_layGames_13 rfl (nb_lt (by omega) (by omega) fun h13 => ?_) (nb_nlt (by omega) (by omega) fun h13 => ?_)) | refine E_icmp_gt 29 d_TM_layGames_13 rfl (fun h13 => ?_) (fun h13 => ?_)
    · exfalso; omega
    first | refine E_aload_n d_TM_layGames_16 rfl ?_ | refine E_aload_nN d_TM_layGames_16 rfl ?_
    refine E_getR (q := 14) d_TM_layGames_17 gf_TM_62 (by exact ⟨by decide, rfl⟩) (by exact hR _ rfl) ?_
    refine E_iload_n d_TM_layGames_20 rfl ?_
    refine E_iload_n d_TM_layGames_21 rfl ?_
    refine E_iast d_TM_layGames_22 (by exact ⟨by decide, rfl⟩) (by exact ⟨by with_reducible rfl, by omega, by decide⟩) ?_
    first | (with_reducible refine E_isL2 ?_; refine E_iincN2 (m := 1) d_TM_layGames_23 rfl rfl ?_) | refine E_iinc_2 d_TM_layGames_23 rfl rfl ?_
    refine E_goto 6 d_TM_layGames_26 rfl ?_
    exact ih (f + 1) (by omega) _ (hM.sx (Sx.rf.wI (by unfold SQ; decide))) (hN.w14 _ _) (hX.wI (by unfold SQ; decide)) hG2
theorem sp_TM_layGames {c : Cr} {M : Mem} {n : Nat} (hM : HM c M) (hn : n ≤ 8) : E 8 0 0 Y_TM_layGames 0 [some (.ref 0), some (.int (nI n)), none, none, none, none, none, none] [] GM M (QV GM fun M' => HG c n (n + 1) 0 M' ∧ HM c M' ∧ HN c M' ∧ Sx SQ M M') := by
  have K : ∀ M1, HM c M1 → HN c M1 → Sx SQ M M1 → HG c n 0 (c.now.people + 1) M1 → E 8 0 0 Y_TM_layGames 29 [some (.ref 0), some (.int (nI n)), none, none, none, none, none, none] [] GM M1 (QV GM fun M' => HG c n (n + 1) 0 M' ∧ HM c M' ∧ HN c M' ∧ Sx SQ M M') := by
    intro M1 hM1 hN hX hG
    refine E_iconst (v := nI 1) d_TM_layGames_29 rfl ?_
    refine E_istore_2 d_TM_layGames_30 rfl ?_
    exact lp_TM_gmJ hn n 0 (Nat.zero_add _) M1 hM1 hN hX hG.next
  first | refine E_aload_n d_TM_layGames_0 rfl ?_ | refine E_aload_nN d_TM_layGames_0 rfl ?_
  refine E_V0 (sp_TM_layNext hM) d_TM_layGames_1 ml_TM_362 cb_TM_layNext cv_TM_layNext (by exact ⟨by decide, rfl⟩) ⟨by decide, rfl⟩ ⟨by decide, by decide⟩ rfl (Nat.le_of_ble_eq_true rfl) (Nat.le_of_ble_eq_true rfl) (kV fun M1 hc => ?_)
  obtain ⟨hN, hS1⟩ := hc
  refine E_iconst (v := nI 0) d_TM_layGames_4 rfl ?_
  refine E_istore_2 d_TM_layGames_5 rfl ?_
  exact lp_TM_gm0 hn K (c.now.people + 1) 0 (Nat.zero_add _) _ (hM.sx hS1) hN hS1 (fun i g hg hi => by omega)
theorem sp_TM_game {c : Cr} {M : Mem} (hM : HM c M) (x : Int32) : E 9 0 0 Y_TM_game 0 [some (.ref 0), some (.int x)] [] GM M (QI GM fun r M' => r = ans_game c x ∧ Sx SQ M M') := by
  have hf := hM.w.fig
  have hp8 := hM.w.p8
  revert x
  refine args1 9 (fun n hn hx ht => ?_) (fun x hx => ?_)
  · refine E_iload_n d_TM_game_0 rfl ?_
    refine E_iconst (v := nI 0) d_TM_game_1 rfl ?_
    refine E_bipush (v := nI 8) d_TM_game_2 (by decide) ?_
    refine E_S3 (sp_TM_in _ 8 (by decide)) d_TM_game_4 ml_TM_69 cb_TM_isIn cs_TM_isIn ⟨by decide, by decide⟩ rfl (Nat.le_of_ble_eq_true rfl) (Nat.le_of_ble_eq_true rfl) (kI fun r1 M1 hc => ?_)
    obtain ⟨rfl, rfl⟩ := hc
    first | (with_reducible refine E_isP ?_; refine E_if_ne 12 d_TM_game_7 rfl (pb_1 fun h7 => ?_) (pb_0 fun h7 => ?_)) | (with_reducible refine E_isN1 ?_; refine E_if_ne 12 d_TM_game_7 rfl (nz_ne fun h7 => ?_) (nz_eq (by omega) fun h7 => ?_)) | refine E_if_ne 12 d_TM_game_7 rfl (fun h7 => ?_) (fun h7 => ?_)
    rotate_left
    · exfalso; exact h7 hx
    first | refine E_aload_n d_TM_game_12 rfl ?_ | refine E_aload_nN d_TM_game_12 rfl ?_
    refine E_iload_n d_TM_game_13 rfl ?_
    refine E_V1 (sp_TM_layGames hM (by omega)) d_TM_game_14 ml_TM_434 cb_TM_layGames cv_TM_layGames (by exact ⟨by decide, rfl⟩) ⟨by decide, rfl⟩ ⟨by decide, by decide⟩ rfl (Nat.le_of_ble_eq_true rfl) (Nat.le_of_ble_eq_true rfl) (kV fun M1 hc => ?_)
    obtain ⟨hG, hM1, hN, hS1⟩ := hc
    have hR := hM1.R
    have hA := hM1.A
    first | refine E_aload_n d_TM_game_17 rfl ?_ | refine E_aload_nN d_TM_game_17 rfl ?_
    refine E_getR (q := 14) d_TM_game_18 gf_TM_62 (by exact ⟨by decide, rfl⟩) (by exact hR _ rfl) ?_
    refine E_bipush (v := nI 9) d_TM_game_21 (by decide) ?_
    refine E_iload_n d_TM_game_23 rfl ?_
    first | (with_reducible refine E_isN2 ?_; refine E_imulN d_TM_game_24 ?_) | refine E_imul d_TM_game_24 ?_
    first | refine E_aload_n d_TM_game_25 rfl ?_ | refine E_aload_nN d_TM_game_25 rfl ?_
    refine E_getR (q := 1) d_TM_game_26 gf_TM_7 (by exact ⟨by decide, rfl⟩) (by exact hR _ rfl) ?_
    refine E_bipush (v := nI 7) d_TM_game_29 (by decide) ?_
    refine E_iald d_TM_game_31 (by exact ⟨by decide, rfl⟩) (by exact ⟨by with_reducible rfl, by omega, by decide⟩) (by first | exact hA.people | exact hA.figure | exact hN _ (by omega) | rfl) ?_
    first | (with_reducible refine E_isN2 ?_; refine E_iaddN d_TM_game_32 ?_) | refine E_iadd d_TM_game_32 ?_
    refine E_iald d_TM_game_33 (by exact ⟨by decide, rfl⟩) (by exact ⟨by with_reducible rfl, by omega, by decide⟩) (by exact hG n _ hf (Or.inl (Nat.lt_succ_self n))) ?_
    refine E_retI d_TM_game_34 rfl ?_
    exact ⟨by rw [ans_game, if_pos hx, ht], hS1⟩
  · refine E_iload_n d_TM_game_0 rfl ?_
    refine E_iconst (v := nI 0) d_TM_game_1 rfl ?_
    refine E_bipush (v := nI 8) d_TM_game_2 (by decide) ?_
    refine E_S3 (sp_TM_in _ 8 (by decide)) d_TM_game_4 ml_TM_69 cb_TM_isIn cs_TM_isIn ⟨by decide, by decide⟩ rfl (Nat.le_of_ble_eq_true rfl) (Nat.le_of_ble_eq_true rfl) (kI fun r1 M1 hc => ?_)
    obtain ⟨rfl, rfl⟩ := hc
    first | (with_reducible refine E_isP ?_; refine E_if_ne 12 d_TM_game_7 rfl (pb_1 fun h7 => ?_) (pb_0 fun h7 => ?_)) | (with_reducible refine E_isN1 ?_; refine E_if_ne 12 d_TM_game_7 rfl (nz_ne fun h7 => ?_) (nz_eq (by omega) fun h7 => ?_)) | refine E_if_ne 12 d_TM_game_7 rfl (fun h7 => ?_) (fun h7 => ?_)
    · exfalso; exact hx h7
    refine E_iconst (v := (-1)) d_TM_game_10 rfl ?_
    refine E_retI d_TM_game_11 rfl ?_
    exact ⟨by rw [ans_game, if_neg hx], Sx.rf⟩
theorem choice_ex {c : Cr} {n f : Nat} (hn : 1 ≤ n) (hf : f ≤ c.now.people) : ∃ m, 0 ≤ m ∧ m < 0 + (c.now.people + 1) ∧ (decide (ap f m ≤ 1) && decide (gamA c n (n - 1) (cm c m) = gamA c n n f)) = true := by
  obtain ⟨j, rfl⟩ : ∃ j, n = j + 1 := ⟨n - 1, by omega⟩
  have hpos := gmB_pos (mx := decide ((j + 1 - (j + 1)) % 2 = 0)) (v := fun t => gamA c (j + 1) j (cm c t)) (c.now.people + 1) (show f < c.now.people + 1 by omega)
  obtain ⟨t, h1, h2, h3⟩ := gmB_att _ hpos
  refine ⟨t, Nat.zero_le _, by omega, ?_⟩
  rw [decide_eq_true h2, Bool.true_and]
  apply decide_eq_true
  rw [Nat.add_sub_cancel, gamA, h3, Nat.add_sub_cancel]
theorem lp_TM_choice {c : Cr} {M M0 : Mem} {n R : Nat} (hM : HM c M) (hN : HN c M) (hX : Sx SQ M0 M) (hG : HG c n (n + 1) 0 M) (hn : 1 ≤ n) (hn8 : n ≤ 8) :
    ∀ k t, t + k = c.now.people + 1 → (∃ m, t ≤ m ∧ m < t + k ∧ (decide (ap c.now.figure m ≤ 1) && decide (gamA c n (n - 1) (cm c m) = gamA c n n c.now.figure)) = true) →
    findP (fun t => decide (ap c.now.figure t ≤ 1) && decide (gamA c n (n - 1) (cm c t) = gamA c n n c.now.figure)) k t = R → E 9 0 0 Y_TM_choice 19 [some (.ref 0), some (.int (nI n)), some (.int (nI t))] [] GM M (QI GM fun r M' => r = nI R ∧ Sx SQ M0 M') := by
  have hR := hM.R
  have hA := hM.A
  have hf := hM.w.fig
  have hp8 := hM.w.p8
  have g2 := gamA_le (c := c) (n := n) n c.now.figure hf
  intro k
  induction k with
  | zero => rintro t ht ⟨m, h1, h2, -⟩; omega
  | succ k ih =>
    intro t ht hex hv
    have g1 := gamA_le (c := c) (n := n) (n - 1) (cm c t) (cm_le c t)
    have hcg := cm_le c t
    rw [findP] at hv
    have hno : ¬ (decide (ap c.now.figure t ≤ 1) && decide (gamA c n (n - 1) (cm c t) = gamA c n n c.now.figure)) = true → E 9 0 0 Y_TM_choice 62 [some (.ref 0), some (.int (nI n)), some (.int (nI t))] [] GM M (QI GM fun r M' => r = nI R ∧ Sx SQ M0 M') := by
      intro q
      rw [if_neg q] at hv
      first | (with_reducible refine E_isL2 ?_; refine E_iincN2 (m := 1) d_TM_choice_62 rfl rfl ?_) | refine E_iinc_2 d_TM_choice_62 rfl rfl ?_
      refine E_goto 19 d_TM_choice_65 rfl ?_
      refine ih (t + 1) (by omega) ?_ hv
      obtain ⟨m, h1, h2, h3⟩ := hex
      have hm : t ≠ m := fun r => q (by rw [r]; exact h3)
      exact ⟨m, by omega, by omega, h3⟩
    first | refine E_aload_n d_TM_choice_19 rfl ?_ | refine E_aload_nN d_TM_choice_19 rfl ?_
    first | refine E_aload_n d_TM_choice_20 rfl ?_ | refine E_aload_nN d_TM_choice_20 rfl ?_
    refine E_getR (q := 1) d_TM_choice_21 gf_TM_7 (by exact ⟨by decide, rfl⟩) (by exact hR _ rfl) ?_
    refine E_bipush (v := nI 7) d_TM_choice_24 (by decide) ?_
    refine E_iald d_TM_choice_26 (by exact ⟨by decide, rfl⟩) (by exact ⟨by with_reducible rfl, by omega, by decide⟩) (by first | exact hA.people | exact hA.figure | exact hN _ (by omega) | rfl) ?_
    refine E_iload_n d_TM_choice_27 rfl ?_
    refine E_V2 (sp_TM_canTell hM (by omega) (by omega)) d_TM_choice_28 ml_TM_428 cb_TM_canTell cv_TM_canTell (by exact ⟨by decide, rfl⟩) ⟨by decide, rfl⟩ ⟨by decide, by decide⟩ rfl (Nat.le_of_ble_eq_true rfl) (Nat.le_of_ble_eq_true rfl) (kI fun r1 M1 hc => ?_)
    obtain ⟨rfl, rfl⟩ := hc
    first | (with_reducible refine E_isP ?_; refine E_if_eq 62 d_TM_choice_31 rfl (pb_0 fun h31 => ?_) (pb_1 fun h31 => ?_)) | (with_reducible refine E_isN1 ?_; refine E_if_eq 62 d_TM_choice_31 rfl (nz_eq (by omega) fun h31 => ?_) (nz_ne fun h31 => ?_)) | refine E_if_eq 62 d_TM_choice_31 rfl (fun h31 => ?_) (fun h31 => ?_)
    · first | exact hno (fun q => h31 (And.intro (of_decide_eq_true ((Bool.and_eq_true _ _).mp q).1) (by omega))) | exact hno (fun q => h59 (of_decide_eq_true ((Bool.and_eq_true _ _).mp q).2))
    · first | refine E_aload_n d_TM_choice_34 rfl ?_ | refine E_aload_nN d_TM_choice_34 rfl ?_
      refine E_iload_n d_TM_choice_35 rfl ?_
      refine E_iconst (v := nI 1) d_TM_choice_36 rfl ?_
      first | (with_reducible refine E_isN2 ?_; refine E_isubN d_TM_choice_37 (by omega) ?_) | refine E_isub d_TM_choice_37 ?_
      refine E_iload_n d_TM_choice_38 rfl ?_
      refine E_V2 (sp_TM_byTold hM hN (by omega) (by omega) (hG (n - 1) (cm c t) hcg (Or.inl (by omega)))) d_TM_choice_39 ml_TM_431 cb_TM_byTold cv_TM_byTold (by exact ⟨by decide, rfl⟩) ⟨by decide, rfl⟩ ⟨by decide, by decide⟩ rfl (Nat.le_of_ble_eq_true rfl) (Nat.le_of_ble_eq_true rfl) (kI fun r1 M1 hc => ?_)
      obtain ⟨rfl, rfl⟩ := hc
      first | refine E_aload_n d_TM_choice_42 rfl ?_ | refine E_aload_nN d_TM_choice_42 rfl ?_
      refine E_getR (q := 14) d_TM_choice_43 gf_TM_62 (by exact ⟨by decide, rfl⟩) (by exact hR _ rfl) ?_
      refine E_bipush (v := nI 9) d_TM_choice_46 (by decide) ?_
      refine E_iload_n d_TM_choice_48 rfl ?_
      first | (with_reducible refine E_isN2 ?_; refine E_imulN d_TM_choice_49 ?_) | refine E_imul d_TM_choice_49 ?_
      first | refine E_aload_n d_TM_choice_50 rfl ?_ | refine E_aload_nN d_TM_choice_50 rfl ?_
      refine E_getR (q := 1) d_TM_choice_51 gf_TM_7 (by exact ⟨by decide, rfl⟩) (by exact hR _ rfl) ?_
      refine E_bipush (v := nI 7) d_TM_choice_54 (by decide) ?_
      refine E_iald d_TM_choice_56 (by exact ⟨by decide, rfl⟩) (by exact ⟨by with_reducible rfl, by omega, by decide⟩) (by first | exact hA.people | exact hA.figure | exact hN _ (by omega) | rfl) ?_
      first | (with_reducible refine E_isN2 ?_; refine E_iaddN d_TM_choice_57 ?_) | refine E_iadd d_TM_choice_57 ?_
      refine E_iald d_TM_choice_58 (by exact ⟨by decide, rfl⟩) (by exact ⟨by with_reducible rfl, by omega, by decide⟩) (by exact hG n _ hf (Or.inl (Nat.lt_succ_self n))) ?_
      first | (with_reducible refine E_isN2 ?_; refine E_icmp_eq 68 d_TM_choice_59 rfl (nb_eq (by omega) (by omega) fun h59 => ?_) (nb_ne fun h59 => ?_)) | refine E_icmp_eq 68 d_TM_choice_59 rfl (fun h59 => ?_) (fun h59 => ?_)
      · refine E_iload_n d_TM_choice_68 rfl ?_
        refine E_retI d_TM_choice_69 rfl ?_
        exact ⟨by rw [if_pos (by rw [decide_eq_true h31.1, decide_eq_true h59]; rfl)] at hv; rw [hv], hX⟩
      · first | exact hno (fun q => h31 (And.intro (of_decide_eq_true ((Bool.and_eq_true _ _).mp q).1) (by omega))) | exact hno (fun q => h59 (of_decide_eq_true ((Bool.and_eq_true _ _).mp q).2))
theorem sp_TM_choice {c : Cr} {M : Mem} (hM : HM c M) (x : Int32) : E 9 0 0 Y_TM_choice 0 [some (.ref 0), some (.int x), none] [] GM M (QI GM fun r M' => r = ans_choice c x ∧ Sx SQ M M') := by
  have hf := hM.w.fig
  have hp8 := hM.w.p8
  have hl : (nI 1 ≤ x ∧ x ≤ nI 8) ↔ (1 ≤ x.toInt ∧ x.toInt ≤ 8) := isIn_lh (by decide) (by decide)
  revert hl
  revert x
  refine args1 9 (fun n hn hx ht hl => ?_) (fun x hx hl => ?_)
  · rw [nI_toInt (by omega)] at hl
    by_cases h0 : n = 0
    · refine E_iload_n d_TM_choice_0 rfl ?_
      refine E_iconst (v := nI 1) d_TM_choice_1 rfl ?_
      refine E_bipush (v := nI 8) d_TM_choice_2 (by decide) ?_
      refine E_S3 (sp_TM_isIn _ _ _) d_TM_choice_4 ml_TM_69 cb_TM_isIn cs_TM_isIn ⟨by decide, by decide⟩ rfl (Nat.le_of_ble_eq_true rfl) (Nat.le_of_ble_eq_true rfl) (kI fun r1 M1 hc => ?_)
      obtain ⟨rfl, rfl⟩ := hc
      first | (with_reducible refine E_isP ?_; refine E_if_ne 12 d_TM_choice_7 rfl (pb_1 fun h7 => ?_) (pb_0 fun h7 => ?_)) | (with_reducible refine E_isN1 ?_; refine E_if_ne 12 d_TM_choice_7 rfl (nz_ne fun h7 => ?_) (nz_eq (by omega) fun h7 => ?_)) | refine E_if_ne 12 d_TM_choice_7 rfl (fun h7 => ?_) (fun h7 => ?_)
      · exfalso; have := hl.mp h7; omega
      refine E_iconst (v := (-1)) d_TM_choice_10 rfl ?_
      refine E_retI d_TM_choice_11 rfl ?_
      exact ⟨by rw [ans_choice, if_neg (fun q => q.2 (by rw [ht]; exact h0))], Sx.rf⟩
    · have e : ans_choice c (nI n) = nI (findP (fun t => decide (ap c.now.figure t ≤ 1) && decide (gamA c n (n - 1) (cm c t) = gamA c n n c.now.figure)) (c.now.people + 1) 0) := by rw [ans_choice, if_pos ⟨hx, by rw [ht]; exact h0⟩, ht]
      rw [e]
      refine E_iload_n d_TM_choice_0 rfl ?_
      refine E_iconst (v := nI 1) d_TM_choice_1 rfl ?_
      refine E_bipush (v := nI 8) d_TM_choice_2 (by decide) ?_
      refine E_S3 (sp_TM_isIn _ _ _) d_TM_choice_4 ml_TM_69 cb_TM_isIn cs_TM_isIn ⟨by decide, by decide⟩ rfl (Nat.le_of_ble_eq_true rfl) (Nat.le_of_ble_eq_true rfl) (kI fun r1 M1 hc => ?_)
      obtain ⟨rfl, rfl⟩ := hc
      first | (with_reducible refine E_isP ?_; refine E_if_ne 12 d_TM_choice_7 rfl (pb_1 fun h7 => ?_) (pb_0 fun h7 => ?_)) | (with_reducible refine E_isN1 ?_; refine E_if_ne 12 d_TM_choice_7 rfl (nz_ne fun h7 => ?_) (nz_eq (by omega) fun h7 => ?_)) | refine E_if_ne 12 d_TM_choice_7 rfl (fun h7 => ?_) (fun h7 => ?_)
      rotate_left
      · exfalso; exact h7 (hl.mpr ⟨by omega, by omega⟩)
      first | refine E_aload_n d_TM_choice_12 rfl ?_ | refine E_aload_nN d_TM_choice_12 rfl ?_
      refine E_iload_n d_TM_choice_13 rfl ?_
      refine E_V1 (sp_TM_layGames hM (by omega)) d_TM_choice_14 ml_TM_434 cb_TM_layGames cv_TM_layGames (by exact ⟨by decide, rfl⟩) ⟨by decide, rfl⟩ ⟨by decide, by decide⟩ rfl (Nat.le_of_ble_eq_true rfl) (Nat.le_of_ble_eq_true rfl) (kV fun M1 hc => ?_)
      obtain ⟨hG, hM1, hN, hS1⟩ := hc
      refine E_iconst (v := nI 0) d_TM_choice_17 rfl ?_
      refine E_istore_2 d_TM_choice_18 rfl ?_
      exact lp_TM_choice hM1 hN hS1 hG (by omega) (by omega) (c.now.people + 1) 0 (Nat.zero_add _) (choice_ex (by omega) hf) rfl
  · refine E_iload_n d_TM_choice_0 rfl ?_
    refine E_iconst (v := nI 1) d_TM_choice_1 rfl ?_
    refine E_bipush (v := nI 8) d_TM_choice_2 (by decide) ?_
    refine E_S3 (sp_TM_isIn _ _ _) d_TM_choice_4 ml_TM_69 cb_TM_isIn cs_TM_isIn ⟨by decide, by decide⟩ rfl (Nat.le_of_ble_eq_true rfl) (Nat.le_of_ble_eq_true rfl) (kI fun r1 M1 hc => ?_)
    obtain ⟨rfl, rfl⟩ := hc
    first | (with_reducible refine E_isP ?_; refine E_if_ne 12 d_TM_choice_7 rfl (pb_1 fun h7 => ?_) (pb_0 fun h7 => ?_)) | (with_reducible refine E_isN1 ?_; refine E_if_ne 12 d_TM_choice_7 rfl (nz_ne fun h7 => ?_) (nz_eq (by omega) fun h7 => ?_)) | refine E_if_ne 12 d_TM_choice_7 rfl (fun h7 => ?_) (fun h7 => ?_)
    · exfalso; have := hl.mp h7; exact hx ⟨by omega, by omega⟩
    refine E_iconst (v := (-1)) d_TM_choice_10 rfl ?_
    refine E_retI d_TM_choice_11 rfl ?_
    exact ⟨by rw [ans_choice, if_neg (fun q => hx q.1)], Sx.rf⟩
