theorem absI {a b : Nat} (ha : a < 100000) (hb : b < 100000) : (if 0 ≤ nI a - nI b then nI a - nI b else 0 - (nI a - nI b)) = nI (ap a b) := by
  unfold ap
  by_cases h : a < b
  · have hn : ¬ 0 ≤ nI a - nI b := by rw [le_toInt, nI_sub_toInt (by omega) (by omega), z32]; omega
    have s1 : ∀ x y : Int, iI x - iI y = iI (x - y) := fun x y => (Int32.ofInt_sub x y).symm
    have s0 : (0 : Int32) = iI 0 := rfl
    rw [if_neg hn, if_pos h, nI_iI a, nI_iI b, s1, s0, s1, nI_iI]
    congr 1
    omega
  · rw [pk_sub (by omega), if_neg h]
    exact if_pos ((nI_leI (a := 0) (by decide) (by omega)).mpr (Nat.zero_le _))
theorem ap_comm (a b : Nat) : ap a b = ap b a := by unfold ap; split <;> split <;> omega
theorem all_and {y n : Nat} (h : y < 2 ^ n) : (2 ^ n - 1) &&& y = y := by rw [Nat.and_comm, Nat.and_two_pow_sub_one_eq_mod, Nat.mod_eq_of_lt h]
theorem pcn_mono : ∀ n a b, a &&& b = a → pcn n a ≤ pcn n b := by
  intro n
  induction n with
  | zero => intro a b _; exact Nat.le_refl _
  | succ n ih =>
    intro a b h
    have h2 : a / 2 &&& b / 2 = a / 2 := Nat.eq_of_testBit_eq fun k => by rw [Nat.testBit_and, ← Nat.testBit_succ, ← Nat.testBit_succ, ← Nat.testBit_and, h]
    have h1 : a % 2 ≤ b % 2 := by
      have e0 : a.testBit 0 = (a.testBit 0 && b.testBit 0) := by rw [← Nat.testBit_and, h]
      rw [Nat.testBit_zero, Nat.testBit_zero] at e0
      rcases Nat.mod_two_eq_zero_or_one a with q | q <;> rcases Nat.mod_two_eq_zero_or_one b with r | r <;> rw [q, r] at e0 ⊢ <;> first | omega | (simp at e0)
    simp only [pcn]
    have := ih _ _ h2
    omega
theorem pc9_mono {a b : Nat} (h : ∀ k, a.testBit k = true → b.testBit k = true) : pc9 a ≤ pc9 b := pcn_mono 10 a b (Nat.eq_of_testBit_eq fun k => by
  rw [Nat.testBit_and]
  cases q : a.testBit k with
  | false => rfl
  | true => rw [h k q]; rfl)
theorem minA_eq {x y n : Nat} (hx : x < 2 ^ n) (hy : y < 2 ^ n) : minA x y (2 ^ n) = pc9 (x &&& y) := by
  have lo : ∀ k, pc9 (x &&& y) ≤ pc9 ((x &&& k) ||| andn y k) := fun k => pc9_mono fun j hj => by
    rw [Nat.testBit_and] at hj
    rw [Nat.testBit_or, Nat.testBit_and, andn_bit]
    revert hj
    cases x.testBit j <;> cases y.testBit j <;> cases k.testBit j <;> simp
  have ev : ∀ k, pc9 (x &&& y) ≤ minA x y k ∨ minA x y k = 1000000 := by
    intro k
    induction k with
    | zero => exact Or.inr rfl
    | succ k ih =>
      rw [minA]
      split
      · exact Or.inl (lo k)
      · exact ih
  have at1 : ∀ k, y < k → minA x y k ≤ pc9 (x &&& y) := by
    have ey : (x &&& y) ||| andn y y = x &&& y := by
      apply Nat.eq_of_testBit_eq
      intro j
      rw [Nat.testBit_or, andn_bit]
      cases y.testBit j <;> simp
    intro k
    induction k with
    | zero => intro h; omega
    | succ k ih =>
      intro h
      rw [minA]
      by_cases q : y = k
      · subst q
        rw [ey]
        split <;> omega
      · have := ih (by omega)
        split <;> omega
  have h1 := at1 _ hy
  rcases ev (2 ^ n) with q | q
  · omega
  · have hb : pc9 (x &&& y) ≤ 10 := by
      have h10 : ∀ n s, pcn n s ≤ n := by
        intro n
        induction n with
        | zero => intro s; exact Nat.le_refl _
        | succ n ih => intro s; simp only [pcn]; have := ih (s / 2); omega
      exact h10 10 _
    omega
theorem maxA_eq {x y n : Nat} (hx : x < 2 ^ n) (hy : y < 2 ^ n) : maxA x y (2 ^ n) = pc9 (x ||| y) := by
  have hi : ∀ k, pc9 ((x &&& k) ||| andn y k) ≤ pc9 (x ||| y) := fun k => pc9_mono fun j hj => by
    rw [Nat.testBit_or, Nat.testBit_and, andn_bit] at hj
    rw [Nat.testBit_or]
    revert hj
    cases x.testBit j <;> cases y.testBit j <;> cases k.testBit j <;> simp
  have up : ∀ k, maxA x y k ≤ pc9 (x ||| y) := by
    intro k
    induction k with
    | zero => exact Nat.zero_le _
    | succ k ih =>
      rw [maxA]
      split
      · exact hi k
      · exact ih
  have at1 : ∀ k, x < k → pc9 (x ||| y) ≤ maxA x y k := by
    have ey : (x &&& x) ||| andn y x = x ||| y := by
      apply Nat.eq_of_testBit_eq
      intro j
      rw [Nat.testBit_or, Nat.testBit_or, andn_bit, Nat.testBit_and]
      cases x.testBit j <;> cases y.testBit j <;> rfl
    intro k
    induction k with
    | zero => intro h; omega
    | succ k ih =>
      intro h
      rw [maxA]
      by_cases q : x = k
      · subst q
        rw [ey]
        split <;> omega
      · have := ih (by omega)
        split <;> omega
  have h1 := at1 _ hx
  have h2 := up (2 ^ n)
  omega
section OuB
variable {c : Cr} {G : Geo} {M : Mem}
theorem sp_Ou_nearestFigure (h : OM c G M) : E 2 0 0 Y_Ou_nearestFigure 0 [some (.ref 216), none, none] [] G M (QI G fun r M' => r = ans_nearest c ∧ M' = M) := by
  have hp8 := h.2.2.2.p8
  have hG := h.1
  have hO := h.2.2.1
  have L : ∀ k f, f + k = c.now.people → E 2 0 0 Y_Ou_nearestFigure 4 [some (.ref 216), some (.int (nI (nearA (cm c) f))), some (.int (nI (f + 1)))] [] G M (QI G fun r M' => r = ans_nearest c ∧ M' = M) := by
    intro k
    induction k with
    | zero =>
      intro f hf
      have hf2 : f = c.now.people := by omega
      subst hf2
      refine E_iload_n d_Ou_nearestFigure_4 rfl ?_
      first | refine E_aload_n d_Ou_nearestFigure_5 rfl ?_ | refine E_aload_nN d_Ou_nearestFigure_5 rfl ?_
      refine E_getI d_Ou_nearestFigure_6 gf_Ou_31 (by first | exact hG.s (by decide) rfl) (by exact hO.1) ?_
      first | (with_reducible refine E_isN2 ?_; refine E_icmp_gt 43 d_Ou_nearestFigure_9 rfl (nb_lt (by omega) (by omega) fun h9 => ?_) (nb_nlt (by omega) (by omega) fun h9 => ?_)) | refine E_icmp_gt 43 d_Ou_nearestFigure_9 rfl (fun h9 => ?_) (fun h9 => ?_)
      rotate_left
      · exfalso; omega
      refine E_iload_n d_Ou_nearestFigure_43 rfl ?_
      refine E_retI d_Ou_nearestFigure_44 rfl ?_
      exact ⟨rfl, rfl⟩
    | succ k ih =>
      intro f hf
      have hn := nearA_le (cm c) f
      have c1 := cm_le c (f + 1)
      have c2 := cm_le c (nearA (cm c) f)
      have ih2 := ih (f + 1) (by omega)
      have e : nearA (cm c) (f + 1) = if ap (f + 1) (cm c (f + 1)) < ap (nearA (cm c) f) (cm c (nearA (cm c) f)) then f + 1 else nearA (cm c) f := rfl
      have b1 : ap (cm c (f + 1)) (f + 1) < 100000 := by unfold ap; split <;> omega
      have b2 : ap (cm c (nearA (cm c) f)) (nearA (cm c) f) < 100000 := by unfold ap; split <;> omega
      rw [e, ap_comm (f + 1), ap_comm (nearA (cm c) f)] at ih2
      have e1 : ap (cm c (nearA (cm c) f)) (nearA (cm c) f) ≤ ap (cm c (f + 1)) (f + 1) → (if ap (cm c (f + 1)) (f + 1) < ap (cm c (nearA (cm c) f)) (nearA (cm c) f) then f + 1 else nearA (cm c) f) = nearA (cm c) f := fun q => if_neg (by omega)
      have e2 : ap (cm c (f + 1)) (f + 1) < ap (cm c (nearA (cm c) f)) (nearA (cm c) f) → (if ap (cm c (f + 1)) (f + 1) < ap (cm c (nearA (cm c) f)) (nearA (cm c) f) then f + 1 else nearA (cm c) f) = f + 1 := fun q => if_pos q
      refine E_iload_n d_Ou_nearestFigure_4 rfl ?_
      first | refine E_aload_n d_Ou_nearestFigure_5 rfl ?_ | refine E_aload_nN d_Ou_nearestFigure_5 rfl ?_
      refine E_getI d_Ou_nearestFigure_6 gf_Ou_31 (by first | exact hG.s (by decide) rfl) (by exact hO.1) ?_
      first | (with_reducible refine E_isN2 ?_; refine E_icmp_gt 43 d_Ou_nearestFigure_9 rfl (nb_lt (by omega) (by omega) fun h9 => ?_) (nb_nlt (by omega) (by omega) fun h9 => ?_)) | refine E_icmp_gt 43 d_Ou_nearestFigure_9 rfl (fun h9 => ?_) (fun h9 => ?_)
      · exfalso; omega
      first | refine E_aload_n d_Ou_nearestFigure_12 rfl ?_ | refine E_aload_nN d_Ou_nearestFigure_12 rfl ?_
      refine E_iload_n d_Ou_nearestFigure_13 rfl ?_
      refine E_V1 (sp_Ou_comesOf h (by omega)) d_Ou_nearestFigure_14 ml_Ou_35 cb_Ou_comesOf cv_Ou_comesOf (by first | exact hG.s (by decide) rfl) ⟨by decide, rfl⟩ ⟨by decide, by decide⟩ rfl (Nat.le_of_ble_eq_true rfl) (Nat.le_of_ble_eq_true rfl) (kI fun r1 M1 hc => ?_)
      obtain ⟨rfl, rfl⟩ := hc
      refine E_iload_n d_Ou_nearestFigure_17 rfl ?_
      first | (with_reducible refine E_isN2 ?_; refine E_isubN d_Ou_nearestFigure_18 (by omega) ?_) | refine E_isub d_Ou_nearestFigure_18 ?_
      refine E_absI d_Ou_nearestFigure_19 ml_Ou_53 (by decide) (Nat.le_of_ble_eq_true rfl) ?_
      rw [absI (by omega) (by omega)]
      first | refine E_aload_n d_Ou_nearestFigure_22 rfl ?_ | refine E_aload_nN d_Ou_nearestFigure_22 rfl ?_
      refine E_iload_n d_Ou_nearestFigure_23 rfl ?_
      refine E_V1 (sp_Ou_comesOf h (by omega)) d_Ou_nearestFigure_24 ml_Ou_35 cb_Ou_comesOf cv_Ou_comesOf (by first | exact hG.s (by decide) rfl) ⟨by decide, rfl⟩ ⟨by decide, by decide⟩ rfl (Nat.le_of_ble_eq_true rfl) (Nat.le_of_ble_eq_true rfl) (kI fun r1 M1 hc => ?_)
      obtain ⟨rfl, rfl⟩ := hc
      refine E_iload_n d_Ou_nearestFigure_27 rfl ?_
      first | (with_reducible refine E_isN2 ?_; refine E_isubN d_Ou_nearestFigure_28 (by omega) ?_) | refine E_isub d_Ou_nearestFigure_28 ?_
      refine E_absI d_Ou_nearestFigure_29 ml_Ou_53 (by decide) (Nat.le_of_ble_eq_true rfl) ?_
      rw [absI (by omega) (by omega)]
      first | (with_reducible refine E_isN2 ?_; refine E_icmp_ge 37 d_Ou_nearestFigure_32 rfl (nb_le (by omega) (by omega) fun h32 => ?_) (nb_nle (by omega) (by omega) fun h32 => ?_)) | refine E_icmp_ge 37 d_Ou_nearestFigure_32 rfl (fun h32 => ?_) (fun h32 => ?_)
      · first | (with_reducible refine E_isL2 ?_; refine E_iincN2 (m := 1) d_Ou_nearestFigure_37 rfl rfl ?_) | refine E_iinc_2 d_Ou_nearestFigure_37 rfl rfl ?_
        refine E_goto 4 d_Ou_nearestFigure_40 rfl ?_
        first | (rw [e1 h32] at ih2; exact ih2) | (rw [e2 h32] at ih2; exact ih2)
      · refine E_iload_n d_Ou_nearestFigure_35 rfl ?_
        refine E_istore_1 d_Ou_nearestFigure_36 rfl ?_
        first | (with_reducible refine E_isL2 ?_; refine E_iincN2 (m := 1) d_Ou_nearestFigure_37 rfl rfl ?_) | refine E_iinc_2 d_Ou_nearestFigure_37 rfl rfl ?_
        refine E_goto 4 d_Ou_nearestFigure_40 rfl ?_
        first | (rw [e1 h32] at ih2; exact ih2) | (rw [e2 h32] at ih2; exact ih2)
  refine E_iconst (v := nI 0) d_Ou_nearestFigure_0 rfl ?_
  refine E_istore_1 d_Ou_nearestFigure_1 rfl ?_
  refine E_iconst (v := nI 1) d_Ou_nearestFigure_2 rfl ?_
  refine E_istore_2 d_Ou_nearestFigure_3 rfl ?_
  exact L c.now.people 0 (Nat.zero_add _)
theorem sp_Ou_yesByAll (h : OM c G M) : E 2 0 0 Y_Ou_yesByAll 0 [some (.ref 216), none, none] [] G M (QI G fun r M' => r = nI (allA c (c.now.people + 1)) ∧ M' = M) := by
  have hp8 := h.2.2.2.p8
  have hG := h.1
  have hO := h.2.2.1
  have L : ∀ k f, f + k = c.now.people → E 2 0 0 Y_Ou_yesByAll 8 [some (.ref 216), some (.int (nI (allA c (f + 1)))), some (.int (nI (f + 1)))] [] G M (QI G fun r M' => r = nI (allA c (c.now.people + 1)) ∧ M' = M) := by
    intro k
    induction k with
    | zero =>
      intro f hf
      have hf2 : f = c.now.people := by omega
      subst hf2
      refine E_iload_n d_Ou_yesByAll_8 rfl ?_
      first | refine E_aload_n d_Ou_yesByAll_9 rfl ?_ | refine E_aload_nN d_Ou_yesByAll_9 rfl ?_
      refine E_getI d_Ou_yesByAll_10 gf_Ou_31 (by first | exact hG.s (by decide) rfl) (by exact hO.1) ?_
      first | (with_reducible refine E_isN2 ?_; refine E_icmp_gt 30 d_Ou_yesByAll_13 rfl (nb_lt (by omega) (by omega) fun h13 => ?_) (nb_nlt (by omega) (by omega) fun h13 => ?_)) | refine E_icmp_gt 30 d_Ou_yesByAll_13 rfl (fun h13 => ?_) (fun h13 => ?_)
      rotate_left
      · exfalso; omega
      refine E_iload_n d_Ou_yesByAll_30 rfl ?_
      refine E_retI d_Ou_yesByAll_31 rfl ?_
      exact ⟨rfl, rfl⟩
    | succ k ih =>
      intro f hf
      refine E_iload_n d_Ou_yesByAll_8 rfl ?_
      first | refine E_aload_n d_Ou_yesByAll_9 rfl ?_ | refine E_aload_nN d_Ou_yesByAll_9 rfl ?_
      refine E_getI d_Ou_yesByAll_10 gf_Ou_31 (by first | exact hG.s (by decide) rfl) (by exact hO.1) ?_
      first | (with_reducible refine E_isN2 ?_; refine E_icmp_gt 30 d_Ou_yesByAll_13 rfl (nb_lt (by omega) (by omega) fun h13 => ?_) (nb_nlt (by omega) (by omega) fun h13 => ?_)) | refine E_icmp_gt 30 d_Ou_yesByAll_13 rfl (fun h13 => ?_) (fun h13 => ?_)
      · exfalso; omega
      refine E_iload_n d_Ou_yesByAll_16 rfl ?_
      first | refine E_aload_n d_Ou_yesByAll_17 rfl ?_ | refine E_aload_nN d_Ou_yesByAll_17 rfl ?_
      refine E_iload_n d_Ou_yesByAll_18 rfl ?_
      refine E_V1 (sp_Ou_yesTold h (by omega)) d_Ou_yesByAll_19 ml_Ou_62 cb_Ou_yesTold cv_Ou_yesTold (by first | exact hG.s (by decide) rfl) ⟨by decide, rfl⟩ ⟨by decide, by decide⟩ rfl (Nat.le_of_ble_eq_true rfl) (Nat.le_of_ble_eq_true rfl) (kI fun r1 M1 hc => ?_)
      obtain ⟨rfl, rfl⟩ := hc
      first | (with_reducible refine E_isN2 ?_; refine E_iandN d_Ou_yesByAll_22 ?_) | refine E_iand d_Ou_yesByAll_22 ?_
      refine E_istore_1 d_Ou_yesByAll_23 rfl ?_
      first | (with_reducible refine E_isL2 ?_; refine E_iincN2 (m := 1) d_Ou_yesByAll_24 rfl rfl ?_) | refine E_iinc_2 d_Ou_yesByAll_24 rfl rfl ?_
      refine E_goto 8 d_Ou_yesByAll_27 rfl ?_
      exact ih (f + 1) (by omega)
  have e1 : yesN c 0 = allA c (0 + 1) := (all_and (yesN_lt c 0)).symm
  first | refine E_aload_n d_Ou_yesByAll_0 rfl ?_ | refine E_aload_nN d_Ou_yesByAll_0 rfl ?_
  refine E_iconst (v := nI 0) d_Ou_yesByAll_1 rfl ?_
  refine E_V1 (sp_Ou_yesTold h (by omega)) d_Ou_yesByAll_2 ml_Ou_62 cb_Ou_yesTold cv_Ou_yesTold (by first | exact hG.s (by decide) rfl) ⟨by decide, rfl⟩ ⟨by decide, by decide⟩ rfl (Nat.le_of_ble_eq_true rfl) (Nat.le_of_ble_eq_true rfl) (kI fun r1 M1 hc => ?_)
  obtain ⟨rfl, rfl⟩ := hc
  refine E_istore_1 d_Ou_yesByAll_5 rfl ?_
  refine E_iconst (v := nI 1) d_Ou_yesByAll_6 rfl ?_
  refine E_istore_2 d_Ou_yesByAll_7 rfl ?_
  rw [e1]; exact L c.now.people 0 (Nat.zero_add _)
theorem sp_Ou_yesByAny (h : OM c G M) : E 2 0 0 Y_Ou_yesByAny 0 [some (.ref 216), none, none] [] G M (QI G fun r M' => r = nI (anyA c (c.now.people + 1)) ∧ M' = M) := by
  have hp8 := h.2.2.2.p8
  have hG := h.1
  have hO := h.2.2.1
  have L : ∀ k f, f + k = c.now.people + 1 → E 2 0 0 Y_Ou_yesByAny 4 [some (.ref 216), some (.int (nI (anyA c f))), some (.int (nI f))] [] G M (QI G fun r M' => r = nI (anyA c (c.now.people + 1)) ∧ M' = M) := by
    intro k
    induction k with
    | zero =>
      intro f hf
      have hf2 : f = c.now.people + 1 := by omega
      subst hf2
      refine E_iload_n d_Ou_yesByAny_4 rfl ?_
      first | refine E_aload_n d_Ou_yesByAny_5 rfl ?_ | refine E_aload_nN d_Ou_yesByAny_5 rfl ?_
      refine E_getI d_Ou_yesByAny_6 gf_Ou_31 (by first | exact hG.s (by decide) rfl) (by exact hO.1) ?_
      first | (with_reducible refine E_isN2 ?_; refine E_icmp_gt 26 d_Ou_yesByAny_9 rfl (nb_lt (by omega) (by omega) fun h9 => ?_) (nb_nlt (by omega) (by omega) fun h9 => ?_)) | refine E_icmp_gt 26 d_Ou_yesByAny_9 rfl (fun h9 => ?_) (fun h9 => ?_)
      rotate_left
      · exfalso; omega
      refine E_iload_n d_Ou_yesByAny_26 rfl ?_
      refine E_retI d_Ou_yesByAny_27 rfl ?_
      exact ⟨rfl, rfl⟩
    | succ k ih =>
      intro f hf
      refine E_iload_n d_Ou_yesByAny_4 rfl ?_
      first | refine E_aload_n d_Ou_yesByAny_5 rfl ?_ | refine E_aload_nN d_Ou_yesByAny_5 rfl ?_
      refine E_getI d_Ou_yesByAny_6 gf_Ou_31 (by first | exact hG.s (by decide) rfl) (by exact hO.1) ?_
      first | (with_reducible refine E_isN2 ?_; refine E_icmp_gt 26 d_Ou_yesByAny_9 rfl (nb_lt (by omega) (by omega) fun h9 => ?_) (nb_nlt (by omega) (by omega) fun h9 => ?_)) | refine E_icmp_gt 26 d_Ou_yesByAny_9 rfl (fun h9 => ?_) (fun h9 => ?_)
      · exfalso; omega
      refine E_iload_n d_Ou_yesByAny_12 rfl ?_
      first | refine E_aload_n d_Ou_yesByAny_13 rfl ?_ | refine E_aload_nN d_Ou_yesByAny_13 rfl ?_
      refine E_iload_n d_Ou_yesByAny_14 rfl ?_
      refine E_V1 (sp_Ou_yesTold h (by omega)) d_Ou_yesByAny_15 ml_Ou_62 cb_Ou_yesTold cv_Ou_yesTold (by first | exact hG.s (by decide) rfl) ⟨by decide, rfl⟩ ⟨by decide, by decide⟩ rfl (Nat.le_of_ble_eq_true rfl) (Nat.le_of_ble_eq_true rfl) (kI fun r1 M1 hc => ?_)
      obtain ⟨rfl, rfl⟩ := hc
      first | (with_reducible refine E_isN2 ?_; refine E_iorN d_Ou_yesByAny_18 ?_) | refine E_ior d_Ou_yesByAny_18 ?_
      refine E_istore_1 d_Ou_yesByAny_19 rfl ?_
      first | (with_reducible refine E_isL2 ?_; refine E_iincN2 (m := 1) d_Ou_yesByAny_20 rfl rfl ?_) | refine E_iinc_2 d_Ou_yesByAny_20 rfl rfl ?_
      refine E_goto 4 d_Ou_yesByAny_23 rfl ?_
      exact ih (f + 1) (by omega)
  refine E_iconst (v := nI 0) d_Ou_yesByAny_0 rfl ?_
  refine E_istore_1 d_Ou_yesByAny_1 rfl ?_
  refine E_iconst (v := nI 0) d_Ou_yesByAny_2 rfl ?_
  refine E_istore_2 d_Ou_yesByAny_3 rfl ?_
  exact L (c.now.people + 1) 0 (Nat.zero_add _)
theorem yes_bit {p f : Nat} (hp : p < c.now.people) : (yesN c f).testBit p = isYes c c.now (ruler c) p f := by
  unfold yesN yesTo
  rw [bset_bit]
  simp [hp]
theorem alk {p q f : Nat} (hp : p < c.now.people) (hq : q < c.now.people) : (yesN c f / 2 ^ p &&& 1 = yesN c f / 2 ^ q &&& 1) ↔ (isYes c c.now (ruler c) p f == isYes c c.now (ruler c) q f) = true := by
  rw [tb_and, tb_and, yes_bit hp, yes_bit hq]
  cases isYes c c.now (ruler c) p f <;> cases isYes c c.now (ruler c) q f <;> simp
theorem sp_Ou_alikeFigures (h : OM c G M) {a b : Nat} (ha : a < c.now.people) (hb : b < c.now.people) : E 2 0 0 Y_Ou_alikeFigures 0 [some (.ref 216), some (.int (nI a)), some (.int (nI b)), none, none] [] G M (QI G fun r M' => r = nI (alikeN c a b) ∧ M' = M) := by
  have hp8 := h.2.2.2.p8
  have hG := h.1
  have hO := h.2.2.1
  have L : ∀ k f, f + k = c.now.people + 1 → E 2 0 0 Y_Ou_alikeFigures 5 [some (.ref 216), some (.int (nI a)), some (.int (nI b)), some (.int (nI (cnt (fun f => isYes c c.now (ruler c) a f == isYes c c.now (ruler c) b f) f))), some (.int (nI f))] [] G M (QI G fun r M' => r = nI (alikeN c a b) ∧ M' = M) := by
    intro k
    induction k with
    | zero =>
      intro f hf
      have hf2 : f = c.now.people + 1 := by omega
      subst hf2
      refine E_iload d_Ou_alikeFigures_5 rfl ?_
      first | refine E_aload_n d_Ou_alikeFigures_7 rfl ?_ | refine E_aload_nN d_Ou_alikeFigures_7 rfl ?_
      refine E_getI d_Ou_alikeFigures_8 gf_Ou_31 (by first | exact hG.s (by decide) rfl) (by exact hO.1) ?_
      first | (with_reducible refine E_isN2 ?_; refine E_icmp_gt 46 d_Ou_alikeFigures_11 rfl (nb_lt (by omega) (by omega) fun h11 => ?_) (nb_nlt (by omega) (by omega) fun h11 => ?_)) | refine E_icmp_gt 46 d_Ou_alikeFigures_11 rfl (fun h11 => ?_) (fun h11 => ?_)
      rotate_left
      · exfalso; omega
      refine E_iload_n d_Ou_alikeFigures_46 rfl ?_
      refine E_retI d_Ou_alikeFigures_47 rfl ?_
      exact ⟨rfl, rfl⟩
    | succ k ih =>
      intro f hf
      have hy := yesN_256 h.2.2.2 f
      have a1 : yesN c f / 2 ^ a &&& 1 ≤ 1 := Nat.and_le_right
      have a2 : yesN c f / 2 ^ b &&& 1 ≤ 1 := Nat.and_le_right
      have ih2 := ih (f + 1) (by omega)
      have e : cnt (fun f => isYes c c.now (ruler c) a f == isYes c c.now (ruler c) b f) (f + 1) = cnt (fun f => isYes c c.now (ruler c) a f == isYes c c.now (ruler c) b f) f + (if (isYes c c.now (ruler c) a f == isYes c c.now (ruler c) b f) = true then 1 else 0) := rfl
      rw [e] at ih2
      have ek := alk (f := f) ha hb
      have i1 : (yesN c f / 2 ^ a &&& 1 = yesN c f / 2 ^ b &&& 1) → (if (isYes c c.now (ruler c) a f == isYes c c.now (ruler c) b f) = true then 1 else 0) = 1 := fun q => if_pos (ek.mp q)
      have i0 : (yesN c f / 2 ^ a &&& 1 ≠ yesN c f / 2 ^ b &&& 1) → (if (isYes c c.now (ruler c) a f == isYes c c.now (ruler c) b f) = true then 1 else 0) = 0 := fun q => if_neg (fun r => q (ek.mpr r))
      refine E_iload d_Ou_alikeFigures_5 rfl ?_
      first | refine E_aload_n d_Ou_alikeFigures_7 rfl ?_ | refine E_aload_nN d_Ou_alikeFigures_7 rfl ?_
      refine E_getI d_Ou_alikeFigures_8 gf_Ou_31 (by first | exact hG.s (by decide) rfl) (by exact hO.1) ?_
      first | (with_reducible refine E_isN2 ?_; refine E_icmp_gt 46 d_Ou_alikeFigures_11 rfl (nb_lt (by omega) (by omega) fun h11 => ?_) (nb_nlt (by omega) (by omega) fun h11 => ?_)) | refine E_icmp_gt 46 d_Ou_alikeFigures_11 rfl (fun h11 => ?_) (fun h11 => ?_)
      · exfalso; omega
      first | refine E_aload_n d_Ou_alikeFigures_14 rfl ?_ | refine E_aload_nN d_Ou_alikeFigures_14 rfl ?_
      refine E_iload d_Ou_alikeFigures_15 rfl ?_
      refine E_V1 (sp_Ou_yesTold h (by omega)) d_Ou_alikeFigures_17 ml_Ou_62 cb_Ou_yesTold cv_Ou_yesTold (by first | exact hG.s (by decide) rfl) ⟨by decide, rfl⟩ ⟨by decide, by decide⟩ rfl (Nat.le_of_ble_eq_true rfl) (Nat.le_of_ble_eq_true rfl) (kI fun r1 M1 hc => ?_)
      obtain ⟨rfl, rfl⟩ := hc
      refine E_iload_n d_Ou_alikeFigures_20 rfl ?_
      first | (with_reducible refine E_isN2 ?_; refine E_ishrN d_Ou_alikeFigures_21 (by omega) (by omega) ?_) | refine E_ishr d_Ou_alikeFigures_21 ?_
      refine E_iconst (v := nI 1) d_Ou_alikeFigures_22 rfl ?_
      first | (with_reducible refine E_isN2 ?_; refine E_iandN d_Ou_alikeFigures_23 ?_) | refine E_iand d_Ou_alikeFigures_23 ?_
      first | refine E_aload_n d_Ou_alikeFigures_24 rfl ?_ | refine E_aload_nN d_Ou_alikeFigures_24 rfl ?_
      refine E_iload d_Ou_alikeFigures_25 rfl ?_
      refine E_V1 (sp_Ou_yesTold h (by omega)) d_Ou_alikeFigures_27 ml_Ou_62 cb_Ou_yesTold cv_Ou_yesTold (by first | exact hG.s (by decide) rfl) ⟨by decide, rfl⟩ ⟨by decide, by decide⟩ rfl (Nat.le_of_ble_eq_true rfl) (Nat.le_of_ble_eq_true rfl) (kI fun r1 M1 hc => ?_)
      obtain ⟨rfl, rfl⟩ := hc
      refine E_iload_n d_Ou_alikeFigures_30 rfl ?_
      first | (with_reducible refine E_isN2 ?_; refine E_ishrN d_Ou_alikeFigures_31 (by omega) (by omega) ?_) | refine E_ishr d_Ou_alikeFigures_31 ?_
      refine E_iconst (v := nI 1) d_Ou_alikeFigures_32 rfl ?_
      first | (with_reducible refine E_isN2 ?_; refine E_iandN d_Ou_alikeFigures_33 ?_) | refine E_iand d_Ou_alikeFigures_33 ?_
      first | (with_reducible refine E_isN2 ?_; refine E_icmp_ne 40 d_Ou_alikeFigures_34 rfl (nb_ne fun h34 => ?_) (nb_eq (by omega) (by omega) fun h34 => ?_)) | refine E_icmp_ne 40 d_Ou_alikeFigures_34 rfl (fun h34 => ?_) (fun h34 => ?_)
      · first | (with_reducible refine E_isL4 ?_; refine E_iincN4 (m := 1) d_Ou_alikeFigures_40 rfl rfl ?_) | refine E_iinc_4 d_Ou_alikeFigures_40 rfl rfl ?_
        refine E_goto 5 d_Ou_alikeFigures_43 rfl ?_
        first | (rw [i0 h34] at ih2; exact ih2) | (rw [i1 h34] at ih2; exact ih2)
      · first | (with_reducible refine E_isL3 ?_; refine E_iincN3 (m := 1) d_Ou_alikeFigures_37 rfl rfl ?_) | refine E_iinc_3 d_Ou_alikeFigures_37 rfl rfl ?_
        first | (with_reducible refine E_isL4 ?_; refine E_iincN4 (m := 1) d_Ou_alikeFigures_40 rfl rfl ?_) | refine E_iinc_4 d_Ou_alikeFigures_40 rfl rfl ?_
        refine E_goto 5 d_Ou_alikeFigures_43 rfl ?_
        first | (rw [i0 h34] at ih2; exact ih2) | (rw [i1 h34] at ih2; exact ih2)
  refine E_iconst (v := nI 0) d_Ou_alikeFigures_0 rfl ?_
  refine E_istore_3 d_Ou_alikeFigures_1 rfl ?_
  refine E_iconst (v := nI 0) d_Ou_alikeFigures_2 rfl ?_
  refine E_istore_4 d_Ou_alikeFigures_3 rfl ?_
  exact L (c.now.people + 1) 0 (Nat.zero_add _)
theorem sp_Ou_yesOfTwo (h : OM c G M) {a b : Nat} {z : Int32} (ha : a ≤ c.now.people) (hb : b ≤ c.now.people) : E 2 0 0 Y_Ou_yesOfTwo 0 [some (.ref 216), some (.int (nI a)), some (.int (nI b)), some (.int z), none, none] [] G M (QI G fun r M' => r = (if z = 0 then nI (minA (yesN c a) (yesN c b) (2 ^ c.now.people)) else nI (maxA (yesN c a) (yesN c b) (2 ^ c.now.people))) ∧ M' = M) := by
  have hp8 := h.2.2.2.p8
  have hG := h.1
  have y1 := yesN_256 h.2.2.2 a
  have y2 := yesN_256 h.2.2.2 b
  have o1 : yesN c a ||| yesN c b < 2 ^ 8 := or_lt (n := 8) y1 y2
  have o2 : yesN c a &&& yesN c b < 512 := Nat.lt_of_le_of_lt Nat.and_le_left (by omega)
  rw [minA_eq (yesN_lt c a) (yesN_lt c b), maxA_eq (yesN_lt c a) (yesN_lt c b)]
  first | refine E_aload_n d_Ou_yesOfTwo_0 rfl ?_ | refine E_aload_nN d_Ou_yesOfTwo_0 rfl ?_
  refine E_iload_n d_Ou_yesOfTwo_1 rfl ?_
  refine E_V1 (sp_Ou_yesTold h ha) d_Ou_yesOfTwo_2 ml_Ou_62 cb_Ou_yesTold cv_Ou_yesTold (by first | exact hG.s (by decide) rfl) ⟨by decide, rfl⟩ ⟨by decide, by decide⟩ rfl (Nat.le_of_ble_eq_true rfl) (Nat.le_of_ble_eq_true rfl) (kI fun r1 M1 hc => ?_)
  obtain ⟨rfl, rfl⟩ := hc
  first | refine E_aload_n d_Ou_yesOfTwo_5 rfl ?_ | refine E_aload_nN d_Ou_yesOfTwo_5 rfl ?_
  refine E_iload_n d_Ou_yesOfTwo_6 rfl ?_
  refine E_V1 (sp_Ou_yesTold h hb) d_Ou_yesOfTwo_7 ml_Ou_62 cb_Ou_yesTold cv_Ou_yesTold (by first | exact hG.s (by decide) rfl) ⟨by decide, rfl⟩ ⟨by decide, by decide⟩ rfl (Nat.le_of_ble_eq_true rfl) (Nat.le_of_ble_eq_true rfl) (kI fun r1 M1 hc => ?_)
  obtain ⟨rfl, rfl⟩ := hc
  first | (with_reducible refine E_isN2 ?_; refine E_iorN d_Ou_yesOfTwo_10 ?_) | refine E_ior d_Ou_yesOfTwo_10 ?_
  refine E_istore_4 d_Ou_yesOfTwo_11 rfl ?_
  first | refine E_aload_n d_Ou_yesOfTwo_13 rfl ?_ | refine E_aload_nN d_Ou_yesOfTwo_13 rfl ?_
  refine E_iload_n d_Ou_yesOfTwo_14 rfl ?_
  refine E_V1 (sp_Ou_yesTold h ha) d_Ou_yesOfTwo_15 ml_Ou_62 cb_Ou_yesTold cv_Ou_yesTold (by first | exact hG.s (by decide) rfl) ⟨by decide, rfl⟩ ⟨by decide, by decide⟩ rfl (Nat.le_of_ble_eq_true rfl) (Nat.le_of_ble_eq_true rfl) (kI fun r1 M1 hc => ?_)
  obtain ⟨rfl, rfl⟩ := hc
  first | refine E_aload_n d_Ou_yesOfTwo_18 rfl ?_ | refine E_aload_nN d_Ou_yesOfTwo_18 rfl ?_
  refine E_iload_n d_Ou_yesOfTwo_19 rfl ?_
  refine E_V1 (sp_Ou_yesTold h hb) d_Ou_yesOfTwo_20 ml_Ou_62 cb_Ou_yesTold cv_Ou_yesTold (by first | exact hG.s (by decide) rfl) ⟨by decide, rfl⟩ ⟨by decide, by decide⟩ rfl (Nat.le_of_ble_eq_true rfl) (Nat.le_of_ble_eq_true rfl) (kI fun r1 M1 hc => ?_)
  obtain ⟨rfl, rfl⟩ := hc
  first | (with_reducible refine E_isN2 ?_; refine E_iandN d_Ou_yesOfTwo_23 ?_) | refine E_iand d_Ou_yesOfTwo_23 ?_
  refine E_istore_5 d_Ou_yesOfTwo_24 rfl ?_
  refine E_iload_n d_Ou_yesOfTwo_26 rfl ?_
  first | (with_reducible refine E_isP ?_; refine E_if_eq 35 d_Ou_yesOfTwo_27 rfl (pb_0 fun h27 => ?_) (pb_1 fun h27 => ?_)) | (with_reducible refine E_isN1 ?_; refine E_if_eq 35 d_Ou_yesOfTwo_27 rfl (nz_eq (by omega) fun h27 => ?_) (nz_ne fun h27 => ?_)) | refine E_if_eq 35 d_Ou_yesOfTwo_27 rfl (fun h27 => ?_) (fun h27 => ?_)
  · refine E_iload d_Ou_yesOfTwo_35 rfl ?_
    refine E_S1 (sp_JI_bitCount (by omega)) d_Ou_yesOfTwo_37 ml_Ou_25 cb_JI_bitCount cs_JI_bitCount ⟨by decide, by decide⟩ rfl (Nat.le_of_ble_eq_true rfl) (Nat.le_of_ble_eq_true rfl) (kI fun r1 M1 hc => ?_)
    obtain ⟨rfl, rfl⟩ := hc
    refine E_retI d_Ou_yesOfTwo_40 rfl ?_
    first | exact ⟨by rw [if_pos h27], rfl⟩ | exact ⟨by rw [if_neg h27], rfl⟩
  · refine E_iload d_Ou_yesOfTwo_30 rfl ?_
    refine E_goto 37 d_Ou_yesOfTwo_32 rfl ?_
    refine E_S1 (sp_JI_bitCount (by omega)) d_Ou_yesOfTwo_37 ml_Ou_25 cb_JI_bitCount cs_JI_bitCount ⟨by decide, by decide⟩ rfl (Nat.le_of_ble_eq_true rfl) (Nat.le_of_ble_eq_true rfl) (kI fun r1 M1 hc => ?_)
    obtain ⟨rfl, rfl⟩ := hc
    refine E_retI d_Ou_yesOfTwo_40 rfl ?_
    first | exact ⟨by rw [if_pos h27], rfl⟩ | exact ⟨by rw [if_neg h27], rfl⟩
theorem sp_Ou_isTrueSplit (h : OM c G M) {a b s : Nat} (ha : a ≤ c.now.people) (hb : b ≤ c.now.people) (hs : s < 256) : E 2 0 0 Y_Ou_isTrueSplit 0 [some (.ref 216), some (.int (nI s)), some (.int (nI a)), some (.int (nI b))] [] G M (QI G fun r M' => r = pI (truB a b (yesN c a) (yesN c b) s = true) ∧ M' = M) := by
  have hp8 := h.2.2.2.p8
  have hG := h.1
  have y1 := yesN_256 h.2.2.2 a
  have y2 := yesN_256 h.2.2.2 b
  have o1 : yesN c a &&& s < 512 := Nat.lt_of_le_of_lt Nat.and_le_left (by omega)
  have o2 : andn (yesN c b) s < 2 ^ 8 := andn_lt (n := 8) s y2
  have p1 := pc9_le9 o1
  have p2 := pc9_le9 (show andn (yesN c b) s < 512 by omega)
  have ef : truB a b (yesN c a) (yesN c b) s = true ↔ pc9 (yesN c a &&& s) = a ∧ pc9 (andn (yesN c b) s) = b := by unfold truB; rw [Bool.and_eq_true, decide_eq_true_eq, decide_eq_true_eq]
  rw [pI_congr ef]
  first | refine E_aload_n d_Ou_isTrueSplit_0 rfl ?_ | refine E_aload_nN d_Ou_isTrueSplit_0 rfl ?_
  refine E_iload_n d_Ou_isTrueSplit_1 rfl ?_
  refine E_V1 (sp_Ou_yesTold h ha) d_Ou_isTrueSplit_2 ml_Ou_62 cb_Ou_yesTold cv_Ou_yesTold (by first | exact hG.s (by decide) rfl) ⟨by decide, rfl⟩ ⟨by decide, by decide⟩ rfl (Nat.le_of_ble_eq_true rfl) (Nat.le_of_ble_eq_true rfl) (kI fun r1 M1 hc => ?_)
  obtain ⟨rfl, rfl⟩ := hc
  refine E_iload_n d_Ou_isTrueSplit_5 rfl ?_
  first | (with_reducible refine E_isN2 ?_; refine E_iandN d_Ou_isTrueSplit_6 ?_) | refine E_iand d_Ou_isTrueSplit_6 ?_
  refine E_S1 (sp_JI_bitCount o1) d_Ou_isTrueSplit_7 ml_Ou_25 cb_JI_bitCount cs_JI_bitCount ⟨by decide, by decide⟩ rfl (Nat.le_of_ble_eq_true rfl) (Nat.le_of_ble_eq_true rfl) (kI fun r1 M1 hc => ?_)
  obtain ⟨rfl, rfl⟩ := hc
  refine E_iload_n d_Ou_isTrueSplit_10 rfl ?_
  first | (with_reducible refine E_isN2 ?_; refine E_icmp_ne 34 d_Ou_isTrueSplit_11 rfl (nb_ne fun h11 => ?_) (nb_eq (by omega) (by omega) fun h11 => ?_)) | refine E_icmp_ne 34 d_Ou_isTrueSplit_11 rfl (fun h11 => ?_) (fun h11 => ?_)
  · refine E_iconst (v := nI 0) d_Ou_isTrueSplit_34 rfl ?_
    refine E_retZ d_Ou_isTrueSplit_35 rfl (by decide) ?_
    first | exact ⟨(pI_f (fun q => h11 q.1)).symm, rfl⟩ | exact ⟨(pI_f (fun q => h27 q.2)).symm, rfl⟩ | exact ⟨(pI_t ⟨h11, h27⟩).symm, rfl⟩
  · first | refine E_aload_n d_Ou_isTrueSplit_14 rfl ?_ | refine E_aload_nN d_Ou_isTrueSplit_14 rfl ?_
    refine E_iload_n d_Ou_isTrueSplit_15 rfl ?_
    refine E_V1 (sp_Ou_yesTold h hb) d_Ou_isTrueSplit_16 ml_Ou_62 cb_Ou_yesTold cv_Ou_yesTold (by first | exact hG.s (by decide) rfl) ⟨by decide, rfl⟩ ⟨by decide, by decide⟩ rfl (Nat.le_of_ble_eq_true rfl) (Nat.le_of_ble_eq_true rfl) (kI fun r1 M1 hc => ?_)
    obtain ⟨rfl, rfl⟩ := hc
    refine E_iload_n d_Ou_isTrueSplit_19 rfl ?_
    refine E_iconst (v := (-1)) d_Ou_isTrueSplit_20 rfl ?_
    first | (with_reducible refine E_isN2 ?_; refine E_ixorN d_Ou_isTrueSplit_21 ?_) | refine E_ixor d_Ou_isTrueSplit_21 ?_
    first | (with_reducible refine E_isN2 ?_; refine E_iandN d_Ou_isTrueSplit_22 ?_) | refine E_iand d_Ou_isTrueSplit_22 ?_
    rw [nI_andn]
    refine E_S1 (sp_JI_bitCount (by omega)) d_Ou_isTrueSplit_23 ml_Ou_25 cb_JI_bitCount cs_JI_bitCount ⟨by decide, by decide⟩ rfl (Nat.le_of_ble_eq_true rfl) (Nat.le_of_ble_eq_true rfl) (kI fun r1 M1 hc => ?_)
    obtain ⟨rfl, rfl⟩ := hc
    refine E_iload_n d_Ou_isTrueSplit_26 rfl ?_
    first | (with_reducible refine E_isN2 ?_; refine E_icmp_ne 34 d_Ou_isTrueSplit_27 rfl (nb_ne fun h27 => ?_) (nb_eq (by omega) (by omega) fun h27 => ?_)) | refine E_icmp_ne 34 d_Ou_isTrueSplit_27 rfl (fun h27 => ?_) (fun h27 => ?_)
    · refine E_iconst (v := nI 0) d_Ou_isTrueSplit_34 rfl ?_
      refine E_retZ d_Ou_isTrueSplit_35 rfl (by decide) ?_
      first | exact ⟨(pI_f (fun q => h11 q.1)).symm, rfl⟩ | exact ⟨(pI_f (fun q => h27 q.2)).symm, rfl⟩ | exact ⟨(pI_t ⟨h11, h27⟩).symm, rfl⟩
    · refine E_iconst (v := nI 1) d_Ou_isTrueSplit_30 rfl ?_
      refine E_goto 35 d_Ou_isTrueSplit_31 rfl ?_
      refine E_retZ d_Ou_isTrueSplit_35 rfl (by decide) ?_
      first | exact ⟨(pI_f (fun q => h11 q.1)).symm, rfl⟩ | exact ⟨(pI_f (fun q => h27 q.2)).symm, rfl⟩ | exact ⟨(pI_t ⟨h11, h27⟩).symm, rfl⟩
theorem pow2_256 (h : Wf c) : 2 ^ c.now.people ≤ 256 := show 2 ^ c.now.people ≤ 2 ^ 8 from Nat.pow_le_pow_right (by decide) h.p8
theorem sp_Ou_trueSplits (h : OM c G M) {a b : Nat} (ha : a ≤ c.now.people) (hb : b ≤ c.now.people) : E 3 0 0 Y_Ou_trueSplits 0 [some (.ref 216), some (.int (nI a)), some (.int (nI b)), none, none] [] G M (QI G fun r M' => r = nI (cnt (truB a b (yesN c a) (yesN c b)) (2 ^ c.now.people)) ∧ M' = M) := by
  have hp8 := h.2.2.2.p8
  have hG := h.1
  have hO := h.2.2.1
  have h256 := pow2_256 h.2.2.2
  have L : ∀ k s, s + k = 2 ^ c.now.people → E 3 0 0 Y_Ou_trueSplits 5 [some (.ref 216), some (.int (nI a)), some (.int (nI b)), some (.int (nI (cnt (truB a b (yesN c a) (yesN c b)) s))), some (.int (nI s))] [] G M (QI G fun r M' => r = nI (cnt (truB a b (yesN c a) (yesN c b)) (2 ^ c.now.people)) ∧ M' = M) := by
    intro k
    induction k with
    | zero =>
      intro s hs
      have hs2 : s = 2 ^ c.now.people := by omega
      subst hs2
      refine E_iload d_Ou_trueSplits_5 rfl ?_
      refine E_iconst (v := nI 1) d_Ou_trueSplits_7 rfl ?_
      first | refine E_aload_n d_Ou_trueSplits_8 rfl ?_ | refine E_aload_nN d_Ou_trueSplits_8 rfl ?_
      refine E_getI d_Ou_trueSplits_9 gf_Ou_31 (by first | exact hG.s (by decide) rfl) (by exact hO.1) ?_
      first | (with_reducible refine E_isN2 ?_; first | refine E_ishl1 d_Ou_trueSplits_12 (by omega) ?_ | refine E_ishlN d_Ou_trueSplits_12 (by omega) (by omega) ?_) | refine E_ishl d_Ou_trueSplits_12 ?_
      first | (with_reducible refine E_isN2 ?_; refine E_icmp_ge 36 d_Ou_trueSplits_13 rfl (nb_le (by omega) (by omega) fun h13 => ?_) (nb_nle (by omega) (by omega) fun h13 => ?_)) | refine E_icmp_ge 36 d_Ou_trueSplits_13 rfl (fun h13 => ?_) (fun h13 => ?_)
      rotate_left
      · exfalso; omega
      refine E_iload_n d_Ou_trueSplits_36 rfl ?_
      refine E_retI d_Ou_trueSplits_37 rfl ?_
      exact ⟨rfl, rfl⟩
    | succ k ih =>
      intro s hs
      have ih2 := ih (s + 1) (by omega)
      have e : cnt (truB a b (yesN c a) (yesN c b)) (s + 1) = cnt (truB a b (yesN c a) (yesN c b)) s + (if truB a b (yesN c a) (yesN c b) s = true then 1 else 0) := rfl
      rw [e] at ih2
      refine E_iload d_Ou_trueSplits_5 rfl ?_
      refine E_iconst (v := nI 1) d_Ou_trueSplits_7 rfl ?_
      first | refine E_aload_n d_Ou_trueSplits_8 rfl ?_ | refine E_aload_nN d_Ou_trueSplits_8 rfl ?_
      refine E_getI d_Ou_trueSplits_9 gf_Ou_31 (by first | exact hG.s (by decide) rfl) (by exact hO.1) ?_
      first | (with_reducible refine E_isN2 ?_; first | refine E_ishl1 d_Ou_trueSplits_12 (by omega) ?_ | refine E_ishlN d_Ou_trueSplits_12 (by omega) (by omega) ?_) | refine E_ishl d_Ou_trueSplits_12 ?_
      first | (with_reducible refine E_isN2 ?_; refine E_icmp_ge 36 d_Ou_trueSplits_13 rfl (nb_le (by omega) (by omega) fun h13 => ?_) (nb_nle (by omega) (by omega) fun h13 => ?_)) | refine E_icmp_ge 36 d_Ou_trueSplits_13 rfl (fun h13 => ?_) (fun h13 => ?_)
      · exfalso; omega
      first | refine E_aload_n d_Ou_trueSplits_16 rfl ?_ | refine E_aload_nN d_Ou_trueSplits_16 rfl ?_
      refine E_iload d_Ou_trueSplits_17 rfl ?_
      refine E_iload_n d_Ou_trueSplits_19 rfl ?_
      refine E_iload_n d_Ou_trueSplits_20 rfl ?_
      refine E_V3 (sp_Ou_isTrueSplit h ha hb (by omega)) d_Ou_trueSplits_21 ml_Ou_65 cb_Ou_isTrueSplit cv_Ou_isTrueSplit (by first | exact hG.s (by decide) rfl) ⟨by decide, rfl⟩ ⟨by decide, by decide⟩ rfl (Nat.le_of_ble_eq_true rfl) (Nat.le_of_ble_eq_true rfl) (kI fun r1 M1 hc => ?_)
      obtain ⟨rfl, rfl⟩ := hc
      first | (with_reducible refine E_isP ?_; refine E_if_eq 30 d_Ou_trueSplits_24 rfl (pb_0 fun h24 => ?_) (pb_1 fun h24 => ?_)) | (with_reducible refine E_isN1 ?_; refine E_if_eq 30 d_Ou_trueSplits_24 rfl (nz_eq (by omega) fun h24 => ?_) (nz_ne fun h24 => ?_)) | refine E_if_eq 30 d_Ou_trueSplits_24 rfl (fun h24 => ?_) (fun h24 => ?_)
      · first | (with_reducible refine E_isL4 ?_; refine E_iincN4 (m := 1) d_Ou_trueSplits_30 rfl rfl ?_) | refine E_iinc_4 d_Ou_trueSplits_30 rfl rfl ?_
        refine E_goto 5 d_Ou_trueSplits_33 rfl ?_
        first | (rw [if_neg h24] at ih2; exact ih2) | (rw [if_pos h24] at ih2; exact ih2)
      · first | (with_reducible refine E_isL3 ?_; refine E_iincN3 (m := 1) d_Ou_trueSplits_27 rfl rfl ?_) | refine E_iinc_3 d_Ou_trueSplits_27 rfl rfl ?_
        first | (with_reducible refine E_isL4 ?_; refine E_iincN4 (m := 1) d_Ou_trueSplits_30 rfl rfl ?_) | refine E_iinc_4 d_Ou_trueSplits_30 rfl rfl ?_
        refine E_goto 5 d_Ou_trueSplits_33 rfl ?_
        first | (rw [if_neg h24] at ih2; exact ih2) | (rw [if_pos h24] at ih2; exact ih2)
  refine E_iconst (v := nI 0) d_Ou_trueSplits_0 rfl ?_
  refine E_istore_3 d_Ou_trueSplits_1 rfl ?_
  refine E_iconst (v := nI 0) d_Ou_trueSplits_2 rfl ?_
  refine E_istore_4 d_Ou_trueSplits_3 rfl ?_
  exact L (2 ^ c.now.people) 0 (Nat.zero_add _)
theorem sp_Ou_lowestSplit (h : OM c G M) {a b : Nat} (ha : a ≤ c.now.people) (hb : b ≤ c.now.people) : E 3 0 0 Y_Ou_lowestSplit 0 [some (.ref 216), some (.int (nI a)), some (.int (nI b)), none] [] G M (QI G fun r M' => r = findA (truB a b (yesN c a) (yesN c b)) (2 ^ c.now.people) 0 ∧ M' = M) := by
  have hp8 := h.2.2.2.p8
  have hG := h.1
  have hO := h.2.2.1
  have h256 := pow2_256 h.2.2.2
  have L : ∀ k s, s + k = 2 ^ c.now.people → ∀ R, findA (truB a b (yesN c a) (yesN c b)) k s = R → E 3 0 0 Y_Ou_lowestSplit 2 [some (.ref 216), some (.int (nI a)), some (.int (nI b)), some (.int (nI s))] [] G M (QI G fun r M' => r = R ∧ M' = M) := by
    intro k
    induction k with
    | zero =>
      intro s hs R hv
      rw [findA] at hv
      refine E_iload_n d_Ou_lowestSplit_2 rfl ?_
      refine E_iconst (v := nI 1) d_Ou_lowestSplit_3 rfl ?_
      first | refine E_aload_n d_Ou_lowestSplit_4 rfl ?_ | refine E_aload_nN d_Ou_lowestSplit_4 rfl ?_
      refine E_getI d_Ou_lowestSplit_5 gf_Ou_31 (by first | exact hG.s (by decide) rfl) (by exact hO.1) ?_
      first | (with_reducible refine E_isN2 ?_; first | refine E_ishl1 d_Ou_lowestSplit_8 (by omega) ?_ | refine E_ishlN d_Ou_lowestSplit_8 (by omega) (by omega) ?_) | refine E_ishl d_Ou_lowestSplit_8 ?_
      first | (with_reducible refine E_isN2 ?_; refine E_icmp_ge 30 d_Ou_lowestSplit_9 rfl (nb_le (by omega) (by omega) fun h9 => ?_) (nb_nle (by omega) (by omega) fun h9 => ?_)) | refine E_icmp_ge 30 d_Ou_lowestSplit_9 rfl (fun h9 => ?_) (fun h9 => ?_)
      rotate_left
      · exfalso; omega
      refine E_iconst (v := (-1)) d_Ou_lowestSplit_30 rfl ?_
      refine E_retI d_Ou_lowestSplit_31 rfl ?_
      exact ⟨hv, rfl⟩
    | succ k ih =>
      intro s hs R hv
      rw [findA] at hv
      refine E_iload_n d_Ou_lowestSplit_2 rfl ?_
      refine E_iconst (v := nI 1) d_Ou_lowestSplit_3 rfl ?_
      first | refine E_aload_n d_Ou_lowestSplit_4 rfl ?_ | refine E_aload_nN d_Ou_lowestSplit_4 rfl ?_
      refine E_getI d_Ou_lowestSplit_5 gf_Ou_31 (by first | exact hG.s (by decide) rfl) (by exact hO.1) ?_
      first | (with_reducible refine E_isN2 ?_; first | refine E_ishl1 d_Ou_lowestSplit_8 (by omega) ?_ | refine E_ishlN d_Ou_lowestSplit_8 (by omega) (by omega) ?_) | refine E_ishl d_Ou_lowestSplit_8 ?_
      first | (with_reducible refine E_isN2 ?_; refine E_icmp_ge 30 d_Ou_lowestSplit_9 rfl (nb_le (by omega) (by omega) fun h9 => ?_) (nb_nle (by omega) (by omega) fun h9 => ?_)) | refine E_icmp_ge 30 d_Ou_lowestSplit_9 rfl (fun h9 => ?_) (fun h9 => ?_)
      · exfalso; omega
      first | refine E_aload_n d_Ou_lowestSplit_12 rfl ?_ | refine E_aload_nN d_Ou_lowestSplit_12 rfl ?_
      refine E_iload_n d_Ou_lowestSplit_13 rfl ?_
      refine E_iload_n d_Ou_lowestSplit_14 rfl ?_
      refine E_iload_n d_Ou_lowestSplit_15 rfl ?_
      refine E_V3 (sp_Ou_isTrueSplit h ha hb (by omega)) d_Ou_lowestSplit_16 ml_Ou_65 cb_Ou_isTrueSplit cv_Ou_isTrueSplit (by first | exact hG.s (by decide) rfl) ⟨by decide, rfl⟩ ⟨by decide, by decide⟩ rfl (Nat.le_of_ble_eq_true rfl) (Nat.le_of_ble_eq_true rfl) (kI fun r1 M1 hc => ?_)
      obtain ⟨rfl, rfl⟩ := hc
      first | (with_reducible refine E_isP ?_; refine E_if_eq 24 d_Ou_lowestSplit_19 rfl (pb_0 fun h19 => ?_) (pb_1 fun h19 => ?_)) | (with_reducible refine E_isN1 ?_; refine E_if_eq 24 d_Ou_lowestSplit_19 rfl (nz_eq (by omega) fun h19 => ?_) (nz_ne fun h19 => ?_)) | refine E_if_eq 24 d_Ou_lowestSplit_19 rfl (fun h19 => ?_) (fun h19 => ?_)
      · first | (with_reducible refine E_isL3 ?_; refine E_iincN3 (m := 1) d_Ou_lowestSplit_24 rfl rfl ?_) | refine E_iinc_3 d_Ou_lowestSplit_24 rfl rfl ?_
        refine E_goto 2 d_Ou_lowestSplit_27 rfl ?_
        rw [if_neg h19] at hv; exact ih (s + 1) (by omega) R hv
      · refine E_iload_n d_Ou_lowestSplit_22 rfl ?_
        refine E_retI d_Ou_lowestSplit_23 rfl ?_
        rw [if_pos h19] at hv; exact ⟨hv, rfl⟩
  refine E_iconst (v := nI 0) d_Ou_lowestSplit_0 rfl ?_
  refine E_istore_3 d_Ou_lowestSplit_1 rfl ?_
  exact L (2 ^ c.now.people) 0 (Nat.zero_add _) _ rfl
end OuB
