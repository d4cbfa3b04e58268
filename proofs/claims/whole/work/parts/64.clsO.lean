theorem pcn_or : ∀ n a b, pcn n (a ||| b) = pcn n a + pcn n (andn b a) := by
  intro n
  induction n with
  | zero => intro a b; rfl
  | succ n ih =>
    intro a b
    have h2 : (a ||| b) / 2 = a / 2 ||| b / 2 := Nat.eq_of_testBit_eq fun k => by rw [← Nat.testBit_succ, Nat.testBit_or, Nat.testBit_or, ← Nat.testBit_succ, ← Nat.testBit_succ]
    have h3 : andn b a / 2 = andn (b / 2) (a / 2) := Nat.eq_of_testBit_eq fun k => by rw [← Nat.testBit_succ, andn_bit, andn_bit, ← Nat.testBit_succ, ← Nat.testBit_succ]
    have h1 : (a ||| b) % 2 = a % 2 + andn b a % 2 := by
      have mm : ∀ x : Nat, x % 2 = (x.testBit 0).toNat := fun x => by
        rw [Nat.testBit_zero]
        rcases Nat.mod_two_eq_zero_or_one x with q | q <;> rw [q] <;> rfl
      rw [mm (a ||| b), mm a, mm (andn b a), Nat.testBit_or, andn_bit]
      cases a.testBit 0 <;> cases b.testBit 0 <;> rfl
    simp only [pcn]
    rw [h1, h2, h3, ih]
    omega
theorem wchk {P y k : Nat} (hP : P < 9) (hy : y < 2 ^ P) (hk : k < 2 ^ P) : pc9 (wnA y P 0 (pc9 (y ||| k) - pc9 y) 0) < pc9 k ∨ (pc9 (wnA y P 0 (pc9 (y ||| k) - pc9 y) 0) = pc9 k ∧ wnA y P 0 (pc9 (y ||| k) - pc9 y) 0 ≤ k) := by
  have e : pc9 (y ||| k) - pc9 y = pc9 (andn k y) := by
    have := pcn_or 10 y k
    unfold pc9
    omega
  have hz : andn k y &&& y = 0 := Nat.eq_of_testBit_eq fun j => by rw [Nat.testBit_and, andn_bit, Nat.zero_testBit]; cases k.testBit j <;> cases y.testBit j <;> rfl
  have hs : andn k y &&& k = andn k y := Nat.eq_of_testBit_eq fun j => by rw [Nat.testBit_and, andn_bit]; cases k.testBit j <;> cases y.testBit j <;> rfl
  have hle : andn k y ≤ k := by rw [← hs]; exact Nat.and_le_right
  have hpc : pc9 (andn k y) ≤ pc9 k := pc9_mono fun j hj => by
    rw [andn_bit] at hj
    cases q : k.testBit j with
    | true => rfl
    | false => rw [q] at hj; exact Bool.noConfusion hj
  obtain ⟨t1, t2⟩ := wlow_tab P hP y hy (andn k y) (andn_lt y hk) hz
  rw [e, t1]
  by_cases q : pc9 (andn k y) = pc9 k
  · exact Or.inr ⟨q, by omega⟩
  · exact Or.inl (by omega)
theorem winA_spec {y f N : Nat} : ∀ k w, k ≤ N → (w = 0 → ∀ j, k ≤ j → j < N → pc9 (y ||| j) ≠ f) → (w ≠ 0 → pc9 (y ||| (w - 1)) = f ∧ k ≤ w - 1 ∧ w - 1 < N ∧ ∀ j, k ≤ j → j < N → pc9 (y ||| j) = f → pc9 (w - 1) < pc9 j ∨ (pc9 (w - 1) = pc9 j ∧ w - 1 ≤ j)) →
    (winA y f k w = 0 → ∀ j, j < N → pc9 (y ||| j) ≠ f) ∧ (winA y f k w ≠ 0 → pc9 (y ||| (winA y f k w - 1)) = f ∧ winA y f k w - 1 < N ∧ ∀ j, j < N → pc9 (y ||| j) = f → pc9 (winA y f k w - 1) < pc9 j ∨ (pc9 (winA y f k w - 1) = pc9 j ∧ winA y f k w - 1 ≤ j)) := by
  intro k
  induction k with
  | zero =>
    intro w _ h0 h1
    rw [winA]
    exact ⟨fun h j hj => h0 h j (Nat.zero_le _) hj, fun h => ⟨(h1 h).1, (h1 h).2.2.1, fun j hj hv => (h1 h).2.2.2 j (Nat.zero_le _) hj hv⟩⟩
  | succ k ih =>
    intro w hk h0 h1
    rw [winA]
    refine ih _ (by omega) (fun q j hj1 hj2 => ?_) (fun q => ?_)
    · by_cases hc : pc9 (y ||| k) = f ∧ (w = 0 ∨ pc9 k ≤ pc9 (w - 1))
      · rw [if_pos hc] at q
        omega
      · rw [if_neg hc] at q
        by_cases e : j = k
        · subst e
          intro hv
          exact hc ⟨hv, Or.inl q⟩
        · exact h0 q j (by omega) hj2
    · by_cases hc : pc9 (y ||| k) = f ∧ (w = 0 ∨ pc9 k ≤ pc9 (w - 1))
      · rw [if_pos hc, Nat.add_sub_cancel]
        refine ⟨hc.1, Nat.le_refl _, by omega, fun j hj1 hj2 hv => ?_⟩
        by_cases e : j = k
        · subst e
          exact Or.inr ⟨rfl, Nat.le_refl _⟩
        · rcases hc.2 with hw | hw
          · exact absurd hv (h0 hw j (by omega) hj2)
          · by_cases hw0 : w = 0
            · exact absurd hv (h0 hw0 j (by omega) hj2)
            · have hb := (h1 hw0).2.2.2 j (by omega) hj2 hv
              rcases hb with hb | hb
              · exact Or.inl (by omega)
              · by_cases e2 : pc9 k = pc9 j
                · exact Or.inr ⟨e2, by omega⟩
                · exact Or.inl (by omega)
      · rw [if_neg hc] at q ⊢
        obtain ⟨a1, a2, a3, a4⟩ := h1 q
        refine ⟨a1, by omega, a3, fun j hj1 hj2 hv => ?_⟩
        by_cases e : j = k
        · subst e
          have hn : ¬ (w = 0 ∨ pc9 j ≤ pc9 (w - 1)) := fun r => hc ⟨hv, r⟩
          exact Or.inl (by omega)
        · exact a4 j (by omega) hj2 hv
theorem win_eq {P y f : Nat} (hP : P < 9) (hy : y < 2 ^ P) (hf : f ≤ P) : winA y f (2 ^ P) 0 = if pc9 y ≤ f then wnA y P 0 (f - pc9 y) 0 + 1 else 0 := by
  obtain ⟨s0, s1⟩ := winA_spec (y := y) (f := f) (N := 2 ^ P) (2 ^ P) 0 (Nat.le_refl _) (fun _ j a b => by omega) (fun h => absurd rfl h)
  by_cases h : pc9 y ≤ f
  · rw [if_pos h]
    obtain ⟨v1, v2⟩ := wval_tab P hP y hy f hf h
    have hne : winA y f (2 ^ P) 0 ≠ 0 := fun q => s0 q _ v2 v1
    obtain ⟨a1, a2, a3⟩ := s1 hne
    have b1 := a3 _ v2 v1
    have b2 := wchk hP hy a2
    rw [a1] at b2
    omega
  · rw [if_neg h]
    refine Decidable.byContradiction fun hne => ?_
    obtain ⟨a1, -, -⟩ := s1 hne
    have : pc9 y ≤ pc9 (y ||| (winA y f (2 ^ P) 0 - 1)) := pc9_mono fun k hk => by rw [Nat.testBit_or, hk]; rfl
    omega
section OuD
variable {c : Cr} {G : Geo} {M : Mem}
theorem sp_Ou_winners (h : OM c G M) {f : Nat} (hf : f ≤ c.now.people) : E 2 0 0 Y_Ou_winners 0 [some (.ref 216), some (.int (nI f)), none, none, none] [] G M (QI G fun r M' => r = pM (winN c f) ∧ M' = M) := by
  have hp8 := h.2.2.2.p8
  have hG := h.1
  have hO := h.2.2.1
  have hy := yesN_256 h.2.2.2 f
  have hcm := cm_le c f
  have ew : winN c f = if cm c f ≤ f then wnA (yesN c f) c.now.people 0 (f - cm c f) 0 + 1 else 0 := win_eq (by omega) (yesN_lt c f) hf
  rw [ew]
  by_cases hle : cm c f ≤ f
  · rw [if_pos hle]
    have L : ∀ k p l s, p + k = c.now.people → l ≤ 8 → ∀ R, wnA (yesN c f) k p l s = R → E 2 0 0 Y_Ou_winners 19 [some (.ref 216), some (.int (nI f)), some (.int (nI l)), some (.int (nI s)), some (.int (nI p))] [] G M (QI G fun r M' => r = nI R ∧ M' = M) := by
      intro k
      induction k with
      | zero =>
        intro p l s hp hl R hv
        rw [wnA] at hv
        subst hv
        refine E_iload d_Ou_winners_19 rfl ?_
        first | refine E_aload_n d_Ou_winners_21 rfl ?_ | refine E_aload_nN d_Ou_winners_21 rfl ?_
        refine E_getI d_Ou_winners_22 gf_Ou_31 (by first | exact hG.s (by decide) rfl) (by exact hO.1) ?_
        first | (with_reducible refine E_isN2 ?_; refine E_icmp_ge 61 d_Ou_winners_25 rfl (nb_le (by omega) (by omega) fun h25 => ?_) (nb_nle (by omega) (by omega) fun h25 => ?_)) | refine E_icmp_ge 61 d_Ou_winners_25 rfl (fun h25 => ?_) (fun h25 => ?_)
        rotate_left
        · exfalso; omega
        refine E_iload_n d_Ou_winners_61 rfl ?_
        refine E_retI d_Ou_winners_62 rfl ?_
        exact ⟨rfl, rfl⟩
      | succ k ih =>
        intro p l s hp hl R hv
        rw [wnA] at hv
        by_cases hl0 : l = 0
        · rw [if_pos hl0] at hv
          subst hv
          refine E_iload d_Ou_winners_19 rfl ?_
          first | refine E_aload_n d_Ou_winners_21 rfl ?_ | refine E_aload_nN d_Ou_winners_21 rfl ?_
          refine E_getI d_Ou_winners_22 gf_Ou_31 (by first | exact hG.s (by decide) rfl) (by exact hO.1) ?_
          first | (with_reducible refine E_isN2 ?_; refine E_icmp_ge 61 d_Ou_winners_25 rfl (nb_le (by omega) (by omega) fun h25 => ?_) (nb_nle (by omega) (by omega) fun h25 => ?_)) | refine E_icmp_ge 61 d_Ou_winners_25 rfl (fun h25 => ?_) (fun h25 => ?_)
          · exfalso; omega
          refine E_iload_n d_Ou_winners_28 rfl ?_
          first | (with_reducible refine E_isN1 ?_; refine E_if_le 61 d_Ou_winners_29 rfl (nz_le (by omega) fun h29 => ?_) (nz_nle (by omega) fun h29 => ?_)) | refine E_if_le 61 d_Ou_winners_29 rfl (fun h29 => ?_) (fun h29 => ?_)
          rotate_left
          · exfalso; omega
          refine E_iload_n d_Ou_winners_61 rfl ?_
          refine E_retI d_Ou_winners_62 rfl ?_
          exact ⟨rfl, rfl⟩
        · rw [if_neg hl0] at hv
          have ha : yesN c f / 2 ^ p &&& 1 ≤ 1 := Nat.and_le_right
          have i1 : yesN c f / 2 ^ p &&& 1 ≠ 0 → wnA (yesN c f) k (p + 1) l s = R := fun q => by
            rw [if_pos ((tb_div _ _).mpr (by omega))] at hv
            exact hv
          have i0 : yesN c f / 2 ^ p &&& 1 = 0 → wnA (yesN c f) k (p + 1) (l - 1) (s ||| 2 ^ p) = R := fun q => by
            rw [if_neg (fun r => by have := (tb_div _ _).mp r; omega)] at hv
            exact hv
          refine E_iload d_Ou_winners_19 rfl ?_
          first | refine E_aload_n d_Ou_winners_21 rfl ?_ | refine E_aload_nN d_Ou_winners_21 rfl ?_
          refine E_getI d_Ou_winners_22 gf_Ou_31 (by first | exact hG.s (by decide) rfl) (by exact hO.1) ?_
          first | (with_reducible refine E_isN2 ?_; refine E_icmp_ge 61 d_Ou_winners_25 rfl (nb_le (by omega) (by omega) fun h25 => ?_) (nb_nle (by omega) (by omega) fun h25 => ?_)) | refine E_icmp_ge 61 d_Ou_winners_25 rfl (fun h25 => ?_) (fun h25 => ?_)
          · exfalso; omega
          refine E_iload_n d_Ou_winners_28 rfl ?_
          first | (with_reducible refine E_isN1 ?_; refine E_if_le 61 d_Ou_winners_29 rfl (nz_le (by omega) fun h29 => ?_) (nz_nle (by omega) fun h29 => ?_)) | refine E_if_le 61 d_Ou_winners_29 rfl (fun h29 => ?_) (fun h29 => ?_)
          · exfalso; omega
          first | refine E_aload_n d_Ou_winners_32 rfl ?_ | refine E_aload_nN d_Ou_winners_32 rfl ?_
          refine E_iload_n d_Ou_winners_33 rfl ?_
          refine E_V1 (sp_Ou_yesTold h hf) d_Ou_winners_34 ml_Ou_62 cb_Ou_yesTold cv_Ou_yesTold (by first | exact hG.s (by decide) rfl) ⟨by decide, rfl⟩ ⟨by decide, by decide⟩ rfl (Nat.le_of_ble_eq_true rfl) (Nat.le_of_ble_eq_true rfl) (kI fun r1 M1 hc => ?_)
          obtain ⟨rfl, rfl⟩ := hc
          refine E_iload d_Ou_winners_37 rfl ?_
          first | (with_reducible refine E_isN2 ?_; refine E_ishrN d_Ou_winners_39 (by omega) (by omega) ?_) | refine E_ishr d_Ou_winners_39 ?_
          refine E_iconst (v := nI 1) d_Ou_winners_40 rfl ?_
          first | (with_reducible refine E_isN2 ?_; refine E_iandN d_Ou_winners_41 ?_) | refine E_iand d_Ou_winners_41 ?_
          first | (with_reducible refine E_isP ?_; refine E_if_ne 55 d_Ou_winners_42 rfl (pb_1 fun h42 => ?_) (pb_0 fun h42 => ?_)) | (with_reducible refine E_isN1 ?_; refine E_if_ne 55 d_Ou_winners_42 rfl (nz_ne fun h42 => ?_) (nz_eq (by omega) fun h42 => ?_)) | refine E_if_ne 55 d_Ou_winners_42 rfl (fun h42 => ?_) (fun h42 => ?_)
          · first | (with_reducible refine E_isL4 ?_; refine E_iincN4 (m := 1) d_Ou_winners_55 rfl rfl ?_) | refine E_iinc_4 d_Ou_winners_55 rfl rfl ?_
            refine E_goto 19 d_Ou_winners_58 rfl ?_
            first | exact ih (p + 1) l s (by omega) hl R (i1 h42) | exact ih (p + 1) (l - 1) _ (by omega) (by omega) R (i0 h42)
          · refine E_iload_n d_Ou_winners_45 rfl ?_
            refine E_iconst (v := nI 1) d_Ou_winners_46 rfl ?_
            refine E_iload d_Ou_winners_47 rfl ?_
            first | (with_reducible refine E_isN2 ?_; first | refine E_ishl1 d_Ou_winners_49 (by omega) ?_ | refine E_ishlN d_Ou_winners_49 (by omega) (by omega) ?_) | refine E_ishl d_Ou_winners_49 ?_
            first | (with_reducible refine E_isN2 ?_; refine E_iorN d_Ou_winners_50 ?_) | refine E_ior d_Ou_winners_50 ?_
            refine E_istore_3 d_Ou_winners_51 rfl ?_
            first | (with_reducible refine E_isL2 ?_; refine E_iincD2 (m := 1) d_Ou_winners_52 (by decide) (by omega) rfl ?_) | refine E_iinc_2 d_Ou_winners_52 rfl rfl ?_
            first | (with_reducible refine E_isL4 ?_; refine E_iincN4 (m := 1) d_Ou_winners_55 rfl rfl ?_) | refine E_iinc_4 d_Ou_winners_55 rfl rfl ?_
            refine E_goto 19 d_Ou_winners_58 rfl ?_
            first | exact ih (p + 1) l s (by omega) hl R (i1 h42) | exact ih (p + 1) (l - 1) _ (by omega) (by omega) R (i0 h42)
    refine E_iload_n d_Ou_winners_0 rfl ?_
    first | refine E_aload_n d_Ou_winners_1 rfl ?_ | refine E_aload_nN d_Ou_winners_1 rfl ?_
    refine E_iload_n d_Ou_winners_2 rfl ?_
    refine E_V1 (sp_Ou_comesOf h hf) d_Ou_winners_3 ml_Ou_35 cb_Ou_comesOf cv_Ou_comesOf (by first | exact hG.s (by decide) rfl) ⟨by decide, rfl⟩ ⟨by decide, by decide⟩ rfl (Nat.le_of_ble_eq_true rfl) (Nat.le_of_ble_eq_true rfl) (kI fun r1 M1 hc => ?_)
    obtain ⟨rfl, rfl⟩ := hc
    first | (with_reducible refine E_isN2 ?_; refine E_isubN d_Ou_winners_6 (by omega) ?_) | refine E_isub d_Ou_winners_6 ?_
    refine E_istore_2 d_Ou_winners_7 rfl ?_
    refine E_iload_n d_Ou_winners_8 rfl ?_
    first | (with_reducible refine E_isN1 ?_; refine E_if_ge 14 d_Ou_winners_9 rfl (nz_ge (by omega) fun h9 => ?_) (nz_nge (by omega) fun h9 => ?_)) | refine E_if_ge 14 d_Ou_winners_9 rfl (fun h9 => ?_) (fun h9 => ?_)
    rotate_left
    · exfalso; omega
    refine E_iconst (v := nI 0) d_Ou_winners_14 rfl ?_
    refine E_istore_3 d_Ou_winners_15 rfl ?_
    refine E_iconst (v := nI 0) d_Ou_winners_16 rfl ?_
    refine E_istore_4 d_Ou_winners_17 rfl ?_
    exact L c.now.people 0 (f - cm c f) 0 (Nat.zero_add _) (by omega) _ rfl
  · rw [if_neg hle]
    have hn : ¬ 0 ≤ nI f - nI (cm c f) := by rw [le_toInt, nI_sub_toInt (by omega) (by omega), z32]; omega
    refine E_iload_n d_Ou_winners_0 rfl ?_
    first | refine E_aload_n d_Ou_winners_1 rfl ?_ | refine E_aload_nN d_Ou_winners_1 rfl ?_
    refine E_iload_n d_Ou_winners_2 rfl ?_
    refine E_V1 (sp_Ou_comesOf h hf) d_Ou_winners_3 ml_Ou_35 cb_Ou_comesOf cv_Ou_comesOf (by first | exact hG.s (by decide) rfl) ⟨by decide, rfl⟩ ⟨by decide, by decide⟩ rfl (Nat.le_of_ble_eq_true rfl) (Nat.le_of_ble_eq_true rfl) (kI fun r1 M1 hc => ?_)
    obtain ⟨rfl, rfl⟩ := hc
    first | (with_reducible refine E_isN2 ?_; refine E_isubN d_Ou_winners_6 (by omega) ?_) | refine E_isub d_Ou_winners_6 ?_
    refine E_istore_2 d_Ou_winners_7 rfl ?_
    refine E_iload_n d_Ou_winners_8 rfl ?_
    first | (with_reducible refine E_isN1 ?_; refine E_if_ge 14 d_Ou_winners_9 rfl (nz_ge (by omega) fun h9 => ?_) (nz_nge (by omega) fun h9 => ?_)) | refine E_if_ge 14 d_Ou_winners_9 rfl (fun h9 => ?_) (fun h9 => ?_)
    · exfalso; exact hn h9
    refine E_iconst (v := (-1)) d_Ou_winners_12 rfl ?_
    refine E_retI d_Ou_winners_13 rfl ?_
    exact ⟨rfl, rfl⟩
def oneV (s : Nat) : Int32 := if s = 0 then -1 else nI ((s - 1) / 8)
def othV (s : Nat) : Int32 := if s = 0 then -1 else nI ((s - 1) % 8)
theorem sp_Ou_mostAlike (h : OM c G M) {z : Int32} : E 3 0 0 Y_Ou_mostAlike 0 [some (.ref 216), some (.int z), none, none, none, none, none, none] [] G M (QI G fun r M' => r = ans_pair c z ∧ M' = M) := by
  have hp8 := h.2.2.2.p8
  have hG := h.1
  have hO := h.2.2.1
  have al9 : ∀ a b, alikeN c a b ≤ 9 := fun a b => by have := cnt_le (fun f => isYes c c.now (ruler c) a f == isYes c c.now (ruler c) b f) (c.now.people + 1); unfold alikeN; omega
  have LB : ∀ k a S (Q : Option Value → Geo → Mem → Prop), a < c.now.people → k + 1 ≤ c.now.people → (∀ T, T = pairB c a k S → E 3 0 0 Y_Ou_mostAlike 66 [some (.ref 216), some (.int z), some (.int (pM T.2)), some (.int (oneV T.1)), some (.int (othV T.1)), some (.int (nI a)), none, none] [] G M Q) → S.2 ≤ 10 → E 3 0 0 Y_Ou_mostAlike 25 [some (.ref 216), some (.int z), some (.int (pM S.2)), some (.int (oneV S.1)), some (.int (othV S.1)), some (.int (nI a)), some (.int (nI (c.now.people - k))), none] [] G M Q := by
    intro k
    induction k with
    | zero =>
      intro a S Q ha hk K hS
      have K2 := K S rfl
      refine E_iload d_Ou_mostAlike_25 rfl ?_
      first | refine E_aload_n d_Ou_mostAlike_27 rfl ?_ | refine E_aload_nN d_Ou_mostAlike_27 rfl ?_
      refine E_getI d_Ou_mostAlike_28 gf_Ou_31 (by first | exact hG.s (by decide) rfl) (by exact hO.1) ?_
      first | (with_reducible refine E_isN2 ?_; refine E_icmp_ge 66 d_Ou_mostAlike_31 rfl (nb_le (by omega) (by omega) fun h31 => ?_) (nb_nle (by omega) (by omega) fun h31 => ?_)) | refine E_icmp_ge 66 d_Ou_mostAlike_31 rfl (fun h31 => ?_) (fun h31 => ?_)
      rotate_left
      · exfalso; omega
      refine E_wk ?_ K2; exact ⟨Or.inl rfl, Or.inl rfl, Or.inl rfl, Or.inl rfl, Or.inl rfl, Or.inl rfl, Or.inr rfl, Or.inl rfl, trivial⟩
    | succ k ih =>
      intro a S Q ha hk K hS
      have hb := al9 a (c.now.people - (k + 1))
      have e : pairB c a (k + 1) S = pairB c a k (if S.2 < alikeN c a (c.now.people - (k + 1)) + 1 then (8 * a + (c.now.people - (k + 1)) + 1, alikeN c a (c.now.people - (k + 1)) + 1) else S) := rfl
      rw [e] at K
      have e1 : c.now.people - (k + 1) + 1 = c.now.people - k := by omega
      have hcond : pM S.2 < nI (alikeN c a (c.now.people - (k + 1))) ↔ S.2 < alikeN c a (c.now.people - (k + 1)) + 1 := pM_lt (by omega) (by omega)
      have hnle : ∀ x y : Int32, ¬ x ≤ y → y < x := fun x y q => Int32.not_le.mp q
      have up1 : ¬ nI (alikeN c a (c.now.people - (k + 1))) ≤ pM S.2 → E 3 0 0 Y_Ou_mostAlike 60 [some (.ref 216), some (.int z), some (.int (nI (alikeN c a (c.now.people - (k + 1))))), some (.int (nI a)), some (.int (nI (c.now.people - (k + 1)))), some (.int (nI a)), some (.int (nI (c.now.people - (k + 1)))), some (.int (nI (alikeN c a (c.now.people - (k + 1)))))] [] G M Q := by
        intro hq
        rw [if_pos (hcond.mp (hnle _ _ hq))] at K
        have ih2 := ih a _ Q ha (by omega) K (by show alikeN c a (c.now.people - (k + 1)) + 1 ≤ 10; omega)
        have o1 : oneV (8 * a + (c.now.people - (k + 1)) + 1) = nI a := by
          unfold oneV
          rw [if_neg (by omega), Nat.add_sub_cancel]
          congr 1
          omega
        have o2 : othV (8 * a + (c.now.people - (k + 1)) + 1) = nI (c.now.people - (k + 1)) := by
          unfold othV
          rw [if_neg (by omega), Nat.add_sub_cancel]
          congr 1
          omega
        have ih3 : E 3 0 0 Y_Ou_mostAlike 25 [some (.ref 216), some (.int z), some (.int (nI (alikeN c a (c.now.people - (k + 1))))), some (.int (oneV (8 * a + (c.now.people - (k + 1)) + 1))), some (.int (othV (8 * a + (c.now.people - (k + 1)) + 1))), some (.int (nI a)), some (.int (nI (c.now.people - k))), none] [] G M Q := ih2
        rw [o1, o2, ← e1] at ih3
        first | (with_reducible refine E_isL6 ?_; refine E_iincN6 (m := 1) d_Ou_mostAlike_60 rfl rfl ?_) | refine E_iinc_6 d_Ou_mostAlike_60 rfl rfl ?_
        refine E_goto 25 d_Ou_mostAlike_63 rfl ?_
        refine E_wk ?_ ih3; exact ⟨Or.inl rfl, Or.inl rfl, Or.inl rfl, Or.inl rfl, Or.inl rfl, Or.inl rfl, Or.inl rfl, Or.inr rfl, trivial⟩
      have up0 : nI (alikeN c a (c.now.people - (k + 1))) ≤ pM S.2 → E 3 0 0 Y_Ou_mostAlike 60 [some (.ref 216), some (.int z), some (.int (pM S.2)), some (.int (oneV S.1)), some (.int (othV S.1)), some (.int (nI a)), some (.int (nI (c.now.people - (k + 1)))), some (.int (nI (alikeN c a (c.now.people - (k + 1)))))] [] G M Q := by
        intro hq
        rw [if_neg (fun r => absurd (hcond.mpr r) (Int32.not_lt.mpr hq))] at K
        have ih2 := ih a S Q ha (by omega) K hS
        rw [← e1] at ih2
        first | (with_reducible refine E_isL6 ?_; refine E_iincN6 (m := 1) d_Ou_mostAlike_60 rfl rfl ?_) | refine E_iinc_6 d_Ou_mostAlike_60 rfl rfl ?_
        refine E_goto 25 d_Ou_mostAlike_63 rfl ?_
        refine E_wk ?_ ih2; exact ⟨Or.inl rfl, Or.inl rfl, Or.inl rfl, Or.inl rfl, Or.inl rfl, Or.inl rfl, Or.inl rfl, Or.inr rfl, trivial⟩
      refine E_iload d_Ou_mostAlike_25 rfl ?_
      first | refine E_aload_n d_Ou_mostAlike_27 rfl ?_ | refine E_aload_nN d_Ou_mostAlike_27 rfl ?_
      refine E_getI d_Ou_mostAlike_28 gf_Ou_31 (by first | exact hG.s (by decide) rfl) (by exact hO.1) ?_
      first | (with_reducible refine E_isN2 ?_; refine E_icmp_ge 66 d_Ou_mostAlike_31 rfl (nb_le (by omega) (by omega) fun h31 => ?_) (nb_nle (by omega) (by omega) fun h31 => ?_)) | refine E_icmp_ge 66 d_Ou_mostAlike_31 rfl (fun h31 => ?_) (fun h31 => ?_)
      · exfalso; omega
      first | refine E_aload_n d_Ou_mostAlike_34 rfl ?_ | refine E_aload_nN d_Ou_mostAlike_34 rfl ?_
      refine E_iload d_Ou_mostAlike_35 rfl ?_
      refine E_iload d_Ou_mostAlike_37 rfl ?_
      refine E_V2 (sp_Ou_alikeFigures h ha (by omega)) d_Ou_mostAlike_39 ml_Ou_69 cb_Ou_alikeFigures cv_Ou_alikeFigures (by first | exact hG.s (by decide) rfl) ⟨by decide, rfl⟩ ⟨by decide, by decide⟩ rfl (Nat.le_of_ble_eq_true rfl) (Nat.le_of_ble_eq_true rfl) (kI fun r1 M1 hc => ?_)
      obtain ⟨rfl, rfl⟩ := hc
      refine E_istore_7 d_Ou_mostAlike_42 rfl ?_
      refine E_iload d_Ou_mostAlike_44 rfl ?_
      refine E_iload_n d_Ou_mostAlike_46 rfl ?_
      first | (with_reducible refine E_isN2 ?_; refine E_icmp_le 60 d_Ou_mostAlike_47 rfl (nb_le (by omega) (by omega) fun h47 => ?_) (nb_nle (by omega) (by omega) fun h47 => ?_)) | refine E_icmp_le 60 d_Ou_mostAlike_47 rfl (fun h47 => ?_) (fun h47 => ?_)
      · first | exact up0 h47 | exact up1 h47
      · refine E_iload d_Ou_mostAlike_50 rfl ?_
        refine E_istore_2 d_Ou_mostAlike_52 rfl ?_
        refine E_iload d_Ou_mostAlike_53 rfl ?_
        refine E_istore_3 d_Ou_mostAlike_55 rfl ?_
        refine E_iload d_Ou_mostAlike_56 rfl ?_
        refine E_istore_4 d_Ou_mostAlike_58 rfl ?_
        first | exact up0 h47 | exact up1 h47
  have pb10 : ∀ k a S, S.2 ≤ 10 → (pairB c a k S).2 ≤ 10 := by
    intro k
    induction k with
    | zero => intro a S hS; exact hS
    | succ k ih =>
      intro a S hS
      rw [pairB]
      refine ih a _ ?_
      have := al9 a (c.now.people - (k + 1))
      split
      · show alikeN c a (c.now.people - (k + 1)) + 1 ≤ 10
        omega
      · exact hS
  have LA : ∀ k S, k ≤ c.now.people → S.2 ≤ 10 → pairA c k S = pairA c c.now.people (0, 0) → E 3 0 0 Y_Ou_mostAlike 10 [some (.ref 216), some (.int z), some (.int (pM S.2)), some (.int (oneV S.1)), some (.int (othV S.1)), some (.int (nI (c.now.people - k))), none, none] [] G M (QI G fun r M' => r = ans_pair c z ∧ M' = M) := by
    intro k
    induction k with
    | zero =>
      intro S hk hS hv
      have hv : S = pairA c c.now.people (0, 0) := hv
      have r1 : z = 0 → oneV S.1 = ans_pair c z := fun q => by
        unfold ans_pair oneV
        rw [← hv]
        by_cases h0 : S.1 = 0
        · rw [if_pos h0, if_pos h0]
        · rw [if_neg h0, if_neg h0, if_pos q]
      have r2 : ¬ z = 0 → othV S.1 = ans_pair c z := fun q => by
        unfold ans_pair othV
        rw [← hv]
        by_cases h0 : S.1 = 0
        · rw [if_pos h0, if_pos h0]
        · rw [if_neg h0, if_neg h0, if_neg q]
      refine E_iload d_Ou_mostAlike_10 rfl ?_
      first | refine E_aload_n d_Ou_mostAlike_12 rfl ?_ | refine E_aload_nN d_Ou_mostAlike_12 rfl ?_
      refine E_getI d_Ou_mostAlike_13 gf_Ou_31 (by first | exact hG.s (by decide) rfl) (by exact hO.1) ?_
      first | (with_reducible refine E_isN2 ?_; refine E_icmp_ge 72 d_Ou_mostAlike_16 rfl (nb_le (by omega) (by omega) fun h16 => ?_) (nb_nle (by omega) (by omega) fun h16 => ?_)) | refine E_icmp_ge 72 d_Ou_mostAlike_16 rfl (fun h16 => ?_) (fun h16 => ?_)
      rotate_left
      · exfalso; omega
      refine E_iload_n d_Ou_mostAlike_72 rfl ?_
      first | (with_reducible refine E_isP ?_; refine E_if_eq 81 d_Ou_mostAlike_73 rfl (pb_0 fun h73 => ?_) (pb_1 fun h73 => ?_)) | (with_reducible refine E_isN1 ?_; refine E_if_eq 81 d_Ou_mostAlike_73 rfl (nz_eq (by omega) fun h73 => ?_) (nz_ne fun h73 => ?_)) | refine E_if_eq 81 d_Ou_mostAlike_73 rfl (fun h73 => ?_) (fun h73 => ?_)
      · refine E_iload_n d_Ou_mostAlike_81 rfl ?_
        refine E_retI d_Ou_mostAlike_82 rfl ?_
        first | exact ⟨r1 h73, rfl⟩ | exact ⟨r2 h73, rfl⟩
      · refine E_iload d_Ou_mostAlike_76 rfl ?_
        refine E_goto 82 d_Ou_mostAlike_78 rfl ?_
        refine E_retI d_Ou_mostAlike_82 rfl ?_
        first | exact ⟨r1 h73, rfl⟩ | exact ⟨r2 h73, rfl⟩
    | succ k ih =>
      intro S hk hS hv
      rw [pairA] at hv
      have e1 : c.now.people - (k + 1) + 1 = c.now.people - k := by omega
      have B := LB k (c.now.people - (k + 1)) S (QI G fun r M' => r = ans_pair c z ∧ M' = M) (by omega) (by omega) (fun T hT => by
        have ih2 := ih T (by omega) (by rw [hT]; exact pb10 _ _ _ hS) (by rw [hT]; exact hv)
        rw [← e1] at ih2
        first | (with_reducible refine E_isL5 ?_; refine E_iincN5 (m := 1) d_Ou_mostAlike_66 rfl rfl ?_) | refine E_iinc_5 d_Ou_mostAlike_66 rfl rfl ?_
        refine E_goto 10 d_Ou_mostAlike_69 rfl ?_
        exact ih2) hS
      rw [← e1] at B
      refine E_iload d_Ou_mostAlike_10 rfl ?_
      first | refine E_aload_n d_Ou_mostAlike_12 rfl ?_ | refine E_aload_nN d_Ou_mostAlike_12 rfl ?_
      refine E_getI d_Ou_mostAlike_13 gf_Ou_31 (by first | exact hG.s (by decide) rfl) (by exact hO.1) ?_
      first | (with_reducible refine E_isN2 ?_; refine E_icmp_ge 72 d_Ou_mostAlike_16 rfl (nb_le (by omega) (by omega) fun h16 => ?_) (nb_nle (by omega) (by omega) fun h16 => ?_)) | refine E_icmp_ge 72 d_Ou_mostAlike_16 rfl (fun h16 => ?_) (fun h16 => ?_)
      · exfalso; omega
      refine E_iload d_Ou_mostAlike_19 rfl ?_
      refine E_iconst (v := nI 1) d_Ou_mostAlike_21 rfl ?_
      first | (with_reducible refine E_isN2 ?_; refine E_iaddN d_Ou_mostAlike_22 ?_) | refine E_iadd d_Ou_mostAlike_22 ?_
      refine E_istore_6 d_Ou_mostAlike_23 rfl ?_
      exact B
  have L0 := LA c.now.people (0, 0) (Nat.le_refl _) (by decide) rfl
  rw [Nat.sub_self] at L0
  refine E_iconst (v := (-1)) d_Ou_mostAlike_0 rfl ?_
  refine E_istore_2 d_Ou_mostAlike_1 rfl ?_
  refine E_iconst (v := (-1)) d_Ou_mostAlike_2 rfl ?_
  refine E_istore_3 d_Ou_mostAlike_3 rfl ?_
  refine E_iconst (v := (-1)) d_Ou_mostAlike_4 rfl ?_
  refine E_istore_4 d_Ou_mostAlike_5 rfl ?_
  refine E_iconst (v := nI 0) d_Ou_mostAlike_7 rfl ?_
  refine E_istore_5 d_Ou_mostAlike_8 rfl ?_
  exact L0
end OuD
