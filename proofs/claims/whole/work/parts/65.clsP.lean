section PathMath
variable {g : Nat → Nat} {k m a : Nat}
theorem moreT_bit {set f acc j : Nat} : ∀ n, (moreT g k set f n acc).testBit j = true ↔ acc.testBit j = true ∨ (set.testBit f = true ∧ ∃ t, t < n ∧ ap f t ≤ k ∧ g t = j) := by
  intro n
  induction n with
  | zero => exact ⟨fun h => Or.inl h, fun h => h.elim id (fun ⟨_, t, ht, _⟩ => absurd ht (Nat.not_lt_zero t))⟩
  | succ n ih =>
    rw [moreT]
    by_cases hc : set.testBit f = true ∧ ap f n ≤ k
    · rw [if_pos hc, tb_or2, Bool.or_eq_true, ih, decide_eq_true_eq]
      constructor
      · rintro ((h | ⟨h, t, h1, h2, h3⟩) | h)
        · exact Or.inl h
        · exact Or.inr ⟨h, t, by omega, h2, h3⟩
        · exact Or.inr ⟨hc.1, n, by omega, hc.2, h⟩
      · rintro (h | ⟨h, t, h1, h2, h3⟩)
        · exact Or.inl (Or.inl h)
        · by_cases e : t = n
          · subst e; exact Or.inr h3
          · exact Or.inl (Or.inr ⟨h, t, by omega, h2, h3⟩)
    · rw [if_neg hc, ih]
      constructor
      · rintro (h | ⟨h, t, h1, h2, h3⟩)
        · exact Or.inl h
        · exact Or.inr ⟨h, t, by omega, h2, h3⟩
      · rintro (h | ⟨h, t, h1, h2, h3⟩)
        · exact Or.inl h
        · by_cases e : t = n
          · subst e; exact absurd ⟨h, h2⟩ hc
          · exact Or.inr ⟨h, t, by omega, h2, h3⟩
def cfB (g : Nat → Nat) (k m set j n : Nat) : Prop := ∃ f, f < n ∧ set.testBit f = true ∧ ∃ t, t < m ∧ ap f t ≤ k ∧ g t = j
theorem moreF_bit {set j : Nat} : ∀ n, (moreF g k set m n).testBit j = true ↔ set.testBit j = true ∨ cfB g k m set j n := by
  intro n
  induction n with
  | zero => exact ⟨fun h => Or.inl h, fun h => h.elim id (fun ⟨f, hf, _⟩ => absurd hf (Nat.not_lt_zero f))⟩
  | succ n ih =>
    rw [moreF, moreT_bit, ih]
    constructor
    · rintro ((h | ⟨f, h1, h2⟩) | ⟨h, h2⟩)
      · exact Or.inl h
      · exact Or.inr ⟨f, by omega, h2⟩
      · exact Or.inr ⟨n, by omega, h, h2⟩
    · rintro (h | ⟨f, h1, h2⟩)
      · exact Or.inl (Or.inl h)
      · by_cases e : f = n
        · subst e; exact Or.inr h2
        · exact Or.inl (Or.inr ⟨f, by omega, h2⟩)
def lev (g : Nat → Nat) (k m a : Nat) : Nat → Nat
  | 0 => 2 ^ a
  | n + 1 => moreF g k (lev g k m a n) m m
theorem lev_le (hg : ∀ f, g f < m) (ha : a < m) : ∀ n j, (lev g k m a n).testBit j = true → j < m := by
  intro n
  induction n with
  | zero =>
    intro j hj
    have hj : (2 ^ a).testBit j = true := hj
    rw [Nat.testBit_two_pow, decide_eq_true_eq] at hj
    omega
  | succ n ih =>
    intro j hj
    rw [lev, moreF_bit] at hj
    rcases hj with h | ⟨f, -, -, t, -, -, e⟩
    · exact ih j h
    · rw [← e]; exact hg t
theorem lev_up {n j : Nat} (h : (lev g k m a n).testBit j = true) : ∀ d, (lev g k m a (n + d)).testBit j = true := by
  intro d
  induction d with
  | zero => exact h
  | succ d ih => rw [← Nat.add_assoc, lev, moreF_bit]; exact Or.inl ih
def NewL (g : Nat → Nat) (k m a i x : Nat) : Prop := (lev g k m a i).testBit x = true ∧ ∀ i', i' < i → (lev g k m a i').testBit x = false
theorem new_down (hg : ∀ f, g f < m) {i x : Nat} (h : NewL g k m a (i + 1) x) : ∃ y, NewL g k m a i y := by
  have h0 := h.2 i (Nat.lt_succ_self i)
  have h1 := h.1
  rw [lev, moreF_bit] at h1
  rcases h1 with q | ⟨f, hf, hs, t, ht, hap, e⟩
  · rw [h0] at q; exact Bool.noConfusion q
  · refine ⟨f, hs, fun i' hi' => ?_⟩
    rw [Bool.eq_false_iff]
    intro q
    have q2 : (lev g k m a (i' + 1)).testBit x = true := by
      rw [lev, moreF_bit]
      exact Or.inr ⟨f, hf, q, t, ht, hap, e⟩
    rw [h.2 (i' + 1) (by omega)] at q2
    exact Bool.noConfusion q2
theorem new_all (hg : ∀ f, g f < m) : ∀ n x, NewL g k m a n x → ∀ i, i ≤ n → ∃ y, NewL g k m a i y := by
  intro n
  induction n with
  | zero => intro x h i hi; exact ⟨x, by rw [show i = 0 by omega]; exact h⟩
  | succ n ih =>
    intro x h i hi
    by_cases e : i = n + 1
    · exact ⟨x, by rw [e]; exact h⟩
    · obtain ⟨y, hy⟩ := new_down hg h
      exact ih y hy i (by omega)
theorem new_le (hg : ∀ f, g f < m) (ha : a < m) {n x : Nat} (h : NewL g k m a n x) : n < m := by
  refine Decidable.byContradiction fun q => ?_
  have hall := new_all hg n x h
  obtain ⟨i, j, h1, h2, h3⟩ := pigeon m (fun i => if hi : i ≤ n then Classical.choose (hall i hi) else 0) (fun i hi => by
    have hin : i ≤ n := by omega
    show (if hi : i ≤ n then Classical.choose (hall i hi) else 0) < m
    rw [dif_pos hin]
    exact lev_le hg ha _ _ (Classical.choose_spec (hall i hin)).1)
  have hi : i ≤ n := by omega
  have hj : j ≤ n := by omega
  have h3 : (if hi : i ≤ n then Classical.choose (hall i hi) else 0) = (if hj : j ≤ n then Classical.choose (hall j hj) else 0) := h3
  rw [dif_pos hi, dif_pos hj] at h3
  have s1 := (Classical.choose_spec (hall i hi)).1
  have s2 := (Classical.choose_spec (hall j hj)).2 i h1
  rw [← h3, s1] at s2
  exact Bool.noConfusion s2
theorem lev_new : ∀ n x, (lev g k m a n).testBit x = true → ∃ i, i ≤ n ∧ NewL g k m a i x := by
  intro n
  induction n with
  | zero => intro x h; exact ⟨0, Nat.le_refl _, h, fun i' hi' => absurd hi' (Nat.not_lt_zero i')⟩
  | succ n ih =>
    intro x h
    cases q : (lev g k m a n).testBit x with
    | true =>
      obtain ⟨i, h1, h2⟩ := ih x q
      exact ⟨i, by omega, h2⟩
    | false =>
      refine ⟨n + 1, Nat.le_refl _, h, fun i' hi' => ?_⟩
      rw [Bool.eq_false_iff]
      intro r
      have := lev_up r (n - i')
      rw [show i' + (n - i') = n by omega, q] at this
      exact Bool.noConfusion this
theorem pathA_lev {b : Nat} : ∀ j n R, pathA g b k m j n (lev g k m a n) = R → (∀ r, n ≤ r → r < n + j → (lev g k m a r).testBit b = false) → R = -1 := by
  intro j
  induction j with
  | zero => intro n R h _; exact h.symm
  | succ j ih =>
    intro n R h hf
    rw [pathA, if_neg (by rw [hf n (Nat.le_refl _) (by omega)]; exact Bool.false_ne_true)] at h
    exact ih (n + 1) R h (fun r a b => hf r (by omega) (by omega))
theorem pathA_trunc {b : Nat} : ∀ j' j n, j' ≤ j → ((∃ r, n ≤ r ∧ r < n + j ∧ (lev g k m a r).testBit b = true) → ∃ r, n ≤ r ∧ r < n + j' ∧ (lev g k m a r).testBit b = true) → pathA g b k m j n (lev g k m a n) = pathA g b k m j' n (lev g k m a n) := by
  intro j'
  induction j' with
  | zero =>
    intro j n _ h
    refine pathA_lev j n _ rfl (fun r h1 h2 => ?_)
    rw [Bool.eq_false_iff]
    intro q
    obtain ⟨r', q1, q2, _⟩ := h ⟨r, h1, h2, q⟩
    omega
  | succ j' ih =>
    intro j n hj h
    obtain ⟨j0, rfl⟩ : ∃ j0, j = j0 + 1 := ⟨j - 1, by omega⟩
    rw [pathA, pathA]
    by_cases q : (lev g k m a n).testBit b = true
    · rw [if_pos q, if_pos q]
    · rw [if_neg q, if_neg q]
      refine ih j0 (n + 1) (by omega) (fun ⟨r, h1, h2, h3⟩ => ?_)
      obtain ⟨r', q1, q2, q3⟩ := h ⟨r, by omega, by omega, h3⟩
      have : r' ≠ n := fun e => q (by rw [← e]; exact q3)
      exact ⟨r', by omega, by omega, q3⟩
theorem path_m {b : Nat} (hm : m ≤ 9) (hg : ∀ f, g f < m) (ha : a < m) : pathA g b k m 10 0 (2 ^ a) = pathA g b k m (m + 1) 0 (2 ^ a) :=
  pathA_trunc (a := a) (m + 1) 10 0 (by omega) (fun ⟨r, h1, h2, h3⟩ => by
    obtain ⟨i, q1, q2⟩ := lev_new r b h3
    have := new_le hg ha q2
    exact ⟨i, Nat.zero_le _, by omega, q2.1⟩)
end PathMath
section OuE
variable {c : Cr} {G : Geo} {M : Mem}
theorem mx0 {f k : Nat} (hf : f < 1000) (hk : k < 1000) : (if nI 0 < nI f - nI k then nI f - nI k else nI 0) = nI (f - k) := by
  by_cases h : k ≤ f
  · rw [pk_sub h]
    by_cases h0 : 0 < f - k
    · rw [if_pos ((nI_ltI (by decide) (by omega)).mpr h0)]
    · rw [if_neg (fun q => h0 ((nI_ltI (by decide) (by omega)).mp q)), show f - k = 0 by omega]
  · have hn : ¬ nI 0 < nI f - nI k := by rw [lt_toInt, nI_sub_toInt (by omega) (by omega), nI_toInt (by decide)]; omega
    rw [if_neg hn, show f - k = 0 by omega]
theorem mn0 {x y : Nat} (hx : x < 1000) (hy : y < 1000) : (if nI y < nI x then nI y else nI x) = nI (if y < x then y else x) := by
  by_cases h : y < x
  · rw [if_pos ((nI_ltI (by omega) (by omega)).mpr h), if_pos h]
  · rw [if_neg (fun q => h ((nI_ltI (by omega) (by omega)).mp q)), if_neg h]
theorem cf512 (h : Wf c) {b k set n : Nat} (hb : ∀ j, b.testBit j = true → ∃ t, cm c t = j) : b < 512 := by
  have h8 := h.p8
  have : b < 2 ^ (c.now.people + 1) := lt_of_bits fun k hk => by
    rw [Bool.eq_false_iff]
    intro q
    obtain ⟨t, ht⟩ := hb k q
    have := cm_le c t
    omega
  exact Nat.lt_of_lt_of_le this (show 2 ^ (c.now.people + 1) ≤ 2 ^ 9 from Nat.pow_le_pow_right (by decide) (by omega))
theorem sp_Ou_comeFrom (h : OM c G M) {set k : Nat} (hset : set < 512) (hk : k ≤ 8) : E 2 0 0 Y_Ou_comeFrom 0 [some (.ref 216), some (.int (nI set)), some (.int (nI k)), none, none, none] [] G M (QI G fun r M' => (∃ b, r = nI b ∧ ∀ j, b.testBit j = true ↔ cfB (cm c) k (c.now.people + 1) set j (c.now.people + 1)) ∧ M' = M) := by
  have hp8 := h.2.2.2.p8
  have hG := h.1
  have hO := h.2.2.1
  have LF : ∀ d f b, f + d = c.now.people + 1 → (∀ j, b.testBit j = true ↔ cfB (cm c) k (c.now.people + 1) set j f) → E 2 0 0 Y_Ou_comeFrom 5 [some (.ref 216), some (.int (nI set)), some (.int (nI k)), some (.int (nI b)), some (.int (nI f)), none] [] G M (QI G fun r M' => (∃ b, r = nI b ∧ ∀ j, b.testBit j = true ↔ cfB (cm c) k (c.now.people + 1) set j (c.now.people + 1)) ∧ M' = M) := by
    intro d
    induction d with
    | zero =>
      intro f b hf hb
      have hf2 : f = c.now.people + 1 := by omega
      subst hf2
      refine E_iload d_Ou_comeFrom_5 rfl ?_
      first | refine E_aload_n d_Ou_comeFrom_7 rfl ?_ | refine E_aload_nN d_Ou_comeFrom_7 rfl ?_
      refine E_getI d_Ou_comeFrom_8 gf_Ou_31 (by first | exact hG.s (by decide) rfl) (by exact hO.1) ?_
      first | (with_reducible refine E_isN2 ?_; refine E_icmp_gt 73 d_Ou_comeFrom_11 rfl (nb_lt (by omega) (by omega) fun h11 => ?_) (nb_nlt (by omega) (by omega) fun h11 => ?_)) | refine E_icmp_gt 73 d_Ou_comeFrom_11 rfl (fun h11 => ?_) (fun h11 => ?_)
      rotate_left
      · exfalso; omega
      refine E_iload_n d_Ou_comeFrom_73 rfl ?_
      refine E_retI d_Ou_comeFrom_74 rfl ?_
      exact ⟨⟨b, rfl, hb⟩, rfl⟩
    | succ d ih =>
      intro f b hf hb
      have up67 : ∀ b' x, (∀ j, b'.testBit j = true ↔ cfB (cm c) k (c.now.people + 1) set j (f + 1)) → E 2 0 0 Y_Ou_comeFrom 67 [some (.ref 216), some (.int (nI set)), some (.int (nI k)), some (.int (nI b')), some (.int (nI f)), x] [] G M (QI G fun r M' => (∃ b, r = nI b ∧ ∀ j, b.testBit j = true ↔ cfB (cm c) k (c.now.people + 1) set j (c.now.people + 1)) ∧ M' = M) := by
        intro b' x hb'
        have ih2 := ih (f + 1) b' (by omega) hb'
        refine E_wk (ls' := [some (.ref 216), some (.int (nI set)), some (.int (nI k)), some (.int (nI b')), some (.int (nI f)), none]) ?_ ?_
        · exact ⟨Or.inl rfl, Or.inl rfl, Or.inl rfl, Or.inl rfl, Or.inl rfl, Or.inr rfl, trivial⟩
        · first | (with_reducible refine E_isL4 ?_; refine E_iincN4 (m := 1) d_Ou_comeFrom_67 rfl rfl ?_) | refine E_iinc_4 d_Ou_comeFrom_67 rfl rfl ?_
          refine E_goto 5 d_Ou_comeFrom_70 rfl ?_
          exact ih2
      have ha1 : set / 2 ^ f &&& 1 ≤ 1 := Nat.and_le_right
      by_cases hs : set.testBit f = true
      · have hs1 := (tb_div _ _).mp hs
        have LT : ∀ e t b, t + e = (if f + k < c.now.people then f + k else c.now.people) + 1 → f - k ≤ t → (∀ j, b.testBit j = true ↔ cfB (cm c) k (c.now.people + 1) set j f ∨ ∃ t', f - k ≤ t' ∧ t' < t ∧ cm c t' = j) → E 2 0 0 Y_Ou_comeFrom 34 [some (.ref 216), some (.int (nI set)), some (.int (nI k)), some (.int (nI b)), some (.int (nI f)), some (.int (nI t))] [] G M (QI G fun r M' => (∃ b, r = nI b ∧ ∀ j, b.testBit j = true ↔ cfB (cm c) k (c.now.people + 1) set j (c.now.people + 1)) ∧ M' = M) := by
          intro e
          induction e with
          | zero =>
            intro t b ht hlo hb
            have hfin : ∀ j, b.testBit j = true ↔ cfB (cm c) k (c.now.people + 1) set j (f + 1) := fun j => by
              rw [hb j]
              constructor
              · rintro (⟨f', q1, q2⟩ | ⟨t', q1, q2, q3⟩)
                · exact ⟨f', by omega, q2⟩
                · refine ⟨f, by omega, hs, t', ?_, ?_, q3⟩
                  · split at ht <;> omega
                  · unfold ap; split at ht <;> split <;> omega
              · rintro ⟨f', q1, q2, t', q3, q4, q5⟩
                by_cases e : f' = f
                · subst e
                  refine Or.inr ⟨t', ?_, ?_, q5⟩
                  · unfold ap at q4; split at q4 <;> omega
                  · unfold ap at q4; split at ht <;> split at q4 <;> omega
                · exact Or.inl ⟨f', by omega, q2, t', q3, q4, q5⟩
            have hmn := mn0 (x := c.now.people) (y := f + k) (by omega) (by omega)
            have hle : (if f + k < c.now.people then f + k else c.now.people) < 1000 := by split <;> omega
            refine E_iload d_Ou_comeFrom_34 rfl ?_
            first | refine E_aload_n d_Ou_comeFrom_36 rfl ?_ | refine E_aload_nN d_Ou_comeFrom_36 rfl ?_
            refine E_getI d_Ou_comeFrom_37 gf_Ou_31 (by first | exact hG.s (by decide) rfl) (by exact hO.1) ?_
            refine E_iload d_Ou_comeFrom_40 rfl ?_
            refine E_iload_n d_Ou_comeFrom_42 rfl ?_
            first | (with_reducible refine E_isN2 ?_; refine E_iaddN d_Ou_comeFrom_43 ?_) | refine E_iadd d_Ou_comeFrom_43 ?_
            refine E_minI d_Ou_comeFrom_44 ml_Ou_44 (by decide) (Nat.le_of_ble_eq_true rfl) ?_
            rw [hmn]
            first | (with_reducible refine E_isN2 ?_; refine E_icmp_gt 67 d_Ou_comeFrom_47 rfl (nb_lt (by omega) (by omega) fun h47 => ?_) (nb_nlt (by omega) (by omega) fun h47 => ?_)) | refine E_icmp_gt 67 d_Ou_comeFrom_47 rfl (fun h47 => ?_) (fun h47 => ?_)
            rotate_left
            · exfalso; omega
            exact up67 b _ hfin
          | succ e ihe =>
            intro t b ht hlo hb
            have hmn := mn0 (x := c.now.people) (y := f + k) (by omega) (by omega)
            have hle : (if f + k < c.now.people then f + k else c.now.people) ≤ c.now.people := by split <;> omega
            have hcm := cm_le c t
            have ih2 := ihe (t + 1) (b ||| 2 ^ cm c t) (by omega) (by omega) (fun j => by
              rw [tb_or2, Bool.or_eq_true, hb j, decide_eq_true_eq]
              constructor
              · rintro ((q | ⟨t', q1, q2, q3⟩) | q)
                · exact Or.inl q
                · exact Or.inr ⟨t', q1, by omega, q3⟩
                · exact Or.inr ⟨t, hlo, by omega, q⟩
              · rintro (q | ⟨t', q1, q2, q3⟩)
                · exact Or.inl (Or.inl q)
                · by_cases e : t' = t
                  · subst e; exact Or.inr q3
                  · exact Or.inl (Or.inr ⟨t', q1, by omega, q3⟩))
            refine E_iload d_Ou_comeFrom_34 rfl ?_
            first | refine E_aload_n d_Ou_comeFrom_36 rfl ?_ | refine E_aload_nN d_Ou_comeFrom_36 rfl ?_
            refine E_getI d_Ou_comeFrom_37 gf_Ou_31 (by first | exact hG.s (by decide) rfl) (by exact hO.1) ?_
            refine E_iload d_Ou_comeFrom_40 rfl ?_
            refine E_iload_n d_Ou_comeFrom_42 rfl ?_
            first | (with_reducible refine E_isN2 ?_; refine E_iaddN d_Ou_comeFrom_43 ?_) | refine E_iadd d_Ou_comeFrom_43 ?_
            refine E_minI d_Ou_comeFrom_44 ml_Ou_44 (by decide) (Nat.le_of_ble_eq_true rfl) ?_
            rw [hmn]
            first | (with_reducible refine E_isN2 ?_; refine E_icmp_gt 67 d_Ou_comeFrom_47 rfl (nb_lt (by omega) (by omega) fun h47 => ?_) (nb_nlt (by omega) (by omega) fun h47 => ?_)) | refine E_icmp_gt 67 d_Ou_comeFrom_47 rfl (fun h47 => ?_) (fun h47 => ?_)
            · exfalso; omega
            refine E_iload_n d_Ou_comeFrom_50 rfl ?_
            refine E_iconst (v := nI 1) d_Ou_comeFrom_51 rfl ?_
            first | refine E_aload_n d_Ou_comeFrom_52 rfl ?_ | refine E_aload_nN d_Ou_comeFrom_52 rfl ?_
            refine E_iload d_Ou_comeFrom_53 rfl ?_
            refine E_V1 (sp_Ou_comesOf h (by omega)) d_Ou_comeFrom_55 ml_Ou_35 cb_Ou_comesOf cv_Ou_comesOf (by first | exact hG.s (by decide) rfl) ⟨by decide, rfl⟩ ⟨by decide, by decide⟩ rfl (Nat.le_of_ble_eq_true rfl) (Nat.le_of_ble_eq_true rfl) (kI fun r1 M1 hc => ?_)
            obtain ⟨rfl, rfl⟩ := hc
            first | (with_reducible refine E_isN2 ?_; first | refine E_ishl1 d_Ou_comeFrom_58 (by omega) ?_ | refine E_ishlN d_Ou_comeFrom_58 (by omega) (by omega) ?_) | refine E_ishl d_Ou_comeFrom_58 ?_
            first | (with_reducible refine E_isN2 ?_; refine E_iorN d_Ou_comeFrom_59 ?_) | refine E_ior d_Ou_comeFrom_59 ?_
            refine E_istore_3 d_Ou_comeFrom_60 rfl ?_
            first | (with_reducible refine E_isL5 ?_; refine E_iincN5 (m := 1) d_Ou_comeFrom_61 rfl rfl ?_) | refine E_iinc_5 d_Ou_comeFrom_61 rfl rfl ?_
            refine E_goto 34 d_Ou_comeFrom_64 rfl ?_
            exact ih2
        have hmx := mx0 (f := f) (k := k) (by omega) (by omega)
        have L0 := LT ((if f + k < c.now.people then f + k else c.now.people) + 1 - (f - k)) (f - k) b (by split <;> omega) (Nat.le_refl _) (fun j => by
          rw [hb j]
          exact ⟨Or.inl, fun q => q.elim id (fun ⟨t', q1, q2, _⟩ => by omega)⟩)
        refine E_iload d_Ou_comeFrom_5 rfl ?_
        first | refine E_aload_n d_Ou_comeFrom_7 rfl ?_ | refine E_aload_nN d_Ou_comeFrom_7 rfl ?_
        refine E_getI d_Ou_comeFrom_8 gf_Ou_31 (by first | exact hG.s (by decide) rfl) (by exact hO.1) ?_
        first | (with_reducible refine E_isN2 ?_; refine E_icmp_gt 73 d_Ou_comeFrom_11 rfl (nb_lt (by omega) (by omega) fun h11 => ?_) (nb_nlt (by omega) (by omega) fun h11 => ?_)) | refine E_icmp_gt 73 d_Ou_comeFrom_11 rfl (fun h11 => ?_) (fun h11 => ?_)
        · exfalso; omega
        refine E_iload_n d_Ou_comeFrom_14 rfl ?_
        refine E_iload d_Ou_comeFrom_15 rfl ?_
        first | (with_reducible refine E_isN2 ?_; refine E_ishrN d_Ou_comeFrom_17 (by omega) (by omega) ?_) | refine E_ishr d_Ou_comeFrom_17 ?_
        refine E_iconst (v := nI 1) d_Ou_comeFrom_18 rfl ?_
        first | (with_reducible refine E_isN2 ?_; refine E_iandN d_Ou_comeFrom_19 ?_) | refine E_iand d_Ou_comeFrom_19 ?_
        refine E_iconst (v := nI 1) d_Ou_comeFrom_20 rfl ?_
        first | (with_reducible refine E_isN2 ?_; refine E_icmp_ne 67 d_Ou_comeFrom_21 rfl (nb_ne fun h21 => ?_) (nb_eq (by omega) (by omega) fun h21 => ?_)) | refine E_icmp_ne 67 d_Ou_comeFrom_21 rfl (fun h21 => ?_) (fun h21 => ?_)
        · exfalso; omega
        refine E_iconst (v := nI 0) d_Ou_comeFrom_24 rfl ?_
        refine E_iload d_Ou_comeFrom_25 rfl ?_
        refine E_iload_n d_Ou_comeFrom_27 rfl ?_
        first | (with_reducible refine E_isN2 ?_; refine E_isubN d_Ou_comeFrom_28 (by omega) ?_) | refine E_isub d_Ou_comeFrom_28 ?_
        refine E_maxI d_Ou_comeFrom_29 ml_Ou_59 (by decide) (Nat.le_of_ble_eq_true rfl) ?_
        rw [hmx]
        refine E_istore_5 d_Ou_comeFrom_32 rfl ?_
        exact L0
      · have hs0 : set / 2 ^ f &&& 1 ≠ 1 := fun q => hs ((tb_div _ _).mpr q)
        have hfin : ∀ j, b.testBit j = true ↔ cfB (cm c) k (c.now.people + 1) set j (f + 1) := fun j => by
          rw [hb j]
          constructor
          · rintro ⟨f', q1, q2⟩
            exact ⟨f', by omega, q2⟩
          · rintro ⟨f', q1, q2, q3⟩
            by_cases e : f' = f
            · subst e; exact absurd q2 hs
            · exact ⟨f', by omega, q2, q3⟩
        refine E_iload d_Ou_comeFrom_5 rfl ?_
        first | refine E_aload_n d_Ou_comeFrom_7 rfl ?_ | refine E_aload_nN d_Ou_comeFrom_7 rfl ?_
        refine E_getI d_Ou_comeFrom_8 gf_Ou_31 (by first | exact hG.s (by decide) rfl) (by exact hO.1) ?_
        first | (with_reducible refine E_isN2 ?_; refine E_icmp_gt 73 d_Ou_comeFrom_11 rfl (nb_lt (by omega) (by omega) fun h11 => ?_) (nb_nlt (by omega) (by omega) fun h11 => ?_)) | refine E_icmp_gt 73 d_Ou_comeFrom_11 rfl (fun h11 => ?_) (fun h11 => ?_)
        · exfalso; omega
        refine E_iload_n d_Ou_comeFrom_14 rfl ?_
        refine E_iload d_Ou_comeFrom_15 rfl ?_
        first | (with_reducible refine E_isN2 ?_; refine E_ishrN d_Ou_comeFrom_17 (by omega) (by omega) ?_) | refine E_ishr d_Ou_comeFrom_17 ?_
        refine E_iconst (v := nI 1) d_Ou_comeFrom_18 rfl ?_
        first | (with_reducible refine E_isN2 ?_; refine E_iandN d_Ou_comeFrom_19 ?_) | refine E_iand d_Ou_comeFrom_19 ?_
        refine E_iconst (v := nI 1) d_Ou_comeFrom_20 rfl ?_
        first | (with_reducible refine E_isN2 ?_; refine E_icmp_ne 67 d_Ou_comeFrom_21 rfl (nb_ne fun h21 => ?_) (nb_eq (by omega) (by omega) fun h21 => ?_)) | refine E_icmp_ne 67 d_Ou_comeFrom_21 rfl (fun h21 => ?_) (fun h21 => ?_)
        rotate_left
        · exfalso; omega
        exact up67 b _ hfin
  refine E_iconst (v := nI 0) d_Ou_comeFrom_0 rfl ?_
  refine E_istore_3 d_Ou_comeFrom_1 rfl ?_
  refine E_iconst (v := nI 0) d_Ou_comeFrom_2 rfl ?_
  refine E_istore_4 d_Ou_comeFrom_3 rfl ?_
  exact LF (c.now.people + 1) 0 0 (Nat.zero_add _) (fun j => ⟨fun q => by rw [Nat.zero_testBit] at q; exact Bool.noConfusion q, fun ⟨f', q, _⟩ => absurd q (Nat.not_lt_zero f')⟩)
theorem sp_Ou_fewestTellings (h : OM c G M) {a b k : Nat} (ha : a ≤ c.now.people) (hb : b ≤ c.now.people) (hk : k ≤ 8) : E 3 0 0 Y_Ou_fewestTellings 0 [some (.ref 216), some (.int (nI a)), some (.int (nI b)), some (.int (nI k)), none, none] [] G M (QI G fun r M' => r = pathA (cm c) b k (c.now.people + 1) 10 0 (2 ^ a) ∧ M' = M) := by
  have hp8 := h.2.2.2.p8
  have hG := h.1
  have hO := h.2.2.1
  have hg : ∀ f, cm c f < c.now.people + 1 := fun f => Nat.lt_succ_of_le (cm_le c f)
  rw [path_m (by omega) hg (by omega)]
  have L : ∀ j n R, n + j = c.now.people + 1 + 1 → pathA (cm c) b k (c.now.people + 1) j n (lev (cm c) k (c.now.people + 1) a n) = R → E 3 0 0 Y_Ou_fewestTellings 8 [some (.ref 216), some (.int (nI a)), some (.int (nI b)), some (.int (nI k)), some (.int (nI (lev (cm c) k (c.now.people + 1) a n))), some (.int (nI n))] [] G M (QI G fun r M' => r = R ∧ M' = M) := by
    intro j
    induction j with
    | zero =>
      intro n R hn hv
      rw [pathA] at hv
      refine E_iload d_Ou_fewestTellings_8 rfl ?_
      first | refine E_aload_n d_Ou_fewestTellings_10 rfl ?_ | refine E_aload_nN d_Ou_fewestTellings_10 rfl ?_
      refine E_getI d_Ou_fewestTellings_11 gf_Ou_31 (by first | exact hG.s (by decide) rfl) (by exact hO.1) ?_
      refine E_iconst (v := nI 1) d_Ou_fewestTellings_14 rfl ?_
      first | (with_reducible refine E_isN2 ?_; refine E_iaddN d_Ou_fewestTellings_15 ?_) | refine E_iadd d_Ou_fewestTellings_15 ?_
      first | (with_reducible refine E_isN2 ?_; refine E_icmp_gt 50 d_Ou_fewestTellings_16 rfl (nb_lt (by omega) (by omega) fun h16 => ?_) (nb_nlt (by omega) (by omega) fun h16 => ?_)) | refine E_icmp_gt 50 d_Ou_fewestTellings_16 rfl (fun h16 => ?_) (fun h16 => ?_)
      rotate_left
      · exfalso; omega
      refine E_iconst (v := (-1)) d_Ou_fewestTellings_50 rfl ?_
      refine E_retI d_Ou_fewestTellings_51 rfl ?_
      exact ⟨hv, rfl⟩
    | succ j ih =>
      intro n R hn hv
      rw [pathA] at hv
      have hl : lev (cm c) k (c.now.people + 1) a n < 2 ^ (c.now.people + 1) := lt_of_bits fun i hi => by
        rw [Bool.eq_false_iff]
        intro q
        have := lev_le hg (show a < c.now.people + 1 by omega) n i q
        omega
      have hl2 : lev (cm c) k (c.now.people + 1) a n < 512 := Nat.lt_of_lt_of_le hl (show 2 ^ (c.now.people + 1) ≤ 2 ^ 9 from Nat.pow_le_pow_right (by decide) (by omega))
      have ha1 : lev (cm c) k (c.now.people + 1) a n / 2 ^ b &&& 1 ≤ 1 := Nat.and_le_right
      have i1 : lev (cm c) k (c.now.people + 1) a n / 2 ^ b &&& 1 = 1 → nI n = R := fun q => by rw [if_pos ((tb_div _ _).mpr q)] at hv; exact hv
      have i0 : lev (cm c) k (c.now.people + 1) a n / 2 ^ b &&& 1 ≠ 1 → pathA (cm c) b k (c.now.people + 1) j (n + 1) (lev (cm c) k (c.now.people + 1) a (n + 1)) = R := fun q => by rw [if_neg (fun r => q ((tb_div _ _).mp r))] at hv; exact hv
      refine E_iload d_Ou_fewestTellings_8 rfl ?_
      first | refine E_aload_n d_Ou_fewestTellings_10 rfl ?_ | refine E_aload_nN d_Ou_fewestTellings_10 rfl ?_
      refine E_getI d_Ou_fewestTellings_11 gf_Ou_31 (by first | exact hG.s (by decide) rfl) (by exact hO.1) ?_
      refine E_iconst (v := nI 1) d_Ou_fewestTellings_14 rfl ?_
      first | (with_reducible refine E_isN2 ?_; refine E_iaddN d_Ou_fewestTellings_15 ?_) | refine E_iadd d_Ou_fewestTellings_15 ?_
      first | (with_reducible refine E_isN2 ?_; refine E_icmp_gt 50 d_Ou_fewestTellings_16 rfl (nb_lt (by omega) (by omega) fun h16 => ?_) (nb_nlt (by omega) (by omega) fun h16 => ?_)) | refine E_icmp_gt 50 d_Ou_fewestTellings_16 rfl (fun h16 => ?_) (fun h16 => ?_)
      · exfalso; omega
      refine E_iload d_Ou_fewestTellings_19 rfl ?_
      refine E_iload_n d_Ou_fewestTellings_21 rfl ?_
      first | (with_reducible refine E_isN2 ?_; refine E_ishrN d_Ou_fewestTellings_22 (by omega) (by omega) ?_) | refine E_ishr d_Ou_fewestTellings_22 ?_
      refine E_iconst (v := nI 1) d_Ou_fewestTellings_23 rfl ?_
      first | (with_reducible refine E_isN2 ?_; refine E_iandN d_Ou_fewestTellings_24 ?_) | refine E_iand d_Ou_fewestTellings_24 ?_
      refine E_iconst (v := nI 1) d_Ou_fewestTellings_25 rfl ?_
      first | (with_reducible refine E_isN2 ?_; refine E_icmp_ne 32 d_Ou_fewestTellings_26 rfl (nb_ne fun h26 => ?_) (nb_eq (by omega) (by omega) fun h26 => ?_)) | refine E_icmp_ne 32 d_Ou_fewestTellings_26 rfl (fun h26 => ?_) (fun h26 => ?_)
      · refine E_iload d_Ou_fewestTellings_32 rfl ?_
        first | refine E_aload_n d_Ou_fewestTellings_34 rfl ?_ | refine E_aload_nN d_Ou_fewestTellings_34 rfl ?_
        refine E_iload d_Ou_fewestTellings_35 rfl ?_
        refine E_iload_n d_Ou_fewestTellings_37 rfl ?_
        refine E_V2 (sp_Ou_comeFrom h hl2 hk) d_Ou_fewestTellings_38 ml_Ou_56 cb_Ou_comeFrom cv_Ou_comeFrom (by first | exact hG.s (by decide) rfl) ⟨by decide, rfl⟩ ⟨by decide, by decide⟩ rfl (Nat.le_of_ble_eq_true rfl) (Nat.le_of_ble_eq_true rfl) (kI fun r1 M1 hc => ?_)
        obtain ⟨⟨w, rfl, hw⟩, rfl⟩ := hc
        have ew : lev (cm c) k (c.now.people + 1) a n ||| w = lev (cm c) k (c.now.people + 1) a (n + 1) := Nat.eq_of_testBit_eq fun j => by
          have e1 := hw j
          have e2 := moreF_bit (g := cm c) (k := k) (m := c.now.people + 1) (set := lev (cm c) k (c.now.people + 1) a n) (j := j) (c.now.people + 1)
          rw [Nat.testBit_or, lev]
          rw [Bool.eq_iff_iff, Bool.or_eq_true, e1, e2]
        first | (with_reducible refine E_isN2 ?_; refine E_iorN d_Ou_fewestTellings_41 ?_) | refine E_ior d_Ou_fewestTellings_41 ?_
        rw [ew]
        refine E_istore_4 d_Ou_fewestTellings_42 rfl ?_
        first | (with_reducible refine E_isL5 ?_; refine E_iincN5 (m := 1) d_Ou_fewestTellings_44 rfl rfl ?_) | refine E_iinc_5 d_Ou_fewestTellings_44 rfl rfl ?_
        refine E_goto 8 d_Ou_fewestTellings_47 rfl ?_
        exact ih (n + 1) R (by omega) (i0 h26)
      · refine E_iload d_Ou_fewestTellings_29 rfl ?_
        refine E_retI d_Ou_fewestTellings_31 rfl ?_
        exact ⟨i1 h26, rfl⟩
  refine E_iconst (v := nI 1) d_Ou_fewestTellings_0 rfl ?_
  refine E_iload_n d_Ou_fewestTellings_1 rfl ?_
  first | (with_reducible refine E_isN2 ?_; first | refine E_ishl1 d_Ou_fewestTellings_2 (by omega) ?_ | refine E_ishlN d_Ou_fewestTellings_2 (by omega) (by omega) ?_) | refine E_ishl d_Ou_fewestTellings_2 ?_
  refine E_istore_4 d_Ou_fewestTellings_3 rfl ?_
  refine E_iconst (v := nI 0) d_Ou_fewestTellings_5 rfl ?_
  refine E_istore_5 d_Ou_fewestTellings_6 rfl ?_
  exact L (c.now.people + 1 + 1) 0 _ (Nat.zero_add _) rfl
end OuE
