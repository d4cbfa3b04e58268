theorem moreT_lt {g : Nat → Nat} (hg : ∀ f, g f ≤ 8) (k set f : Nat) : ∀ n acc, acc < 512 → moreT g k set f n acc < 512 := by
  intro n
  induction n with
  | zero => intro acc h; exact h
  | succ n ih =>
    intro acc h
    rw [moreT]
    split
    · exact or_lt (n := 9) (ih acc h) (Nat.pow_lt_pow_right (by decide) (by have := hg n; omega))
    · exact ih acc h
theorem moreF_lt {g : Nat → Nat} (hg : ∀ f, g f ≤ 8) {k set : Nat} (m : Nat) (hs : set < 512) : ∀ n, moreF g k set m n < 512 := by
  intro n
  induction n with
  | zero => exact hs
  | succ n ih => exact moreT_lt hg _ _ _ _ _ ih
theorem lp_TM_path3 {c : Cr} {M : Mem} {x y k n f set acc : Nat} {Q : Option Value → Geo → Mem → Prop} (hM : HM c M) (hN : HN c M) (hk : k ≤ 8) (hs : set < 512) (hacc : acc < 512) (hf : f ≤ c.now.people)
    (K : E 8 0 0 Y_TM_path 132 [some (.ref 0), some (.int (nI x)), some (.int (nI y)), some (.int (nI k)), some (.int (nI set)), some (.int (nI n)), some (.int (nI (moreT (cm c) k set f (c.now.people + 1) acc))), some (.int (nI f)), some (.int (nI (c.now.people + 1)))] [] GM M Q) :
    ∀ (j t : Nat), t + j = c.now.people + 1 → E 8 0 0 Y_TM_path 80 [some (.ref 0), some (.int (nI x)), some (.int (nI y)), some (.int (nI k)), some (.int (nI set)), some (.int (nI n)), some (.int (nI (moreT (cm c) k set f t acc))), some (.int (nI f)), some (.int (nI t))] [] GM M Q := by
  have hR := hM.R
  have hA := hM.A
  have hp8 := hM.w.p8
  have hg : ∀ f, cm c f ≤ 8 := fun f => Nat.le_trans (cm_le c f) hp8
  intro j
  induction j with
  | zero =>
    intro t ht
    have ht2 : t = c.now.people + 1 := by omega
    subst ht2
    refine E_iload d_TM_path_80 rfl ?_
    first | refine E_aload_n d_TM_path_82 rfl ?_ | refine E_aload_nN d_TM_path_82 rfl ?_
    refine E_getR (q := 1) d_TM_path_83 gf_TM_7 (by exact ⟨by decide, rfl⟩) (by exact hR _ rfl) ?_
    refine E_iconst (v := nI 0) d_TM_path_86 rfl ?_
    refine E_iald d_TM_path_87 (by exact ⟨by decide, rfl⟩) (by exact ⟨by with_reducible rfl, by omega, by decide⟩) (by first | exact hA.people | exact hA.figure | exact hA.lean (by omega) | exact hN _ (by omega) | exact hA.hears (by omega) | rfl) ?_
    first | (with_reducible refine E_isN2 ?_; refine E_icmp_gt 132 d_TM_path_88 rfl (nb_lt (by omega) (by omega) fun h88 => ?_) (nb_nlt (by omega) (by omega) fun h88 => ?_)) | refine E_icmp_gt 132 d_TM_path_88 rfl (fun h88 => ?_) (fun h88 => ?_)
    rotate_left
    · exfalso; omega
    exact K
  | succ j ih =>
    intro t ht
    have hgt := hg t
    have ha := ap_le (v := f) (w := t) (n := 8) (by omega) (by omega)
    have e : moreT (cm c) k set f (t + 1) acc = if set.testBit f = true ∧ ap f t ≤ k then moreT (cm c) k set f t acc ||| 2 ^ cm c t else moreT (cm c) k set f t acc := rfl
    refine E_iload d_TM_path_80 rfl ?_
    first | refine E_aload_n d_TM_path_82 rfl ?_ | refine E_aload_nN d_TM_path_82 rfl ?_
    refine E_getR (q := 1) d_TM_path_83 gf_TM_7 (by exact ⟨by decide, rfl⟩) (by exact hR _ rfl) ?_
    refine E_iconst (v := nI 0) d_TM_path_86 rfl ?_
    refine E_iald d_TM_path_87 (by exact ⟨by decide, rfl⟩) (by exact ⟨by with_reducible rfl, by omega, by decide⟩) (by first | exact hA.people | exact hA.figure | exact hA.lean (by omega) | exact hN _ (by omega) | exact hA.hears (by omega) | rfl) ?_
    first | (with_reducible refine E_isN2 ?_; refine E_icmp_gt 132 d_TM_path_88 rfl (nb_lt (by omega) (by omega) fun h88 => ?_) (nb_nlt (by omega) (by omega) fun h88 => ?_)) | refine E_icmp_gt 132 d_TM_path_88 rfl (fun h88 => ?_) (fun h88 => ?_)
    · exfalso; omega
    refine E_iload d_TM_path_91 rfl ?_
    refine E_iload d_TM_path_93 rfl ?_
    refine E_S2 (sp_TM_has _ _ (by omega) (by omega)) d_TM_path_95 ml_TM_229 cb_TM_has cs_TM_has ⟨by decide, by decide⟩ rfl (Nat.le_of_ble_eq_true rfl) (Nat.le_of_ble_eq_true rfl) (kI fun r1 M1 hc => ?_)
    obtain ⟨rfl, rfl⟩ := hc
    first | (with_reducible refine E_isP ?_; refine E_if_eq 126 d_TM_path_98 rfl (pb_0 fun h98 => ?_) (pb_1 fun h98 => ?_)) | (with_reducible refine E_isN1 ?_; refine E_if_eq 126 d_TM_path_98 rfl (nz_eq (by omega) fun h98 => ?_) (nz_ne fun h98 => ?_)) | refine E_if_eq 126 d_TM_path_98 rfl (fun h98 => ?_) (fun h98 => ?_)
    · first | (with_reducible refine E_isL8 ?_; refine E_iincN8 (m := 1) d_TM_path_126 rfl rfl ?_) | refine E_iinc_8 d_TM_path_126 rfl rfl ?_
      refine E_goto 80 d_TM_path_129 rfl ?_
      refine E_eqL ?_ (ih (t + 1) (by omega))
      rw [e]
      first | rw [if_pos (And.intro h98 h109)] | rw [if_neg (fun q : set.testBit f = true ∧ ap f t ≤ k => h98 q.1)] | rw [if_neg (fun q : set.testBit f = true ∧ ap f t ≤ k => absurd q.2 (Nat.not_le.mpr h109))]
    · refine E_iload d_TM_path_101 rfl ?_
      refine E_iload d_TM_path_103 rfl ?_
      refine E_S2 (sp_TM_apartBy (by omega) (by omega)) d_TM_path_105 ml_TM_371 cb_TM_apartBy cs_TM_apartBy ⟨by decide, by decide⟩ rfl (Nat.le_of_ble_eq_true rfl) (Nat.le_of_ble_eq_true rfl) (kI fun r1 M1 hc => ?_)
      obtain ⟨rfl, rfl⟩ := hc
      refine E_iload_n d_TM_path_108 rfl ?_
      first | (with_reducible refine E_isN2 ?_; refine E_icmp_gt 126 d_TM_path_109 rfl (nb_lt (by omega) (by omega) fun h109 => ?_) (nb_nlt (by omega) (by omega) fun h109 => ?_)) | refine E_icmp_gt 126 d_TM_path_109 rfl (fun h109 => ?_) (fun h109 => ?_)
      · first | (with_reducible refine E_isL8 ?_; refine E_iincN8 (m := 1) d_TM_path_126 rfl rfl ?_) | refine E_iinc_8 d_TM_path_126 rfl rfl ?_
        refine E_goto 80 d_TM_path_129 rfl ?_
        refine E_eqL ?_ (ih (t + 1) (by omega))
        rw [e]
        first | rw [if_pos (And.intro h98 h109)] | rw [if_neg (fun q : set.testBit f = true ∧ ap f t ≤ k => h98 q.1)] | rw [if_neg (fun q : set.testBit f = true ∧ ap f t ≤ k => absurd q.2 (Nat.not_le.mpr h109))]
      · refine E_iload d_TM_path_112 rfl ?_
        refine E_iconst (v := nI 1) d_TM_path_114 rfl ?_
        first | refine E_aload_n d_TM_path_115 rfl ?_ | refine E_aload_nN d_TM_path_115 rfl ?_
        refine E_getR (q := 11) d_TM_path_116 gf_TM_53 (by exact ⟨by decide, rfl⟩) (by exact hR _ rfl) ?_
        refine E_iload d_TM_path_119 rfl ?_
        refine E_iald d_TM_path_121 (by exact ⟨by decide, rfl⟩) (by exact ⟨by with_reducible rfl, by omega, by decide⟩) (by first | exact hA.people | exact hA.figure | exact hA.lean (by omega) | exact hN _ (by omega) | exact hA.hears (by omega) | rfl) ?_
        first | (with_reducible refine E_isN2 ?_; first | refine E_ishl1 d_TM_path_122 (by omega) ?_ | refine E_ishlN d_TM_path_122 (by omega) (by omega) ?_) | refine E_ishl d_TM_path_122 ?_
        first | (with_reducible refine E_isN2 ?_; refine E_iorN d_TM_path_123 ?_) | refine E_ior d_TM_path_123 ?_
        refine E_istore_6 d_TM_path_124 rfl ?_
        first | (with_reducible refine E_isL8 ?_; refine E_iincN8 (m := 1) d_TM_path_126 rfl rfl ?_) | refine E_iinc_8 d_TM_path_126 rfl rfl ?_
        refine E_goto 80 d_TM_path_129 rfl ?_
        refine E_eqL ?_ (ih (t + 1) (by omega))
        rw [e]
        first | rw [if_pos (And.intro h98 h109)] | rw [if_neg (fun q : set.testBit f = true ∧ ap f t ≤ k => h98 q.1)] | rw [if_neg (fun q : set.testBit f = true ∧ ap f t ≤ k => absurd q.2 (Nat.not_le.mpr h109))]
theorem lp_TM_path2 {c : Cr} {M : Mem} {x y k n set : Nat} {Q : Option Value → Geo → Mem → Prop} (hM : HM c M) (hN : HN c M) (hk : k ≤ 8) (hs : set < 512)
    (K : E 8 0 0 Y_TM_path 138 [some (.ref 0), some (.int (nI x)), some (.int (nI y)), some (.int (nI k)), some (.int (nI set)), some (.int (nI n)), some (.int (nI (moreF (cm c) k set (c.now.people + 1) (c.now.people + 1)))), none, none] [] GM M Q) :
    ∀ (j f : Nat), f + j = c.now.people + 1 → E 8 0 0 Y_TM_path 66 [some (.ref 0), some (.int (nI x)), some (.int (nI y)), some (.int (nI k)), some (.int (nI set)), some (.int (nI n)), some (.int (nI (moreF (cm c) k set (c.now.people + 1) f))), some (.int (nI f)), none] [] GM M Q := by
  have hR := hM.R
  have hA := hM.A
  have hp8 := hM.w.p8
  have hg : ∀ f, cm c f ≤ 8 := fun f => Nat.le_trans (cm_le c f) hp8
  intro j
  induction j with
  | zero =>
    intro f hf
    have hf2 : f = c.now.people + 1 := by omega
    subst hf2
    refine E_iload d_TM_path_66 rfl ?_
    first | refine E_aload_n d_TM_path_68 rfl ?_ | refine E_aload_nN d_TM_path_68 rfl ?_
    refine E_getR (q := 1) d_TM_path_69 gf_TM_7 (by exact ⟨by decide, rfl⟩) (by exact hR _ rfl) ?_
    refine E_iconst (v := nI 0) d_TM_path_72 rfl ?_
    refine E_iald d_TM_path_73 (by exact ⟨by decide, rfl⟩) (by exact ⟨by with_reducible rfl, by omega, by decide⟩) (by first | exact hA.people | exact hA.figure | exact hA.lean (by omega) | exact hN _ (by omega) | exact hA.hears (by omega) | rfl) ?_
    first | (with_reducible refine E_isN2 ?_; refine E_icmp_gt 138 d_TM_path_74 rfl (nb_lt (by omega) (by omega) fun h74 => ?_) (nb_nlt (by omega) (by omega) fun h74 => ?_)) | refine E_icmp_gt 138 d_TM_path_74 rfl (fun h74 => ?_) (fun h74 => ?_)
    rotate_left
    · exfalso; omega
    refine E_wk ?_ K; exact ⟨Or.inl rfl, Or.inl rfl, Or.inl rfl, Or.inl rfl, Or.inl rfl, Or.inl rfl, Or.inl rfl, Or.inr rfl, Or.inl rfl, trivial⟩
  | succ j ih =>
    intro f hf
    have hl := moreF_lt hg (k := k) (c.now.people + 1) hs f
    have K2 : E 8 0 0 Y_TM_path 132 [some (.ref 0), some (.int (nI x)), some (.int (nI y)), some (.int (nI k)), some (.int (nI set)), some (.int (nI n)), some (.int (nI (moreT (cm c) k set f (c.now.people + 1) (moreF (cm c) k set (c.now.people + 1) f)))), some (.int (nI f)), some (.int (nI (c.now.people + 1)))] [] GM M Q := by
      first | (with_reducible refine E_isL7 ?_; refine E_iincN7 (m := 1) d_TM_path_132 rfl rfl ?_) | refine E_iinc_7 d_TM_path_132 rfl rfl ?_
      refine E_goto 66 d_TM_path_135 rfl ?_
      refine E_wk ?_ (ih (f + 1) (by omega)); exact ⟨Or.inl rfl, Or.inl rfl, Or.inl rfl, Or.inl rfl, Or.inl rfl, Or.inl rfl, Or.inl rfl, Or.inl rfl, Or.inr rfl, trivial⟩
    refine E_iload d_TM_path_66 rfl ?_
    first | refine E_aload_n d_TM_path_68 rfl ?_ | refine E_aload_nN d_TM_path_68 rfl ?_
    refine E_getR (q := 1) d_TM_path_69 gf_TM_7 (by exact ⟨by decide, rfl⟩) (by exact hR _ rfl) ?_
    refine E_iconst (v := nI 0) d_TM_path_72 rfl ?_
    refine E_iald d_TM_path_73 (by exact ⟨by decide, rfl⟩) (by exact ⟨by with_reducible rfl, by omega, by decide⟩) (by first | exact hA.people | exact hA.figure | exact hA.lean (by omega) | exact hN _ (by omega) | exact hA.hears (by omega) | rfl) ?_
    first | (with_reducible refine E_isN2 ?_; refine E_icmp_gt 138 d_TM_path_74 rfl (nb_lt (by omega) (by omega) fun h74 => ?_) (nb_nlt (by omega) (by omega) fun h74 => ?_)) | refine E_icmp_gt 138 d_TM_path_74 rfl (fun h74 => ?_) (fun h74 => ?_)
    · exfalso; omega
    refine E_iconst (v := nI 0) d_TM_path_77 rfl ?_
    refine E_istore_8 d_TM_path_78 rfl ?_
    exact lp_TM_path3 hM hN hk hs hl (by omega) K2 (c.now.people + 1) 0 (by omega)
theorem lp_TM_path1 {c : Cr} {M M0 : Mem} {x y k : Nat} (hM : HM c M) (hN : HN c M) (hS : Sx SQ M0 M) (hy : y ≤ 8) (hk : k ≤ 8) {R : Int32} :
    ∀ (j n set : Nat), n + j = 10 → set < 512 → pathA (cm c) y k (c.now.people + 1) j n set = R → E 8 0 0 Y_TM_path 40 [some (.ref 0), some (.int (nI x)), some (.int (nI y)), some (.int (nI k)), some (.int (nI set)), some (.int (nI n)), none, none, none] [] GM M (QI GM fun r M' => r = R ∧ Sx SQ M0 M') := by
  have hp8 := hM.w.p8
  have hg : ∀ f, cm c f ≤ 8 := fun f => Nat.le_trans (cm_le c f) hp8
  intro j
  induction j with
  | zero =>
    intro n set hn hs hv
    refine E_iload d_TM_path_40 rfl ?_
    refine E_bipush (v := nI 9) d_TM_path_42 (by decide) ?_
    first | (with_reducible refine E_isN2 ?_; refine E_icmp_gt 148 d_TM_path_44 rfl (nb_lt (by omega) (by omega) fun h44 => ?_) (nb_nlt (by omega) (by omega) fun h44 => ?_)) | refine E_icmp_gt 148 d_TM_path_44 rfl (fun h44 => ?_) (fun h44 => ?_)
    rotate_left
    · exfalso; omega
    refine E_iconst (v := (-1)) d_TM_path_148 rfl ?_
    refine E_retI d_TM_path_149 rfl ?_
    exact ⟨hv, hS⟩
  | succ j ih =>
    intro n set hn hs hv
    rw [pathA] at hv
    have hl := moreF_lt hg (k := k) (c.now.people + 1) hs (c.now.people + 1)
    by_cases hb : set.testBit y = true
    · rw [if_pos hb] at hv
      refine E_iload d_TM_path_40 rfl ?_
      refine E_bipush (v := nI 9) d_TM_path_42 (by decide) ?_
      first | (with_reducible refine E_isN2 ?_; refine E_icmp_gt 148 d_TM_path_44 rfl (nb_lt (by omega) (by omega) fun h44 => ?_) (nb_nlt (by omega) (by omega) fun h44 => ?_)) | refine E_icmp_gt 148 d_TM_path_44 rfl (fun h44 => ?_) (fun h44 => ?_)
      · exfalso; omega
      refine E_iload d_TM_path_47 rfl ?_
      refine E_iload_n d_TM_path_49 rfl ?_
      refine E_S2 (sp_TM_has _ _ (by omega) (by omega)) d_TM_path_50 ml_TM_229 cb_TM_has cs_TM_has ⟨by decide, by decide⟩ rfl (Nat.le_of_ble_eq_true rfl) (Nat.le_of_ble_eq_true rfl) (kI fun r1 M1 hc => ?_)
      obtain ⟨rfl, rfl⟩ := hc
      first | (with_reducible refine E_isP ?_; refine E_if_eq 59 d_TM_path_53 rfl (pb_0 fun h53 => ?_) (pb_1 fun h53 => ?_)) | (with_reducible refine E_isN1 ?_; refine E_if_eq 59 d_TM_path_53 rfl (nz_eq (by omega) fun h53 => ?_) (nz_ne fun h53 => ?_)) | refine E_if_eq 59 d_TM_path_53 rfl (fun h53 => ?_) (fun h53 => ?_)
      · exfalso; exact h53 hb
      refine E_iload d_TM_path_56 rfl ?_
      refine E_retI d_TM_path_58 rfl ?_
      exact ⟨hv, hS⟩
    · rw [if_neg hb] at hv
      have K : E 8 0 0 Y_TM_path 138 [some (.ref 0), some (.int (nI x)), some (.int (nI y)), some (.int (nI k)), some (.int (nI set)), some (.int (nI n)), some (.int (nI (moreF (cm c) k set (c.now.people + 1) (c.now.people + 1)))), none, none] [] GM M (QI GM fun r M' => r = R ∧ Sx SQ M0 M') := by
        refine E_iload d_TM_path_138 rfl ?_
        refine E_istore_4 d_TM_path_140 rfl ?_
        first | (with_reducible refine E_isL5 ?_; refine E_iincN5 (m := 1) d_TM_path_142 rfl rfl ?_) | refine E_iinc_5 d_TM_path_142 rfl rfl ?_
        refine E_goto 40 d_TM_path_145 rfl ?_
        refine E_wk ?_ (ih (n + 1) _ (by omega) hl hv); exact ⟨Or.inl rfl, Or.inl rfl, Or.inl rfl, Or.inl rfl, Or.inl rfl, Or.inl rfl, Or.inr rfl, Or.inl rfl, Or.inl rfl, trivial⟩
      refine E_iload d_TM_path_40 rfl ?_
      refine E_bipush (v := nI 9) d_TM_path_42 (by decide) ?_
      first | (with_reducible refine E_isN2 ?_; refine E_icmp_gt 148 d_TM_path_44 rfl (nb_lt (by omega) (by omega) fun h44 => ?_) (nb_nlt (by omega) (by omega) fun h44 => ?_)) | refine E_icmp_gt 148 d_TM_path_44 rfl (fun h44 => ?_) (fun h44 => ?_)
      · exfalso; omega
      refine E_iload d_TM_path_47 rfl ?_
      refine E_iload_n d_TM_path_49 rfl ?_
      refine E_S2 (sp_TM_has _ _ (by omega) (by omega)) d_TM_path_50 ml_TM_229 cb_TM_has cs_TM_has ⟨by decide, by decide⟩ rfl (Nat.le_of_ble_eq_true rfl) (Nat.le_of_ble_eq_true rfl) (kI fun r1 M1 hc => ?_)
      obtain ⟨rfl, rfl⟩ := hc
      first | (with_reducible refine E_isP ?_; refine E_if_eq 59 d_TM_path_53 rfl (pb_0 fun h53 => ?_) (pb_1 fun h53 => ?_)) | (with_reducible refine E_isN1 ?_; refine E_if_eq 59 d_TM_path_53 rfl (nz_eq (by omega) fun h53 => ?_) (nz_ne fun h53 => ?_)) | refine E_if_eq 59 d_TM_path_53 rfl (fun h53 => ?_) (fun h53 => ?_)
      rotate_left
      · exfalso; exact hb h53
      refine E_iload d_TM_path_59 rfl ?_
      refine E_istore_6 d_TM_path_61 rfl ?_
      refine E_iconst (v := nI 0) d_TM_path_63 rfl ?_
      refine E_istore_7 d_TM_path_64 rfl ?_
      exact lp_TM_path2 hM hN hk hs K (c.now.people + 1) 0 (by omega)
theorem sp_TM_path {c : Cr} {M : Mem} (hM : HM c M) (x y z : Int32) : E 8 0 0 Y_TM_path 0 [some (.ref 0), some (.int x), some (.int y), some (.int z), none, none, none, none, none] [] GM M (QI GM fun r M' => r = ans_path c x y z ∧ Sx SQ M M') := by
  have hp8 := hM.w.p8
  revert z
  refine args1 9 (fun q hq hz ht3 => ?_) (fun z hz => ?_)
  · revert x y
    refine args2 (c.now.people + 1) (c.now.people + 1) (fun k j hk hx ht hj hy ht2 => ?_) (fun x y hx => ?_) (fun x y hx hy => ?_)
    · have h2k : 2 ^ k < 512 := show 2 ^ k < 2 ^ 9 from Nat.pow_lt_pow_right (by decide) (by omega)
      first | refine E_aload_n d_TM_path_0 rfl ?_ | refine E_aload_nN d_TM_path_0 rfl ?_
      refine E_iload_n d_TM_path_1 rfl ?_
      refine E_V1 (sp_TM_canBeTold hM.R hM.A hM.w _) d_TM_path_2 ml_TM_311 cb_TM_canBeTold cv_TM_canBeTold (by exact ⟨by decide, rfl⟩) ⟨by decide, rfl⟩ ⟨by decide, by decide⟩ rfl (Nat.le_of_ble_eq_true rfl) (Nat.le_of_ble_eq_true rfl) (kI fun r1 M1 hc => ?_)
      obtain ⟨rfl, rfl⟩ := hc
      first | (with_reducible refine E_isP ?_; refine E_if_eq 26 d_TM_path_5 rfl (pb_0 fun h5 => ?_) (pb_1 fun h5 => ?_)) | (with_reducible refine E_isN1 ?_; refine E_if_eq 26 d_TM_path_5 rfl (nz_eq (by omega) fun h5 => ?_) (nz_ne fun h5 => ?_)) | refine E_if_eq 26 d_TM_path_5 rfl (fun h5 => ?_) (fun h5 => ?_)
      · exfalso; exact h5 hx
      first | refine E_aload_n d_TM_path_8 rfl ?_ | refine E_aload_nN d_TM_path_8 rfl ?_
      refine E_iload_n d_TM_path_9 rfl ?_
      refine E_V1 (sp_TM_canBeTold hM.R hM.A hM.w _) d_TM_path_10 ml_TM_311 cb_TM_canBeTold cv_TM_canBeTold (by exact ⟨by decide, rfl⟩) ⟨by decide, rfl⟩ ⟨by decide, by decide⟩ rfl (Nat.le_of_ble_eq_true rfl) (Nat.le_of_ble_eq_true rfl) (kI fun r1 M1 hc => ?_)
      obtain ⟨rfl, rfl⟩ := hc
      first | (with_reducible refine E_isP ?_; refine E_if_eq 26 d_TM_path_13 rfl (pb_0 fun h13 => ?_) (pb_1 fun h13 => ?_)) | (with_reducible refine E_isN1 ?_; refine E_if_eq 26 d_TM_path_13 rfl (nz_eq (by omega) fun h13 => ?_) (nz_ne fun h13 => ?_)) | refine E_if_eq 26 d_TM_path_13 rfl (fun h13 => ?_) (fun h13 => ?_)
      · exfalso; exact h13 hy
      refine E_iload_n d_TM_path_16 rfl ?_
      refine E_iconst (v := nI 0) d_TM_path_17 rfl ?_
      refine E_bipush (v := nI 8) d_TM_path_18 (by decide) ?_
      refine E_S3 (sp_TM_in _ 8 (by decide)) d_TM_path_20 ml_TM_69 cb_TM_isIn cs_TM_isIn ⟨by decide, by decide⟩ rfl (Nat.le_of_ble_eq_true rfl) (Nat.le_of_ble_eq_true rfl) (kI fun r1 M1 hc => ?_)
      obtain ⟨rfl, rfl⟩ := hc
      first | (with_reducible refine E_isP ?_; refine E_if_ne 28 d_TM_path_23 rfl (pb_1 fun h23 => ?_) (pb_0 fun h23 => ?_)) | (with_reducible refine E_isN1 ?_; refine E_if_ne 28 d_TM_path_23 rfl (nz_ne fun h23 => ?_) (nz_eq (by omega) fun h23 => ?_)) | refine E_if_ne 28 d_TM_path_23 rfl (fun h23 => ?_) (fun h23 => ?_)
      rotate_left
      · exfalso; exact h23 hz
      first | refine E_aload_n d_TM_path_28 rfl ?_ | refine E_aload_nN d_TM_path_28 rfl ?_
      refine E_V0 (sp_TM_layNext hM) d_TM_path_29 ml_TM_362 cb_TM_layNext cv_TM_layNext (by exact ⟨by decide, rfl⟩) ⟨by decide, rfl⟩ ⟨by decide, by decide⟩ rfl (Nat.le_of_ble_eq_true rfl) (Nat.le_of_ble_eq_true rfl) (kV fun M1 hc => ?_)
      obtain ⟨hN, hS1⟩ := hc
      refine E_iconst (v := nI 1) d_TM_path_32 rfl ?_
      refine E_iload_n d_TM_path_33 rfl ?_
      first | (with_reducible refine E_isN2 ?_; first | refine E_ishl1 d_TM_path_34 (by omega) ?_ | refine E_ishlN d_TM_path_34 (by omega) (by omega) ?_) | refine E_ishl d_TM_path_34 ?_
      refine E_istore_4 d_TM_path_35 rfl ?_
      refine E_iconst (v := nI 0) d_TM_path_37 rfl ?_
      refine E_istore_5 d_TM_path_38 rfl ?_
      exact lp_TM_path1 (hM.sx hS1) hN hS1 (by omega) (by omega) 10 0 _ (by omega) h2k (by rw [ans_path, if_pos ⟨hx, hy, hz⟩, ht, ht2, ht3])
    · first | refine E_aload_n d_TM_path_0 rfl ?_ | refine E_aload_nN d_TM_path_0 rfl ?_
      refine E_iload_n d_TM_path_1 rfl ?_
      refine E_V1 (sp_TM_canBeTold hM.R hM.A hM.w _) d_TM_path_2 ml_TM_311 cb_TM_canBeTold cv_TM_canBeTold (by exact ⟨by decide, rfl⟩) ⟨by decide, rfl⟩ ⟨by decide, by decide⟩ rfl (Nat.le_of_ble_eq_true rfl) (Nat.le_of_ble_eq_true rfl) (kI fun r1 M1 hc => ?_)
      obtain ⟨rfl, rfl⟩ := hc
      first | (with_reducible refine E_isP ?_; refine E_if_eq 26 d_TM_path_5 rfl (pb_0 fun h5 => ?_) (pb_1 fun h5 => ?_)) | (with_reducible refine E_isN1 ?_; refine E_if_eq 26 d_TM_path_5 rfl (nz_eq (by omega) fun h5 => ?_) (nz_ne fun h5 => ?_)) | refine E_if_eq 26 d_TM_path_5 rfl (fun h5 => ?_) (fun h5 => ?_)
      rotate_left
      · exfalso; exact hx h5
      refine E_iconst (v := (-1)) d_TM_path_26 rfl ?_
      refine E_retI d_TM_path_27 rfl ?_
      exact ⟨by rw [ans_path, if_neg (fun q => hx q.1)], Sx.rf⟩
    · first | refine E_aload_n d_TM_path_0 rfl ?_ | refine E_aload_nN d_TM_path_0 rfl ?_
      refine E_iload_n d_TM_path_1 rfl ?_
      refine E_V1 (sp_TM_canBeTold hM.R hM.A hM.w _) d_TM_path_2 ml_TM_311 cb_TM_canBeTold cv_TM_canBeTold (by exact ⟨by decide, rfl⟩) ⟨by decide, rfl⟩ ⟨by decide, by decide⟩ rfl (Nat.le_of_ble_eq_true rfl) (Nat.le_of_ble_eq_true rfl) (kI fun r1 M1 hc => ?_)
      obtain ⟨rfl, rfl⟩ := hc
      first | (with_reducible refine E_isP ?_; refine E_if_eq 26 d_TM_path_5 rfl (pb_0 fun h5 => ?_) (pb_1 fun h5 => ?_)) | (with_reducible refine E_isN1 ?_; refine E_if_eq 26 d_TM_path_5 rfl (nz_eq (by omega) fun h5 => ?_) (nz_ne fun h5 => ?_)) | refine E_if_eq 26 d_TM_path_5 rfl (fun h5 => ?_) (fun h5 => ?_)
      · exfalso; exact h5 hx
      first | refine E_aload_n d_TM_path_8 rfl ?_ | refine E_aload_nN d_TM_path_8 rfl ?_
      refine E_iload_n d_TM_path_9 rfl ?_
      refine E_V1 (sp_TM_canBeTold hM.R hM.A hM.w _) d_TM_path_10 ml_TM_311 cb_TM_canBeTold cv_TM_canBeTold (by exact ⟨by decide, rfl⟩) ⟨by decide, rfl⟩ ⟨by decide, by decide⟩ rfl (Nat.le_of_ble_eq_true rfl) (Nat.le_of_ble_eq_true rfl) (kI fun r1 M1 hc => ?_)
      obtain ⟨rfl, rfl⟩ := hc
      first | (with_reducible refine E_isP ?_; refine E_if_eq 26 d_TM_path_13 rfl (pb_0 fun h13 => ?_) (pb_1 fun h13 => ?_)) | (with_reducible refine E_isN1 ?_; refine E_if_eq 26 d_TM_path_13 rfl (nz_eq (by omega) fun h13 => ?_) (nz_ne fun h13 => ?_)) | refine E_if_eq 26 d_TM_path_13 rfl (fun h13 => ?_) (fun h13 => ?_)
      rotate_left
      · exfalso; exact hy h13
      refine E_iconst (v := (-1)) d_TM_path_26 rfl ?_
      refine E_retI d_TM_path_27 rfl ?_
      exact ⟨by rw [ans_path, if_neg (fun q => hy q.2.1)], Sx.rf⟩
  · first | refine E_aload_n d_TM_path_0 rfl ?_ | refine E_aload_nN d_TM_path_0 rfl ?_
    refine E_iload_n d_TM_path_1 rfl ?_
    refine E_V1 (sp_TM_canBeTold hM.R hM.A hM.w _) d_TM_path_2 ml_TM_311 cb_TM_canBeTold cv_TM_canBeTold (by exact ⟨by decide, rfl⟩) ⟨by decide, rfl⟩ ⟨by decide, by decide⟩ rfl (Nat.le_of_ble_eq_true rfl) (Nat.le_of_ble_eq_true rfl) (kI fun r1 M1 hc => ?_)
    obtain ⟨rfl, rfl⟩ := hc
    first | (with_reducible refine E_isP ?_; refine E_if_eq 26 d_TM_path_5 rfl (pb_0 fun h5 => ?_) (pb_1 fun h5 => ?_)) | (with_reducible refine E_isN1 ?_; refine E_if_eq 26 d_TM_path_5 rfl (nz_eq (by omega) fun h5 => ?_) (nz_ne fun h5 => ?_)) | refine E_if_eq 26 d_TM_path_5 rfl (fun h5 => ?_) (fun h5 => ?_)
    · refine E_iconst (v := (-1)) d_TM_path_26 rfl ?_
      refine E_retI d_TM_path_27 rfl ?_
      exact ⟨by rw [ans_path, if_neg (fun q => hz q.2.2)], Sx.rf⟩
    · first | refine E_aload_n d_TM_path_8 rfl ?_ | refine E_aload_nN d_TM_path_8 rfl ?_
      refine E_iload_n d_TM_path_9 rfl ?_
      refine E_V1 (sp_TM_canBeTold hM.R hM.A hM.w _) d_TM_path_10 ml_TM_311 cb_TM_canBeTold cv_TM_canBeTold (by exact ⟨by decide, rfl⟩) ⟨by decide, rfl⟩ ⟨by decide, by decide⟩ rfl (Nat.le_of_ble_eq_true rfl) (Nat.le_of_ble_eq_true rfl) (kI fun r1 M1 hc => ?_)
      obtain ⟨rfl, rfl⟩ := hc
      first | (with_reducible refine E_isP ?_; refine E_if_eq 26 d_TM_path_13 rfl (pb_0 fun h13 => ?_) (pb_1 fun h13 => ?_)) | (with_reducible refine E_isN1 ?_; refine E_if_eq 26 d_TM_path_13 rfl (nz_eq (by omega) fun h13 => ?_) (nz_ne fun h13 => ?_)) | refine E_if_eq 26 d_TM_path_13 rfl (fun h13 => ?_) (fun h13 => ?_)
      · refine E_iconst (v := (-1)) d_TM_path_26 rfl ?_
        refine E_retI d_TM_path_27 rfl ?_
        exact ⟨by rw [ans_path, if_neg (fun q => hz q.2.2)], Sx.rf⟩
      · refine E_iload_n d_TM_path_16 rfl ?_
        refine E_iconst (v := nI 0) d_TM_path_17 rfl ?_
        refine E_bipush (v := nI 8) d_TM_path_18 (by decide) ?_
        refine E_S3 (sp_TM_in _ 8 (by decide)) d_TM_path_20 ml_TM_69 cb_TM_isIn cs_TM_isIn ⟨by decide, by decide⟩ rfl (Nat.le_of_ble_eq_true rfl) (Nat.le_of_ble_eq_true rfl) (kI fun r1 M1 hc => ?_)
        obtain ⟨rfl, rfl⟩ := hc
        first | (with_reducible refine E_isP ?_; refine E_if_ne 28 d_TM_path_23 rfl (pb_1 fun h23 => ?_) (pb_0 fun h23 => ?_)) | (with_reducible refine E_isN1 ?_; refine E_if_ne 28 d_TM_path_23 rfl (nz_ne fun h23 => ?_) (nz_eq (by omega) fun h23 => ?_)) | refine E_if_ne 28 d_TM_path_23 rfl (fun h23 => ?_) (fun h23 => ?_)
        · exfalso; exact hz h23
        refine E_iconst (v := (-1)) d_TM_path_26 rfl ?_
        refine E_retI d_TM_path_27 rfl ?_
        exact ⟨by rw [ans_path, if_neg (fun q => hz q.2.2)], Sx.rf⟩
theorem setLean_yes (c : Cr) (p l f q : Nat) : isYes (c.setNow (setLean c.now p l)) (setLean c.now p l) (ruler c) q f = isYes c (setLean c.now p l) (ruler c) q f := rfl
theorem RepA_setLean {c : Cr} {f f' : Nat → Int32} {p l : Nat} (h : RepA c f) (hp : p < 8) (e : ∀ i, f' i = if i = 10 + p then nI l else f i) : RepA (c.setNow (setLean c.now p l)) f' := by
  have ne : ∀ i, i ≠ 10 + p → f' i = f i := fun i hi => (e i).trans (if_neg hi)
  obtain ⟨h0, h1, h2, h3, h4, h5, ⟨r0, r1, r2, r3, r4, r5, r6⟩, h7, h8, h9, h10, h11, h12, h13⟩ := h
  refine ⟨(ne 0 (by omega)).trans h0, (ne 1 (by omega)).trans h1, (ne 2 (by omega)).trans h2, (ne 3 (by omega)).trans h3, (ne 4 (by omega)).trans h4, (ne 84 (by omega)).trans h5, ⟨(ne 5 (by omega)).trans r0, (ne _ (by omega)).trans r1, (ne _ (by omega)).trans r2, (ne _ (by omega)).trans r3, (ne _ (by omega)).trans r4, fun q hq => ?_, fun i hi => (ne _ (by omega)).trans (r6 i hi)⟩, fun q hq => (ne _ (by omega)).trans (h7 q hq), fun q hq => (ne _ (by omega)).trans (h8 q hq), fun q hq => (ne _ (by omega)).trans (h9 q hq), fun i hi => ⟨(ne _ (by omega)).trans (h10 i hi).1, (ne _ (by omega)).trans (h10 i hi).2⟩, fun v hv => (ne _ (by omega)).trans (h11 v hv), fun i hi => ⟨(ne _ (by omega)).trans (h12 i hi).1, (ne _ (by omega)).trans (h12 i hi).2⟩, fun i hi => ?_⟩
  · show f' (5 + 5 + q) = nI (if q = p then l else c.now.lean q)
    rw [e]
    by_cases hqp : q = p
    · subst hqp
      rw [if_pos (by omega), if_pos rfl]
    · rw [if_neg (by omega), if_neg hqp]
      exact r5 q hq
  · have h14 := h13 i hi
    have eg : (c.setNow (setLean c.now p l)).steps.getD i (c.setNow (setLean c.now p l)).now = c.steps.getD i c.now := by
      have hi' : i < c.steps.length := hi
      show c.steps.getD i _ = _
      rw [List.getD_eq_getElem?_getD, List.getD_eq_getElem?_getD, List.getElem?_eq_getElem hi']
      rfl
    rw [eg]
    obtain ⟨g1, g2, g3, g4, g5, g6, g7, g8⟩ := h14
    exact ⟨(ne _ (by omega)).trans g1, (ne _ (by omega)).trans g2, (ne _ (by omega)).trans g3, (ne _ (by omega)).trans g4, (ne _ (by omega)).trans g5, (ne _ (by omega)).trans g6, fun q hq => (ne _ (by omega)).trans (g7 q hq), fun q hq => (ne _ (by omega)).trans (g8 q hq)⟩
theorem Wf_setLean {c : Cr} {p l : Nat} (h : Wf c) (hl : l ≤ 9) : Wf (c.setNow (setLean c.now p l)) := by
  obtain ⟨⟨m1, m2, m3⟩, h2⟩ := h
  exact ⟨⟨m1, fun q => by show (if q = p then l else c.now.lean q) ≤ 9; split; exact hl; exact m2 q, m3⟩, h2⟩
theorem sp_TM_saysByLean {c : Cr} {M : Mem} (hM : HM c M) {p l f : Nat} (hp : p < c.now.people) (hl : l ≤ 9) (hf : f ≤ 8) : E 5 0 0 Y_TM_saysByLean 0 [some (.ref 0), some (.int (nI p)), some (.int (nI l)), some (.int (nI f)), none, none] [] GM M (QI GM fun r M' => r = pI (isYes c (setLean c.now p l) (ruler c) p f = true) ∧ Sx SY M M') := by
  have hR := hM.R
  have hA := hM.A
  have hp8 := hM.w.p8
  have hM2 : HM (c.setNow (setLean c.now p l)) (wI M 1 (10 + p) (nI l)) := ⟨hR, RepA_setLean hA (by omega) (fun i => by rw [mI_wI]; by_cases hi : i = 10 + p <;> simp [hi]), hM.T, Wf_setLean hM.w hl⟩
  first | refine E_aload_n d_TM_saysByLean_0 rfl ?_ | refine E_aload_nN d_TM_saysByLean_0 rfl ?_
  refine E_getR (q := 1) d_TM_saysByLean_1 gf_TM_7 (by exact ⟨by decide, rfl⟩) (by exact hR _ rfl) ?_
  refine E_bipush (v := nI 10) d_TM_saysByLean_4 (by decide) ?_
  refine E_iload_n d_TM_saysByLean_6 rfl ?_
  first | (with_reducible refine E_isN2 ?_; refine E_iaddN d_TM_saysByLean_7 ?_) | refine E_iadd d_TM_saysByLean_7 ?_
  refine E_iald d_TM_saysByLean_8 (by exact ⟨by decide, rfl⟩) (by exact ⟨by with_reducible rfl, by omega, by decide⟩) (by first | exact hA.people | exact hA.figure | exact hA.lean (by omega) | exact hN _ (by omega) | exact hA.hears (by omega) | rfl) ?_
  refine E_istore_4 d_TM_saysByLean_9 rfl ?_
  first | refine E_aload_n d_TM_saysByLean_11 rfl ?_ | refine E_aload_nN d_TM_saysByLean_11 rfl ?_
  refine E_getR (q := 1) d_TM_saysByLean_12 gf_TM_7 (by exact ⟨by decide, rfl⟩) (by exact hR _ rfl) ?_
  refine E_bipush (v := nI 10) d_TM_saysByLean_15 (by decide) ?_
  refine E_iload_n d_TM_saysByLean_17 rfl ?_
  first | (with_reducible refine E_isN2 ?_; refine E_iaddN d_TM_saysByLean_18 ?_) | refine E_iadd d_TM_saysByLean_18 ?_
  refine E_iload_n d_TM_saysByLean_19 rfl ?_
  refine E_iast d_TM_saysByLean_20 (by exact ⟨by decide, rfl⟩) (by exact ⟨by with_reducible rfl, by omega, by decide⟩) ?_
  first | refine E_aload_n d_TM_saysByLean_21 rfl ?_ | refine E_aload_nN d_TM_saysByLean_21 rfl ?_
  refine E_iload_n d_TM_saysByLean_22 rfl ?_
  refine E_iload_n d_TM_saysByLean_23 rfl ?_
  refine E_V2 (sp_TM_isYes hM2 hp hf) d_TM_saysByLean_24 ml_TM_299 cb_TM_isYes cv_TM_isYes (by exact ⟨by decide, rfl⟩) ⟨by decide, rfl⟩ ⟨by decide, by decide⟩ rfl (Nat.le_of_ble_eq_true rfl) (Nat.le_of_ble_eq_true rfl) (kI fun r1 M1 hc => ?_)
  obtain ⟨rfl, hS1⟩ := hc
  have hR := hM.R
  have hR1 : MR M1 := fun j hj => by rw [hS1.1]; exact hM.R j hj
  have hback : Sx SY M (wI M1 1 (10 + p) (nI (c.now.lean p))) := ⟨hS1.1, fun a ha => by
    by_cases h1 : a = 1
    · subst h1
      refine ⟨?_, (hS1.2 1 (by unfold SY; decide)).2⟩
      funext i
      rw [mI_wI, (hS1.2 1 (by unfold SY; decide)).1, mI_wI]
      by_cases hi : i = 10 + p
      · rw [if_pos ⟨rfl, hi⟩, hi, hA.lean hp]
      · rw [if_neg (fun q => hi q.2), if_neg (fun q => hi q.2)]
    · exact ⟨(upd2_ne _ h1).trans ((hS1.2 a ha).1.trans (upd2_ne _ h1)), (hS1.2 a ha).2⟩⟩
  refine E_istore_5 d_TM_saysByLean_27 rfl ?_
  first | refine E_aload_n d_TM_saysByLean_29 rfl ?_ | refine E_aload_nN d_TM_saysByLean_29 rfl ?_
  refine E_getR (q := 1) d_TM_saysByLean_30 gf_TM_7 (by exact ⟨by decide, rfl⟩) (by exact hR1 _ rfl) ?_
  refine E_bipush (v := nI 10) d_TM_saysByLean_33 (by decide) ?_
  refine E_iload_n d_TM_saysByLean_35 rfl ?_
  first | (with_reducible refine E_isN2 ?_; refine E_iaddN d_TM_saysByLean_36 ?_) | refine E_iadd d_TM_saysByLean_36 ?_
  refine E_iload d_TM_saysByLean_37 rfl ?_
  refine E_iast d_TM_saysByLean_39 (by exact ⟨by decide, rfl⟩) (by exact ⟨by with_reducible rfl, by omega, by decide⟩) ?_
  refine E_iload d_TM_saysByLean_40 rfl ?_
  refine E_retZ d_TM_saysByLean_42 rfl (by first | exact pI_01 _ | decide) ?_
  exact ⟨rfl, hback⟩
