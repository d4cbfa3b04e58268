section CTc
variable {G G0 : Geo} {M M0 : Mem} {c : Nat}
def CRQ (c : Nat) (G0 : Geo) (M0 : Mem) (v : Option Value) (G' : Geo) (M' : Mem) : Prop := v = none ∧ CRI c 104 True G0 M0 G' M'
theorem lp_Cr_init (hc : c + 110 < 999990) : ∀ m i, i + m = 30 → ∀ (G : Geo) (M : Mem), CRI c (14 + 3 * i) True G0 M0 G M → E 2 (3 * m) (106 * m) Y_Cr_init 103 [some (.ref c), some (.int (nI i))] [] G M (CRQ c G0 M0) := by
  intro m
  induction m with
  | zero =>
    intro i hi G M h
    have e : i = 30 := by omega
    subst e
    have s0 := h.sh0 (by decide)
    have s7 : Sh G (c + 7) (4, 30) := h.sh (by decide) rfl
    have r7 : mR M c 4 = some (c + 7) := h.2.2.2.2.1 4 7 rfl (by decide)
    refine E_iload_n d_Cr_init_103 rfl ?_
    first | refine E_aload_n d_Cr_init_104 rfl ?_ | refine E_aload_nN d_Cr_init_104 rfl ?_
    refine E_getR d_Cr_init_105 gf_Cr_28 (by with_reducible first | exact s0 | exact s7) (by assumption) ?_
    refine E_alen d_Cr_init_108 (by with_reducible first | exact s0 | exact s7) (by decide) rfl ?_
    first | (with_reducible refine E_isN2 ?_; refine E_icmp_ge 131 d_Cr_init_109 rfl (nb_le (by omega) (by omega) fun h109 => ?_) (nb_nle (by omega) (by omega) fun h109 => ?_)) | refine E_icmp_ge 131 d_Cr_init_109 rfl (fun h109 => ?_) (fun h109 => ?_)
    rotate_left
    · exfalso; omega
    exact E_vret d_Cr_init_131 rfl ⟨rfl, h⟩
  | succ m ih =>
    intro i hi G M h
    have s0 := h.sh0 (by omega)
    have s7 : Sh G (c + 7) (4, 30) := h.sh (by omega) rfl
    have r7 : mR M c 4 = some (c + 7) := h.2.2.2.2.1 4 7 rfl (by omega)
    have g1 := h.1
    have hm := h.mom (b := c + 7) (j := i) (Or.inr ⟨i, by omega, rfl, rfl, rfl⟩) (by omega)
    have s7' : Sh (moG (ga G (0, 2))) (c + 7) (4, 30) := hm.sh (k := 7) (by omega) rfl
    have sm : Sh (moG (ga G (0, 2))) G.1 (0, 2) := by
      have tb : ∀ i, i < 30 → shCr (14 + 3 * i) = (0, 2) := by decide
      rw [g1]; exact hm.sh (k := 14 + 3 * i) (by omega) (tb i (by omega))
    have ini := sp_Mo_init (M := cN M G.1) (Sh_new G (0, 2)) (show G.1 + 1 < 999990 by omega)
    have fin := ih (i + 1) (by omega) _ _ hm
    refine E_iload_n d_Cr_init_103 rfl ?_
    first | refine E_aload_n d_Cr_init_104 rfl ?_ | refine E_aload_nN d_Cr_init_104 rfl ?_
    refine E_getR d_Cr_init_105 gf_Cr_28 (by with_reducible first | exact s0 | exact s7) (by assumption) ?_
    refine E_alen d_Cr_init_108 (by with_reducible first | exact s0 | exact s7) (by decide) rfl ?_
    first | (with_reducible refine E_isN2 ?_; refine E_icmp_ge 131 d_Cr_init_109 rfl (nb_le (by omega) (by omega) fun h109 => ?_) (nb_nle (by omega) (by omega) fun h109 => ?_)) | refine E_icmp_ge 131 d_Cr_init_109 rfl (fun h109 => ?_) (fun h109 => ?_)
    · exfalso; omega
    first | refine E_aload_n d_Cr_init_112 rfl ?_ | refine E_aload_nN d_Cr_init_112 rfl ?_
    refine E_getR d_Cr_init_113 gf_Cr_28 (by with_reducible first | exact s0 | exact s7) (by assumption) ?_
    refine E_iload_n d_Cr_init_116 rfl ?_
    refine E_newD (ci := 2) d_Cr_init_117 (by decide) rfl kl_Cr_9 in_Mo it_Mo (by omega) (by first | decide | (show 1 ≤ 3 * (m + 1); omega) | (show 8 ≤ 106 * (m + 1); omega)) (by first | decide | (show 1 ≤ 3 * (m + 1); omega) | (show 8 ≤ 106 * (m + 1); omega)) ?_
    refine E_dup d_Cr_init_120 rfl ?_
    refine E_callIN (As := []) (rest := [.ref G.1, .int (nI i), .ref (c + 7)]) (b' := 2) (bs' := 98) (b2 := 3 * m) (bs2 := 106 * m) d_Cr_init_121 nl_Cr_11 cb_Mo_init ci_Mo_init rfl ⟨by decide, by decide⟩ rfl (Nat.le_of_ble_eq_true rfl) rfl (Nat.le_of_ble_eq_true rfl) (by show 2 + 3 * m ≤ 3 * (m + 1) - 1; omega) (by show 98 + 106 * m ≤ 106 * (m + 1) - 8; omega) ini (fun v G' M' hM => ?_)
    obtain ⟨rfl, rfl, rfl⟩ := hM
    refine E_aastT d_Cr_init_124 (t := 4) (n := 30) s7' (Or.inl ⟨rfl, rfl⟩) ⟨by with_reducible rfl, by omega, by decide⟩ sm ?_
    refine E_iincN1 (m := 1) d_Cr_init_125 rfl rfl ?_
    refine E_goto 103 d_Cr_init_128 rfl ?_
    exact fin
theorem ci_101 (hc : c + 110 < 999990) (h : CRI c 14 True G0 M0 G M) : E 2 90 3180 Y_Cr_init 101 [some (.ref c), none] [] G M (CRQ c G0 M0) := by
  have lp := lp_Cr_init hc 30 0 rfl G M h
  refine E_iconst (v := nI 0) d_Cr_init_101 rfl ?_
  refine E_istore_1 d_Cr_init_102 rfl ?_
  exact lp
theorem ci_93 (hc : c + 110 < 999990) (h : CRI c 13 True G0 M0 G M) : E 2 91 3190 Y_Cr_init 93 [some (.ref c), none] [] G M (CRQ c G0 M0) := by
  have g1 := h.1
  have s0 := h.sh0 (by decide)
  have s1 : ∀ y, Sh (ga G y) c (0, 1) := fun y => Sh_ga s0
  have nx := ci_101 hc (h.arr (by decide) (x := shCr 13) rfl (j := 16) rfl)
  first | refine E_aload_n d_Cr_init_93 rfl ?_ | refine E_aload_nN d_Cr_init_93 rfl ?_
  refine E_bipush (v := nI 10) d_Cr_init_94 (by decide) ?_
  refine E_newarrD (t := 1) (atype := .int) d_Cr_init_96 (by decide) rfl (by decide) (by omega) (by decide) (by decide) ?_
  refine E_putFR d_Cr_init_98 gf_Cr_54 (by with_reducible first | exact s0 | exact s1 _) rfl rfl rfl rfl ?_
  exact nx
theorem ci_85 (hc : c + 110 < 999990) (h : CRI c 12 True G0 M0 G M) : E 2 92 3198 Y_Cr_init 85 [some (.ref c), none] [] G M (CRQ c G0 M0) := by
  have g1 := h.1
  have s0 := h.sh0 (by decide)
  have s1 : ∀ y, Sh (ga G y) c (0, 1) := fun y => Sh_ga s0
  have nx := ci_93 hc (h.arr (by decide) (x := shCr 12) rfl (j := 14) rfl)
  first | refine E_aload_n d_Cr_init_85 rfl ?_ | refine E_aload_nN d_Cr_init_85 rfl ?_
  refine E_bipush (v := nI 8) d_Cr_init_86 (by decide) ?_
  refine E_newarrD (t := 1) (atype := .int) d_Cr_init_88 (by decide) rfl (by decide) (by omega) (by decide) (by decide) ?_
  refine E_putFR d_Cr_init_90 gf_Cr_51 (by with_reducible first | exact s0 | exact s1 _) rfl rfl rfl rfl ?_
  exact nx
theorem ci_77 (hc : c + 110 < 999990) (h : CRI c 11 True G0 M0 G M) : E 2 93 3206 Y_Cr_init 77 [some (.ref c), none] [] G M (CRQ c G0 M0) := by
  have g1 := h.1
  have s0 := h.sh0 (by decide)
  have s1 : ∀ y, Sh (ga G y) c (0, 1) := fun y => Sh_ga s0
  have nx := ci_85 hc (h.arr (by decide) (x := shCr 11) rfl (j := 13) rfl)
  first | refine E_aload_n d_Cr_init_77 rfl ?_ | refine E_aload_nN d_Cr_init_77 rfl ?_
  refine E_bipush (v := nI 8) d_Cr_init_78 (by decide) ?_
  refine E_newarrD (t := 1) (atype := .int) d_Cr_init_80 (by decide) rfl (by decide) (by omega) (by decide) (by decide) ?_
  refine E_putFR d_Cr_init_82 gf_Cr_48 (by with_reducible first | exact s0 | exact s1 _) rfl rfl rfl rfl ?_
  exact nx
theorem ci_69 (hc : c + 110 < 999990) (h : CRI c 10 True G0 M0 G M) : E 2 94 3214 Y_Cr_init 69 [some (.ref c), none] [] G M (CRQ c G0 M0) := by
  have g1 := h.1
  have s0 := h.sh0 (by decide)
  have s1 : ∀ y, Sh (ga G y) c (0, 1) := fun y => Sh_ga s0
  have nx := ci_77 hc (h.arr (by decide) (x := shCr 10) rfl (j := 11) rfl)
  first | refine E_aload_n d_Cr_init_69 rfl ?_ | refine E_aload_nN d_Cr_init_69 rfl ?_
  refine E_bipush (v := nI 8) d_Cr_init_70 (by decide) ?_
  refine E_newarrD (t := 1) (atype := .int) d_Cr_init_72 (by decide) rfl (by decide) (by omega) (by decide) (by decide) ?_
  refine E_putFR d_Cr_init_74 gf_Cr_45 (by with_reducible first | exact s0 | exact s1 _) rfl rfl rfl rfl ?_
  exact nx
theorem ci_61 (hc : c + 110 < 999990) (h : CRI c 9 True G0 M0 G M) : E 2 95 3222 Y_Cr_init 61 [some (.ref c), none] [] G M (CRQ c G0 M0) := by
  have g1 := h.1
  have s0 := h.sh0 (by decide)
  have s1 : ∀ y, Sh (ga G y) c (0, 1) := fun y => Sh_ga s0
  have nx := ci_69 hc (h.arr (by decide) (x := shCr 9) rfl (j := 10) rfl)
  first | refine E_aload_n d_Cr_init_61 rfl ?_ | refine E_aload_nN d_Cr_init_61 rfl ?_
  refine E_bipush (v := nI 8) d_Cr_init_62 (by decide) ?_
  refine E_newarrD (t := 1) (atype := .int) d_Cr_init_64 (by decide) rfl (by decide) (by omega) (by decide) (by decide) ?_
  refine E_putFR d_Cr_init_66 gf_Cr_42 (by with_reducible first | exact s0 | exact s1 _) rfl rfl rfl rfl ?_
  exact nx
theorem ci_56 (hc : c + 110 < 999990) (h : CRI c 9 False G0 M0 G M) : E 2 95 3222 Y_Cr_init 56 [some (.ref c), none] [] G M (CRQ c G0 M0) := by
  have s0 := h.sh0 (by decide)
  have nx := ci_61 hc (h.rul (by decide))
  first | refine E_aload_n d_Cr_init_56 rfl ?_ | refine E_aload_nN d_Cr_init_56 rfl ?_
  refine E_iconst (v := (-1)) d_Cr_init_57 rfl ?_
  refine E_putI d_Cr_init_58 gf_Cr_38 (by exact s0) rfl rfl ?_
  exact nx
theorem ci_48 (hc : c + 110 < 999990) (h : CRI c 8 False G0 M0 G M) : E 2 96 3226 Y_Cr_init 48 [some (.ref c), none] [] G M (CRQ c G0 M0) := by
  have g1 := h.1
  have s0 := h.sh0 (by decide)
  have s1 : ∀ y, Sh (ga G y) c (0, 1) := fun y => Sh_ga s0
  have nx := ci_56 hc (h.arr (by decide) (x := shCr 8) rfl (j := 7) rfl)
  first | refine E_aload_n d_Cr_init_48 rfl ?_ | refine E_aload_nN d_Cr_init_48 rfl ?_
  refine E_iconst (v := nI 4) d_Cr_init_49 rfl ?_
  refine E_anewD (t := 5) d_Cr_init_50 kl_Cr_32 (by decide) rfl (by decide) (by omega) (by decide) (by decide) ?_
  refine E_putFR d_Cr_init_53 gf_Cr_34 (by with_reducible first | exact s0 | exact s1 _) rfl rfl rfl rfl ?_
  exact nx
theorem ci_39 (hc : c + 110 < 999990) (h : CRI c 7 False G0 M0 G M) : E 2 97 3256 Y_Cr_init 39 [some (.ref c), none] [] G M (CRQ c G0 M0) := by
  have g1 := h.1
  have s0 := h.sh0 (by decide)
  have s1 : ∀ y, Sh (ga G y) c (0, 1) := fun y => Sh_ga s0
  have nx := ci_48 hc (h.arr (by decide) (x := shCr 7) rfl (j := 4) rfl)
  first | refine E_aload_n d_Cr_init_39 rfl ?_ | refine E_aload_nN d_Cr_init_39 rfl ?_
  refine E_bipush (v := nI 30) d_Cr_init_40 (by decide) ?_
  refine E_anewD (t := 4) d_Cr_init_42 kl_Cr_9 (by decide) rfl (by decide) (by omega) (by decide) (by decide) ?_
  refine E_putFR d_Cr_init_45 gf_Cr_28 (by with_reducible first | exact s0 | exact s1 _) rfl rfl rfl rfl ?_
  exact nx
theorem ci_31 (hc : c + 110 < 999990) (h : CRI c 6 False G0 M0 G M) : E 2 98 3264 Y_Cr_init 31 [some (.ref c), none] [] G M (CRQ c G0 M0) := by
  have g1 := h.1
  have s0 := h.sh0 (by decide)
  have s1 : ∀ y, Sh (ga G y) c (0, 1) := fun y => Sh_ga s0
  have nx := ci_39 hc (h.arr (by decide) (x := shCr 6) rfl (j := 3) rfl)
  first | refine E_aload_n d_Cr_init_31 rfl ?_ | refine E_aload_nN d_Cr_init_31 rfl ?_
  refine E_bipush (v := nI 8) d_Cr_init_32 (by decide) ?_
  refine E_newarrD (t := 1) (atype := .int) d_Cr_init_34 (by decide) rfl (by decide) (by omega) (by decide) (by decide) ?_
  refine E_putFR d_Cr_init_36 gf_Cr_25 (by with_reducible first | exact s0 | exact s1 _) rfl rfl rfl rfl ?_
  exact nx
theorem ci_23 (hc : c + 110 < 999990) (h : CRI c 5 False G0 M0 G M) : E 2 99 3272 Y_Cr_init 23 [some (.ref c), none] [] G M (CRQ c G0 M0) := by
  have g1 := h.1
  have s0 := h.sh0 (by decide)
  have s1 : ∀ y, Sh (ga G y) c (0, 1) := fun y => Sh_ga s0
  have nx := ci_31 hc (h.arr (by decide) (x := shCr 5) rfl (j := 2) rfl)
  first | refine E_aload_n d_Cr_init_23 rfl ?_ | refine E_aload_nN d_Cr_init_23 rfl ?_
  refine E_bipush (v := nI 8) d_Cr_init_24 (by decide) ?_
  refine E_newarrD (t := 1) (atype := .int) d_Cr_init_26 (by decide) rfl (by decide) (by omega) (by decide) (by decide) ?_
  refine E_putFR d_Cr_init_28 gf_Cr_22 (by with_reducible first | exact s0 | exact s1 _) rfl rfl rfl rfl ?_
  exact nx
theorem ci_15 (hc : c + 110 < 999990) (h : CRI c 4 False G0 M0 G M) : E 2 100 3280 Y_Cr_init 15 [some (.ref c), none] [] G M (CRQ c G0 M0) := by
  have g1 := h.1
  have s0 := h.sh0 (by decide)
  have s1 : ∀ y, Sh (ga G y) c (0, 1) := fun y => Sh_ga s0
  have nx := ci_23 hc (h.arr (by decide) (x := shCr 4) rfl (j := 1) rfl)
  first | refine E_aload_n d_Cr_init_15 rfl ?_ | refine E_aload_nN d_Cr_init_15 rfl ?_
  refine E_bipush (v := nI 8) d_Cr_init_16 (by decide) ?_
  refine E_newarrD (t := 1) (atype := .int) d_Cr_init_18 (by decide) rfl (by decide) (by omega) (by decide) (by decide) ?_
  refine E_putFR d_Cr_init_20 gf_Cr_18 (by with_reducible first | exact s0 | exact s1 _) rfl rfl rfl rfl ?_
  exact nx
theorem sp_Cr_init (hc : c + 110 < 999990) (h : CRI c 1 False G0 M0 G M) : E 2 103 3386 Y_Cr_init 0 [some (.ref c), none] [] G M (CRQ c G0 M0) := by
  have g1 := h.1
  have s0 := h.sh0 (by decide)
  have hm := h.mom (b := c) (j := 0) (Or.inl ⟨rfl, rfl, rfl⟩) (by decide)
  have s1 : Sh (moG (ga G (0, 2))) c (0, 1) := hm.sh0 (by decide)
  have ini := sp_Mo_init (M := cN M G.1) (Sh_new G (0, 2)) (show G.1 + 1 < 999990 by omega)
  have nx := ci_15 hc hm
  first | refine E_aload_n d_Cr_init_0 rfl ?_ | refine E_aload_nN d_Cr_init_0 rfl ?_
  refine E_obj d_Cr_init_1 ml_Cr_3 (by decide) (Nat.le_of_ble_eq_true rfl) ?_
  first | refine E_aload_n d_Cr_init_4 rfl ?_ | refine E_aload_nN d_Cr_init_4 rfl ?_
  refine E_newD (ci := 2) d_Cr_init_5 (by decide) rfl kl_Cr_9 in_Mo it_Mo (by omega) (by decide) (by decide) ?_
  refine E_dup d_Cr_init_8 rfl ?_
  refine E_callIN (As := []) (rest := [.ref G.1, .ref c]) (b' := 2) (bs' := 98) (b2 := 100) (bs2 := 3280) d_Cr_init_9 nl_Cr_11 cb_Mo_init ci_Mo_init rfl ⟨by decide, by decide⟩ rfl (Nat.le_of_ble_eq_true rfl) rfl (Nat.le_of_ble_eq_true rfl) (by decide) (by decide) ini (fun v G' M' hM => ?_)
  obtain ⟨rfl, rfl, rfl⟩ := hM
  refine E_putFR d_Cr_init_12 gf_Cr_12 s1 rfl rfl rfl rfl ?_
  exact nx
end CTc
