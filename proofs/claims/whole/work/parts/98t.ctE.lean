section CTe
variable {G : Geo} {M : Mem}
def TPQ (v : Option Value) (G' : Geo) (M' : Mem) : Prop := v = none ∧ ∃ M1, TPI 234 G' M1 ∧ M' = wI (wI M1 0 11 (-1)) 0 12 (-1)
theorem tq_132 (h : TPI 234 G M) : E 3 0 0 Y_TP_init 132 [some (.ref 0)] [] G M TPQ := by
  have s0 : Sh G 0 (0, 8) := h.sh (by decide) rfl
  first | refine E_aload_n d_TP_init_132 rfl ?_ | refine E_aload_nN d_TP_init_132 rfl ?_
  refine E_iconst (v := (-1)) d_TP_init_133 rfl ?_
  refine E_putI d_TP_init_134 gf_TP_78 (by exact s0) rfl rfl ?_
  first | refine E_aload_n d_TP_init_137 rfl ?_ | refine E_aload_nN d_TP_init_137 rfl ?_
  refine E_iconst (v := (-1)) d_TP_init_138 rfl ?_
  refine E_putI d_TP_init_139 gf_TP_82 (by exact s0) rfl rfl ?_
  exact E_vret d_TP_init_142 rfl ⟨rfl, M, h, rfl⟩
theorem tq_124 (h : TPI 233 G M) : E 3 1 99 Y_TP_init 124 [some (.ref 0)] [] G M TPQ := by
  have g1 := h.2.1
  have s0 : Sh G 0 (0, 8) := h.sh (by decide) rfl
  have s1 : ∀ y, Sh (ga G y) 0 (0, 8) := fun y => Sh_ga s0
  have nx := tq_132 h.see
  rw [← g1] at nx
  first | refine E_aload_n d_TP_init_124 rfl ?_ | refine E_aload_nN d_TP_init_124 rfl ?_
  refine E_bipush (v := nI 99) d_TP_init_125 (by decide) ?_
  refine E_newarrD (t := 1) (atype := .int) d_TP_init_127 (by decide) rfl (by decide) (by omega) (by decide) (by decide) ?_
  refine E_putFR d_TP_init_129 gf_TP_75 (by with_reducible first | exact s0 | exact s1 _) rfl rfl rfl rfl ?_
  exact nx
theorem tq_116 (h : TPI 232 G M) : E 3 2 107 Y_TP_init 116 [some (.ref 0)] [] G M TPQ := by
  have g1 := h.2.1
  have s0 : Sh G 0 (0, 8) := h.sh (by decide) rfl
  have s1 : ∀ y, Sh (ga G y) 0 (0, 8) := fun y => Sh_ga s0
  have nx := tq_124 h.cos
  rw [← g1] at nx
  first | refine E_aload_n d_TP_init_116 rfl ?_ | refine E_aload_nN d_TP_init_116 rfl ?_
  refine E_bipush (v := nI 8) d_TP_init_117 (by decide) ?_
  refine E_newarrD (t := 1) (atype := .int) d_TP_init_119 (by decide) rfl (by decide) (by omega) (by decide) (by decide) ?_
  refine E_putFR d_TP_init_121 gf_TP_71 (by with_reducible first | exact s0 | exact s1 _) rfl rfl rfl rfl ?_
  exact nx
theorem tq_108 (h : TPI 231 G M) : E 3 3 116 Y_TP_init 108 [some (.ref 0)] [] G M TPQ := by
  have g1 := h.2.1
  have s0 : Sh G 0 (0, 8) := h.sh (by decide) rfl
  have s1 : ∀ y, Sh (ga G y) 0 (0, 8) := fun y => Sh_ga s0
  have nx := tq_116 h.way
  rw [← g1] at nx
  first | refine E_aload_n d_TP_init_108 rfl ?_ | refine E_aload_nN d_TP_init_108 rfl ?_
  refine E_bipush (v := nI 9) d_TP_init_109 (by decide) ?_
  refine E_newarrD (t := 2) (atype := .long) d_TP_init_111 (by decide) rfl (by decide) (by omega) (by decide) (by decide) ?_
  refine E_putFR d_TP_init_113 gf_TP_67 (by with_reducible first | exact s0 | exact s1 _) rfl rfl rfl rfl ?_
  exact nx
theorem tq_93 (h : TPI 225 G M) : E 3 9 806 Y_TP_init 93 [some (.ref 0)] [] G M TPQ := by
  have g1 := h.2.1
  have s0 : Sh G 0 (0, 8) := h.sh (by decide) rfl
  have s1 : ∀ y, Sh (ga G y) 0 (0, 8) := fun y => Sh_ga s0
  have hst := h.rea
  have s2 := hst.sh (k := 0) (x := (0, 8)) (by decide) rfl
  have nx := tq_108 hst
  have r0 : ∀ j q, rmC 0 j = some q → q < 225 → mR (cN M G.1) 0 j = some q := fun j q hj hq => by rw [mR_cN, if_neg (by omega)]; exact h.2.2.2.1 j q hj hq
  have q0 := r0 0 1 rfl (by decide)
  have ini := sp_Re_init (M := cN M G.1) (Sh_new G (0, 4)) (show G.1 + 1 < 999990 by omega)
  have q6 := r0 6 220 rfl (by decide)
  rw [show (ga G (0, 4)).1 = G.1 + 1 from rfl] at ini
  first | refine E_aload_n d_TP_init_93 rfl ?_ | refine E_aload_nN d_TP_init_93 rfl ?_
  refine E_newD (ci := 4) d_TP_init_94 (by decide) rfl kl_TP_58 in_Re it_Re (by omega) (by decide) (by decide) ?_
  refine E_dup d_TP_init_97 rfl ?_
  first | refine E_aload_n d_TP_init_98 rfl ?_ | refine E_aload_nN d_TP_init_98 rfl ?_
  refine E_getR d_TP_init_99 gf_TP_54 (by with_reducible first | exact s0 | exact s1 _) (by first | exact q0 | exact q6) ?_
  refine E_callI (As := [.ref 220]) (rest := [.ref G.1, .ref 0]) (b' := 5) (bs' := 672) (b2 := 3) (bs2 := 116) d_TP_init_102 ml_TP_60 cb_Re_init ci_Re_init rfl ⟨by decide, by decide⟩ rfl (Nat.le_of_ble_eq_true rfl) rfl (Nat.le_of_ble_eq_true rfl) (by decide) (by decide) ini (fun v G' M' hM => ?_)
  obtain ⟨rfl, rfl, rfl⟩ := hM
  refine E_putFR d_TP_init_105 gf_TP_63 s2 rfl rfl rfl rfl ?_
  rw [g1]
  exact nx
theorem tq_82 (h : TPI 220 G M) : E 3 14 2016 Y_TP_init 82 [some (.ref 0)] [] G M TPQ := by
  have g1 := h.2.1
  have s0 : Sh G 0 (0, 8) := h.sh (by decide) rfl
  have s1 : ∀ y, Sh (ga G y) 0 (0, 8) := fun y => Sh_ga s0
  have hst := h.tap
  have s2 := hst.sh (k := 0) (x := (0, 8)) (by decide) rfl
  have nx := tq_93 hst
  have r0 : ∀ j q, rmC 0 j = some q → q < 220 → mR (cN M G.1) 0 j = some q := fun j q hj hq => by rw [mR_cN, if_neg (by omega)]; exact h.2.2.2.1 j q hj hq
  have q0 := r0 0 1 rfl (by decide)
  have ini := sp_Ta_init (M := cN M G.1) (Sh_new G (0, 6)) (show G.1 + 1 < 999990 by omega)
  rw [show (ga G (0, 6)).1 = G.1 + 1 from rfl] at ini
  first | refine E_aload_n d_TP_init_82 rfl ?_ | refine E_aload_nN d_TP_init_82 rfl ?_
  refine E_newD (ci := 6) d_TP_init_83 (by decide) rfl kl_TP_51 in_Ta it_Ta (by omega) (by decide) (by decide) ?_
  refine E_dup d_TP_init_86 rfl ?_
  refine E_callIN (As := []) (rest := [.ref G.1, .ref 0]) (b' := 4) (bs' := 1203) (b2 := 9) (bs2 := 806) d_TP_init_87 nl_TP_53 cb_Ta_init ci_Ta_init rfl ⟨by decide, by decide⟩ rfl (Nat.le_of_ble_eq_true rfl) rfl (Nat.le_of_ble_eq_true rfl) (by decide) (by decide) ini (fun v G' M' hM => ?_)
  obtain ⟨rfl, rfl, rfl⟩ := hM
  refine E_putFR d_TP_init_90 gf_TP_54 s2 rfl rfl rfl rfl ?_
  rw [g1]
  exact nx
theorem tq_71 (h : TPI 216 G M) : E 3 18 2047 Y_TP_init 71 [some (.ref 0)] [] G M TPQ := by
  have g1 := h.2.1
  have s0 : Sh G 0 (0, 8) := h.sh (by decide) rfl
  have s1 : ∀ y, Sh (ga G y) 0 (0, 8) := fun y => Sh_ga s0
  have hst := h.out
  have s2 := hst.sh (k := 0) (x := (0, 8)) (by decide) rfl
  have nx := tq_82 hst
  have r0 : ∀ j q, rmC 0 j = some q → q < 216 → mR (cN M G.1) 0 j = some q := fun j q hj hq => by rw [mR_cN, if_neg (by omega)]; exact h.2.2.2.1 j q hj hq
  have q0 := r0 0 1 rfl (by decide)
  have ini := sp_Ou_init (M := cN M G.1) (Sh_new G (0, 3)) (show G.1 + 1 < 999990 by omega)
  rw [show (ga G (0, 3)).1 = G.1 + 1 from rfl] at ini
  first | refine E_aload_n d_TP_init_71 rfl ?_ | refine E_aload_nN d_TP_init_71 rfl ?_
  refine E_newD (ci := 3) d_TP_init_72 (by decide) rfl kl_TP_44 in_Ou it_Ou (by omega) (by decide) (by decide) ?_
  refine E_dup d_TP_init_75 rfl ?_
  refine E_callIN (As := []) (rest := [.ref G.1, .ref 0]) (b' := 3) (bs' := 27) (b2 := 14) (bs2 := 2016) d_TP_init_76 nl_TP_46 cb_Ou_init ci_Ou_init rfl ⟨by decide, by decide⟩ rfl (Nat.le_of_ble_eq_true rfl) rfl (Nat.le_of_ble_eq_true rfl) (by decide) (by decide) ini (fun v G' M' hM => ?_)
  obtain ⟨rfl, rfl, rfl⟩ := hM
  refine E_putFR d_TP_init_79 gf_TP_47 s2 rfl rfl rfl rfl ?_
  rw [g1]
  exact nx
theorem tq_52 (h : TPI 214 G M) : E 3 20 2058 Y_TP_init 52 [some (.ref 0)] [] G M TPQ := by
  have g1 := h.2.1
  have s0 : Sh G 0 (0, 8) := h.sh (by decide) rfl
  have s1 : ∀ y, Sh (ga G y) 0 (0, 8) := fun y => Sh_ga s0
  have hst := h.rou
  have s2 := hst.sh (k := 0) (x := (0, 8)) (by decide) rfl
  have nx := tq_71 hst
  have r0 : ∀ j q, rmC 0 j = some q → q < 214 → mR (cN M G.1) 0 j = some q := fun j q hj hq => by rw [mR_cN, if_neg (by omega)]; exact h.2.2.2.1 j q hj hq
  have q0 := r0 0 1 rfl (by decide)
  have ini := sp_Ro_init (M := cN M G.1) (Sh_new G (0, 5)) (show G.1 + 1 < 999990 by omega)
  have q3 := r0 3 212 rfl (by decide)
  rw [show (ga G (0, 5)).1 = G.1 + 1 from rfl] at ini
  first | refine E_aload_n d_TP_init_52 rfl ?_ | refine E_aload_nN d_TP_init_52 rfl ?_
  refine E_newD (ci := 5) d_TP_init_53 (by decide) rfl kl_TP_35 in_Ro it_Ro (by omega) (by decide) (by decide) ?_
  refine E_dup d_TP_init_56 rfl ?_
  first | refine E_aload_n d_TP_init_57 rfl ?_ | refine E_aload_nN d_TP_init_57 rfl ?_
  refine E_getR d_TP_init_58 gf_TP_10 (by with_reducible first | exact s0 | exact s1 _) (by first | exact q0 | exact q3) ?_
  first | refine E_aload_n d_TP_init_61 rfl ?_ | refine E_aload_nN d_TP_init_61 rfl ?_
  refine E_getR d_TP_init_62 gf_TP_31 (by with_reducible first | exact s0 | exact s1 _) (by first | exact q0 | exact q3) ?_
  refine E_callI (As := [.ref 1, .ref 212]) (rest := [.ref G.1, .ref 0]) (b' := 1) (bs' := 8) (b2 := 18) (bs2 := 2047) d_TP_init_65 ml_TP_37 cb_Ro_init ci_Ro_init rfl ⟨by decide, by decide⟩ rfl (Nat.le_of_ble_eq_true rfl) rfl (Nat.le_of_ble_eq_true rfl) (by decide) (by decide) ini (fun v G' M' hM => ?_)
  obtain ⟨rfl, rfl, rfl⟩ := hM
  refine E_putFR d_TP_init_68 gf_TP_40 s2 rfl rfl rfl rfl ?_
  rw [g1]
  exact nx
theorem tq_37 (h : TPI 212 G M) : E 3 22 2128 Y_TP_init 37 [some (.ref 0)] [] G M TPQ := by
  have g1 := h.2.1
  have s0 : Sh G 0 (0, 8) := h.sh (by decide) rfl
  have s1 : ∀ y, Sh (ga G y) 0 (0, 8) := fun y => Sh_ga s0
  have hst := h.ask
  have s2 := hst.sh (k := 0) (x := (0, 8)) (by decide) rfl
  have nx := tq_52 hst
  have r0 : ∀ j q, rmC 0 j = some q → q < 212 → mR (cN M G.1) 0 j = some q := fun j q hj hq => by rw [mR_cN, if_neg (by omega)]; exact h.2.2.2.1 j q hj hq
  have q0 := r0 0 1 rfl (by decide)
  have ini := sp_As_init (M := cN M G.1) (Sh_new G (0, 0)) (Sh_ga (h.sh (k := 1) (by decide) rfl)) (by rw [mR_cN, if_neg (by omega)]; exact (h.2.2.2.2.2.2.1 1 (Or.inl rfl) (by decide)).1 0 2 rfl) (by omega) (show G.1 + 1 < 999990 by omega)
  rw [show (ga G (0, 0)).1 = G.1 + 1 from rfl] at ini
  first | refine E_aload_n d_TP_init_37 rfl ?_ | refine E_aload_nN d_TP_init_37 rfl ?_
  refine E_newD (ci := 0) d_TP_init_38 (by decide) rfl kl_TP_26 in_As it_As (by omega) (by decide) (by decide) ?_
  refine E_dup d_TP_init_41 rfl ?_
  first | refine E_aload_n d_TP_init_42 rfl ?_ | refine E_aload_nN d_TP_init_42 rfl ?_
  refine E_getR d_TP_init_43 gf_TP_10 (by with_reducible first | exact s0 | exact s1 _) (by first | exact q0) ?_
  refine E_callI (As := [.ref 1]) (rest := [.ref G.1, .ref 0]) (b' := 1) (bs' := 64) (b2 := 20) (bs2 := 2058) d_TP_init_46 ml_TP_28 cb_As_init ci_As_init rfl ⟨by decide, by decide⟩ rfl (Nat.le_of_ble_eq_true rfl) rfl (Nat.le_of_ble_eq_true rfl) (by decide) (by decide) ini (fun v G' M' hM => ?_)
  obtain ⟨rfl, rfl, rfl⟩ := hM
  refine E_putFR d_TP_init_49 gf_TP_31 s2 rfl rfl rfl rfl ?_
  rw [g1]
  exact nx
theorem tq_26 (h : TPI 209 G M) : E 3 25 2234 Y_TP_init 26 [some (.ref 0)] [] G M TPQ := by
  have g1 := h.2.1
  have s0 : Sh G 0 (0, 8) := h.sh (by decide) rfl
  have s1 : ∀ y, Sh (ga G y) 0 (0, 8) := fun y => Sh_ga s0
  have hst := h.mom
  have s2 := hst.sh (k := 0) (x := (0, 8)) (by decide) rfl
  have nx := tq_37 hst
  have r0 : ∀ j q, rmC 0 j = some q → q < 209 → mR (cN M G.1) 0 j = some q := fun j q hj hq => by rw [mR_cN, if_neg (by omega)]; exact h.2.2.2.1 j q hj hq
  have q0 := r0 0 1 rfl (by decide)
  have ini := sp_Mo_init (M := cN M G.1) (Sh_new G (0, 2)) (show G.1 + 1 < 999990 by omega)
  rw [show (ga G (0, 2)).1 = G.1 + 1 from rfl] at ini
  first | refine E_aload_n d_TP_init_26 rfl ?_ | refine E_aload_nN d_TP_init_26 rfl ?_
  refine E_newD (ci := 2) d_TP_init_27 (by decide) rfl kl_TP_19 in_Mo it_Mo (by omega) (by decide) (by decide) ?_
  refine E_dup d_TP_init_30 rfl ?_
  refine E_callIN (As := []) (rest := [.ref G.1, .ref 0]) (b' := 2) (bs' := 98) (b2 := 22) (bs2 := 2128) d_TP_init_31 nl_TP_21 cb_Mo_init ci_Mo_init rfl ⟨by decide, by decide⟩ rfl (Nat.le_of_ble_eq_true rfl) rfl (Nat.le_of_ble_eq_true rfl) (by decide) (by decide) ini (fun v G' M' hM => ?_)
  obtain ⟨rfl, rfl, rfl⟩ := hM
  refine E_putFR d_TP_init_34 gf_TP_22 s2 rfl rfl rfl rfl ?_
  rw [g1]
  exact nx
theorem tq_15 (h : TPI 105 G M) : E 3 129 5637 Y_TP_init 15 [some (.ref 0)] [] G M TPQ := by
  have g1 := h.2.1
  have s0 : Sh G 0 (0, 8) := h.sh (by decide) rfl
  have cri : CRI 105 1 False (ga G (0, 1)) (cN M G.1) (ga G (0, 1)) (cN M G.1) := by
    refine ⟨by show G.1 + 1 = _; omega, fun _ _ => rfl, fun k hk => ?_, fun _ _ => ⟨rfl, rfl, rfl⟩, fun j k hj hk => ?_, fun k _ hk => by omega, fun i _ hi => by omega, fun hk => by omega, fun j _ => ?_, fun hk => by omega, fun hk => by omega, fun hk => by omega, fun hk => hk.elim, (h.2.2.2.2.2.2.2.2.2.mono (by decide)).cN _⟩
    · rw [show k = 0 by omega]
      show (if 105 + 0 = G.1 then _ else _) = _
      rw [if_pos (by omega)]; rfl
    · have := rmCr_k hj; omega
    · rw [mI_cN, if_pos (by omega)]
  have ini := sp_Cr_init (c := 105) (by decide) cri
  have e1 : ∀ a, a < 105 → (ga G (0, 1)).2 a = G.2 a ∧ mI (cN M 105) a = mI M a ∧ mR (cN M 105) a = mR M a := fun a ha => ⟨if_neg (by omega), upda_ne _ (by omega), upda_ne _ (by omega)⟩
  have nx : ∀ G' M', CRI 105 104 True (ga G (0, 1)) (cN M 105) G' M' → _ := fun G' M' hC => tq_26 (h.crowd (j0 := 1) (by unfold CrAd; decide) rfl e1 hC)
  have nx0 : ∀ G' M', CRI 105 104 True (ga G (0, 1)) (cN M 105) G' M' → Sh G' 0 (0, 8) := fun G' M' hC => by
    have hT := h.crowd (j0 := 1) (by unfold CrAd; decide) rfl e1 hC
    exact hT.sh (k := 0) (by decide) rfl
  first | refine E_aload_n d_TP_init_15 rfl ?_ | refine E_aload_nN d_TP_init_15 rfl ?_
  refine E_newD (ci := 1) d_TP_init_16 (by decide) rfl kl_TP_7 in_Cr it_Cr (by omega) (by decide) (by decide) ?_
  refine E_dup d_TP_init_19 rfl ?_
  rw [g1] at ini ⊢
  refine E_callI (As := []) (rest := [.ref 105, .ref 0]) (b' := 103) (bs' := 3386) (b2 := 25) (bs2 := 2234) d_TP_init_20 ml_TP_9 cb_Cr_init ci_Cr_init rfl ⟨by decide, by decide⟩ rfl (Nat.le_of_ble_eq_true rfl) rfl (Nat.le_of_ble_eq_true rfl) (by decide) (by decide) ini (fun v G' M' hM => ?_)
  obtain ⟨rfl, hC⟩ := hM
  refine E_putFR d_TP_init_23 gf_TP_16 (nx0 _ _ hC) rfl rfl rfl rfl ?_
  exact nx _ _ hC
theorem tq_4 (h : TPI 1 G M) : E 3 233 9040 Y_TP_init 4 [some (.ref 0)] [] G M TPQ := by
  have g1 := h.2.1
  have s0 : Sh G 0 (0, 8) := h.sh (by decide) rfl
  have cri : CRI 1 1 False (ga G (0, 1)) (cN M G.1) (ga G (0, 1)) (cN M G.1) := by
    refine ⟨by show G.1 + 1 = _; omega, fun _ _ => rfl, fun k hk => ?_, fun _ _ => ⟨rfl, rfl, rfl⟩, fun j k hj hk => ?_, fun k _ hk => by omega, fun i _ hi => by omega, fun hk => by omega, fun j _ => ?_, fun hk => by omega, fun hk => by omega, fun hk => by omega, fun hk => hk.elim, (h.2.2.2.2.2.2.2.2.2.mono (by decide)).cN _⟩
    · rw [show k = 0 by omega]
      show (if 1 + 0 = G.1 then _ else _) = _
      rw [if_pos (by omega)]; rfl
    · have := rmCr_k hj; omega
    · rw [mI_cN, if_pos (by omega)]
  have ini := sp_Cr_init (c := 1) (by decide) cri
  have e1 : ∀ a, a < 1 → (ga G (0, 1)).2 a = G.2 a ∧ mI (cN M 1) a = mI M a ∧ mR (cN M 1) a = mR M a := fun a ha => ⟨if_neg (by omega), upda_ne _ (by omega), upda_ne _ (by omega)⟩
  have nx : ∀ G' M', CRI 1 104 True (ga G (0, 1)) (cN M 1) G' M' → _ := fun G' M' hC => tq_15 (h.crowd (j0 := 0) (by unfold CrAd; decide) rfl e1 hC)
  have nx0 : ∀ G' M', CRI 1 104 True (ga G (0, 1)) (cN M 1) G' M' → Sh G' 0 (0, 8) := fun G' M' hC => by
    have hT := h.crowd (j0 := 0) (by unfold CrAd; decide) rfl e1 hC
    exact hT.sh (k := 0) (by decide) rfl
  first | refine E_aload_n d_TP_init_4 rfl ?_ | refine E_aload_nN d_TP_init_4 rfl ?_
  refine E_newD (ci := 1) d_TP_init_5 (by decide) rfl kl_TP_7 in_Cr it_Cr (by omega) (by decide) (by decide) ?_
  refine E_dup d_TP_init_8 rfl ?_
  rw [g1] at ini ⊢
  refine E_callI (As := []) (rest := [.ref 1, .ref 0]) (b' := 103) (bs' := 3386) (b2 := 129) (bs2 := 5637) d_TP_init_9 ml_TP_9 cb_Cr_init ci_Cr_init rfl ⟨by decide, by decide⟩ rfl (Nat.le_of_ble_eq_true rfl) rfl (Nat.le_of_ble_eq_true rfl) (by decide) (by decide) ini (fun v G' M' hM => ?_)
  obtain ⟨rfl, hC⟩ := hM
  refine E_putFR d_TP_init_12 gf_TP_10 (nx0 _ _ hC) rfl rfl rfl rfl ?_
  exact nx _ _ hC
theorem tpi_1 (hg : G.1 = 1) (h0 : G.2 0 = (0, 8)) (hm : ∀ j, mI M 0 j = 0) (hr : RBd 1 M) : TPI 1 G M := ⟨Or.inl rfl, hg, fun k hk => by rw [show k = 0 by omega]; exact h0, fun j q hj hq => by have := rmC_0 hj; omega, fun a j q a1 a2 => by omega, fun a ha hl => by unfold MoAd at ha; omega, fun c hc hl => by unfold CrAd at hc; omega, hm, fun hk => by omega, hr⟩
theorem sp_TP_init (hg : G.1 = 1) (h0 : G.2 0 = (0, 8)) (hm : ∀ j, mI M 0 j = 0) (hr : RBd 1 M) : E 3 233 9040 Y_TP_init 0 [some (.ref 0)] [] G M TPQ := by
  have nx := tq_4 (tpi_1 hg h0 hm hr)
  first | refine E_aload_n d_TP_init_0 rfl ?_ | refine E_aload_nN d_TP_init_0 rfl ?_
  refine E_obj d_TP_init_1 ml_TP_1 (by decide) (Nat.le_of_ble_eq_true rfl) ?_
  exact nx
end CTe
