section CTa
variable {G : Geo} {M : Mem} {a : Nat}
def moG (G : Geo) : Geo := ga (ga G (1, 8)) (1, 90)
def moI (M : Mem) (a g : Nat) : Mem := wI (wR (cN (wR (cN M g) a 0 (some g)) (g + 1)) a 1 (some (g + 1))) a 6 (nI 449)
theorem Sh2 {x y z : Nat × Nat} (h : Sh G a x) : Sh (ga (ga G y) z) a x := Sh_ga (Sh_ga h)
theorem sp_Mo_init (h : Sh G a (0, 2)) (hg : G.1 < 999990) : E 1 2 98 Y_Mo_init 0 [some (.ref a)] [] G M (fun v G' M' => v = none ∧ G' = moG G ∧ M' = moI M a G.1) := by
  have h1 : ∀ y, Sh (ga G y) a (0, 2) := fun y => Sh_ga h
  have h2 : ∀ y z, Sh (ga (ga G y) z) a (0, 2) := fun y z => Sh2 h
  have g1 : ∀ y, (ga G y).1 = G.1 + 1 := fun _ => rfl
  first | refine E_aload_n d_Mo_init_0 rfl ?_ | refine E_aload_nN d_Mo_init_0 rfl ?_
  refine E_obj d_Mo_init_1 ml_Mo_3 (by decide) (Nat.le_of_ble_eq_true rfl) ?_
  first | refine E_aload_n d_Mo_init_4 rfl ?_ | refine E_aload_nN d_Mo_init_4 rfl ?_
  refine E_bipush (v := nI 8) d_Mo_init_5 (by decide) ?_
  refine E_newarrD (t := 1) (atype := .int) d_Mo_init_7 (by decide) rfl (by decide) (by first | omega | (show G.1 + 1 < 1000000; omega)) (by decide) (by decide) ?_
  refine E_putFR d_Mo_init_9 gf_Mo_9 (by with_reducible first | assumption | exact h1 _ | exact h2 _ _) rfl rfl rfl rfl ?_
  first | refine E_aload_n d_Mo_init_12 rfl ?_ | refine E_aload_nN d_Mo_init_12 rfl ?_
  refine E_bipush (v := nI 90) d_Mo_init_13 (by decide) ?_
  refine E_newarrD (t := 1) (atype := .int) d_Mo_init_15 (by decide) rfl (by decide) (by first | omega | (show G.1 + 1 < 1000000; omega)) (by decide) (by decide) ?_
  refine E_putFR d_Mo_init_17 gf_Mo_15 (by with_reducible first | assumption | exact h1 _ | exact h2 _ _) rfl rfl rfl rfl ?_
  first | refine E_aload_n d_Mo_init_20 rfl ?_ | refine E_aload_nN d_Mo_init_20 rfl ?_
  refine E_sipush (v := nI 449) d_Mo_init_21 (by decide) ?_
  refine E_putI d_Mo_init_24 gf_Mo_18 (by with_reducible first | assumption | exact h1 _ | exact h2 _ _) rfl rfl ?_
  exact E_vret d_Mo_init_27 rfl ⟨rfl, rfl, rfl⟩
def asM (M : Mem) (a g : Nat) : Mem := wR (wR (wR (cN M g) a 1 (some g)) a 0 (some 1)) a 2 (some 2)
theorem sp_As_init (h : Sh G a (0, 0)) (hc : Sh G 1 (0, 1)) (hr : mR M 1 0 = some 2) (ha : a ≠ 1) (hg : G.1 < 999990) : E 1 1 64 Y_As_init 0 [some (.ref a), some (.ref 1)] [] G M (fun v G' M' => v = none ∧ G' = ga G (1, 64) ∧ M' = asM M a G.1) := by
  have h1 : ∀ y, Sh (ga G y) a (0, 0) := fun y => Sh_ga h
  have h2 : ∀ y, Sh (ga G y) 1 (0, 1) := fun y => Sh_ga hc
  have hlt := hc.1
  have e1 : mR (wR (wR (cN M G.1) a 1 (some G.1)) a 0 (some 1)) 1 0 = some 2 := by
    rw [mR_wR, if_neg (fun z => ha z.1.symm), mR_wR, if_neg (fun z => ha z.1.symm), mR_cN, if_neg (by omega)]
    exact hr
  first | refine E_aload_n d_As_init_0 rfl ?_ | refine E_aload_nN d_As_init_0 rfl ?_
  refine E_obj d_As_init_1 ml_As_3 (by decide) (Nat.le_of_ble_eq_true rfl) ?_
  first | refine E_aload_n d_As_init_4 rfl ?_ | refine E_aload_nN d_As_init_4 rfl ?_
  refine E_bipush (v := nI 64) d_As_init_5 (by decide) ?_
  refine E_newarrD (t := 1) (atype := .int) d_As_init_7 (by decide) rfl (by decide) (by omega) (by decide) (by decide) ?_
  refine E_putFR d_As_init_9 gf_As_9 (by with_reducible first | assumption | exact h1 _ | exact h2 _) rfl rfl rfl rfl ?_
  first | refine E_aload_n d_As_init_12 rfl ?_ | refine E_aload_nN d_As_init_12 rfl ?_
  first | refine E_aload_n d_As_init_13 rfl ?_ | refine E_aload_nN d_As_init_13 rfl ?_
  refine E_putFR d_As_init_14 gf_As_15 (by with_reducible first | assumption | exact h1 _ | exact h2 _) rfl rfl rfl rfl ?_
  first | refine E_aload_n d_As_init_17 rfl ?_ | refine E_aload_nN d_As_init_17 rfl ?_
  first | refine E_aload_n d_As_init_18 rfl ?_ | refine E_aload_nN d_As_init_18 rfl ?_
  refine E_getR d_As_init_19 gf_As_19 (by with_reducible first | assumption | exact h1 _ | exact h2 _) (by exact e1) ?_
  refine E_putR d_As_init_22 gf_As_25 (by with_reducible first | assumption | exact h1 _ | exact h2 _) rfl rfl ?_
  exact E_vret d_As_init_25 rfl ⟨rfl, rfl, rfl⟩
def roM (M : Mem) (a g : Nat) : Mem := wR (wR (wR (cN M g) a 2 (some g)) a 0 (some 1)) a 1 (some 212)
theorem sp_Ro_init (h : Sh G a (0, 5)) (hg : G.1 < 999990) : E 1 1 8 Y_Ro_init 0 [some (.ref a), some (.ref 1), some (.ref 212)] [] G M (fun v G' M' => v = none ∧ G' = ga G (1, 8) ∧ M' = roM M a G.1) := by
  have h1 : ∀ y, Sh (ga G y) a (0, 5) := fun y => Sh_ga h
  first | refine E_aload_n d_Ro_init_0 rfl ?_ | refine E_aload_nN d_Ro_init_0 rfl ?_
  refine E_obj d_Ro_init_1 ml_Ro_3 (by decide) (Nat.le_of_ble_eq_true rfl) ?_
  first | refine E_aload_n d_Ro_init_4 rfl ?_ | refine E_aload_nN d_Ro_init_4 rfl ?_
  refine E_bipush (v := nI 8) d_Ro_init_5 (by decide) ?_
  refine E_newarrD (t := 1) (atype := .int) d_Ro_init_7 (by decide) rfl (by decide) (by omega) (by decide) (by decide) ?_
  refine E_putFR d_Ro_init_9 gf_Ro_9 (by with_reducible first | assumption | exact h1 _) rfl rfl rfl rfl ?_
  first | refine E_aload_n d_Ro_init_12 rfl ?_ | refine E_aload_nN d_Ro_init_12 rfl ?_
  first | refine E_aload_n d_Ro_init_13 rfl ?_ | refine E_aload_nN d_Ro_init_13 rfl ?_
  refine E_putFR d_Ro_init_14 gf_Ro_15 (by with_reducible first | assumption | exact h1 _) rfl rfl rfl rfl ?_
  first | refine E_aload_n d_Ro_init_17 rfl ?_ | refine E_aload_nN d_Ro_init_17 rfl ?_
  first | refine E_aload_n d_Ro_init_18 rfl ?_ | refine E_aload_nN d_Ro_init_18 rfl ?_
  refine E_putFR d_Ro_init_19 gf_Ro_19 (by with_reducible first | assumption | exact h1 _) rfl rfl rfl rfl ?_
  exact E_vret d_Ro_init_22 rfl ⟨rfl, rfl, rfl⟩
def ouM (M : Mem) (a g : Nat) : Mem := wR (cN (wR (cN (wR (cN M g) a 0 (some g)) (g + 1)) a 1 (some (g + 1))) (g + 2)) a 2 (some (g + 2))
theorem sp_Ou_init (h : Sh G a (0, 3)) (hg : G.1 < 999990) : E 1 3 27 Y_Ou_init 0 [some (.ref a)] [] G M (fun v G' M' => v = none ∧ G' = ga (ga (ga G (1, 9)) (1, 9)) (1, 9) ∧ M' = ouM M a G.1) := by
  have h1 : ∀ y, Sh (ga G y) a (0, 3) := fun y => Sh_ga h
  have h2 : ∀ y z, Sh (ga (ga G y) z) a (0, 3) := fun y z => Sh2 h
  have h3 : ∀ y z w, Sh (ga (ga (ga G y) z) w) a (0, 3) := fun y z w => Sh_ga (Sh2 h)
  first | refine E_aload_n d_Ou_init_0 rfl ?_ | refine E_aload_nN d_Ou_init_0 rfl ?_
  refine E_obj d_Ou_init_1 ml_Ou_3 (by decide) (Nat.le_of_ble_eq_true rfl) ?_
  first | refine E_aload_n d_Ou_init_4 rfl ?_ | refine E_aload_nN d_Ou_init_4 rfl ?_
  refine E_bipush (v := nI 9) d_Ou_init_5 (by decide) ?_
  refine E_newarrD (t := 1) (atype := .int) d_Ou_init_7 (by decide) rfl (by decide) (by first | omega | (show G.1 + 1 < 1000000; omega) | (show G.1 + 1 + 1 < 1000000; omega)) (by decide) (by decide) ?_
  refine E_putFR d_Ou_init_9 gf_Ou_9 (by with_reducible first | assumption | exact h1 _ | exact h2 _ _ | exact h3 _ _ _) rfl rfl rfl rfl ?_
  first | refine E_aload_n d_Ou_init_12 rfl ?_ | refine E_aload_nN d_Ou_init_12 rfl ?_
  refine E_bipush (v := nI 9) d_Ou_init_13 (by decide) ?_
  refine E_newarrD (t := 1) (atype := .int) d_Ou_init_15 (by decide) rfl (by decide) (by first | omega | (show G.1 + 1 < 1000000; omega) | (show G.1 + 1 + 1 < 1000000; omega)) (by decide) (by decide) ?_
  refine E_putFR d_Ou_init_17 gf_Ou_15 (by with_reducible first | assumption | exact h1 _ | exact h2 _ _ | exact h3 _ _ _) rfl rfl rfl rfl ?_
  first | refine E_aload_n d_Ou_init_20 rfl ?_ | refine E_aload_nN d_Ou_init_20 rfl ?_
  refine E_bipush (v := nI 9) d_Ou_init_21 (by decide) ?_
  refine E_newarrD (t := 1) (atype := .int) d_Ou_init_23 (by decide) rfl (by decide) (by first | omega | (show G.1 + 1 < 1000000; omega) | (show G.1 + 1 + 1 < 1000000; omega)) (by decide) (by decide) ?_
  refine E_putFR d_Ou_init_25 gf_Ou_18 (by with_reducible first | assumption | exact h1 _ | exact h2 _ _ | exact h3 _ _ _) rfl rfl rfl rfl ?_
  exact E_vret d_Ou_init_28 rfl ⟨rfl, rfl, rfl⟩
def taM (M : Mem) (a g : Nat) : Mem := wR (cN (wR (cN (wR (cN (wR (cN M g) a 0 (some g)) (g + 1)) a 2 (some (g + 1))) (g + 2)) a 3 (some (g + 2))) (g + 3)) a 4 (some (g + 3))
theorem sp_Ta_init (h : Sh G a (0, 6)) (hg : G.1 < 999990) : E 1 4 1203 Y_Ta_init 0 [some (.ref a)] [] G M (fun v G' M' => v = none ∧ G' = ga (ga (ga (ga G (1, 300)) (1, 301)) (1, 301)) (1, 301) ∧ M' = taM M a G.1) := by
  have h1 : ∀ y, Sh (ga G y) a (0, 6) := fun y => Sh_ga h
  have h2 : ∀ y z, Sh (ga (ga G y) z) a (0, 6) := fun y z => Sh2 h
  have h3 : ∀ y z w, Sh (ga (ga (ga G y) z) w) a (0, 6) := fun y z w => Sh_ga (Sh2 h)
  have h4 : ∀ y z w u, Sh (ga (ga (ga (ga G y) z) w) u) a (0, 6) := fun y z w u => Sh2 (Sh2 h)
  first | refine E_aload_n d_Ta_init_0 rfl ?_ | refine E_aload_nN d_Ta_init_0 rfl ?_
  refine E_obj d_Ta_init_1 ml_Ta_3 (by decide) (Nat.le_of_ble_eq_true rfl) ?_
  first | refine E_aload_n d_Ta_init_4 rfl ?_ | refine E_aload_nN d_Ta_init_4 rfl ?_
  refine E_sipush (v := nI 300) d_Ta_init_5 (by decide) ?_
  refine E_newarrD (t := 1) (atype := .int) d_Ta_init_8 (by decide) rfl (by decide) (by first | omega | (show G.1 + 1 < 1000000; omega) | (show G.1 + 1 + 1 < 1000000; omega) | (show G.1 + 1 + 1 + 1 < 1000000; omega)) (by decide) (by decide) ?_
  refine E_putFR d_Ta_init_10 gf_Ta_9 (by with_reducible first | assumption | exact h1 _ | exact h2 _ _ | exact h3 _ _ _ | exact h4 _ _ _ _) rfl rfl rfl rfl ?_
  first | refine E_aload_n d_Ta_init_13 rfl ?_ | refine E_aload_nN d_Ta_init_13 rfl ?_
  refine E_sipush (v := nI 301) d_Ta_init_14 (by decide) ?_
  refine E_newarrD (t := 1) (atype := .int) d_Ta_init_17 (by decide) rfl (by decide) (by first | omega | (show G.1 + 1 < 1000000; omega) | (show G.1 + 1 + 1 < 1000000; omega) | (show G.1 + 1 + 1 + 1 < 1000000; omega)) (by decide) (by decide) ?_
  refine E_putFR d_Ta_init_19 gf_Ta_15 (by with_reducible first | assumption | exact h1 _ | exact h2 _ _ | exact h3 _ _ _ | exact h4 _ _ _ _) rfl rfl rfl rfl ?_
  first | refine E_aload_n d_Ta_init_22 rfl ?_ | refine E_aload_nN d_Ta_init_22 rfl ?_
  refine E_sipush (v := nI 301) d_Ta_init_23 (by decide) ?_
  refine E_newarrD (t := 1) (atype := .int) d_Ta_init_26 (by decide) rfl (by decide) (by first | omega | (show G.1 + 1 < 1000000; omega) | (show G.1 + 1 + 1 < 1000000; omega) | (show G.1 + 1 + 1 + 1 < 1000000; omega)) (by decide) (by decide) ?_
  refine E_putFR d_Ta_init_28 gf_Ta_18 (by with_reducible first | assumption | exact h1 _ | exact h2 _ _ | exact h3 _ _ _ | exact h4 _ _ _ _) rfl rfl rfl rfl ?_
  first | refine E_aload_n d_Ta_init_31 rfl ?_ | refine E_aload_nN d_Ta_init_31 rfl ?_
  refine E_sipush (v := nI 301) d_Ta_init_32 (by decide) ?_
  refine E_newarrD (t := 1) (atype := .int) d_Ta_init_35 (by decide) rfl (by decide) (by first | omega | (show G.1 + 1 < 1000000; omega) | (show G.1 + 1 + 1 < 1000000; omega) | (show G.1 + 1 + 1 + 1 < 1000000; omega)) (by decide) (by decide) ?_
  refine E_putFR d_Ta_init_37 gf_Ta_21 (by with_reducible first | assumption | exact h1 _ | exact h2 _ _ | exact h3 _ _ _ | exact h4 _ _ _ _) rfl rfl rfl rfl ?_
  exact E_vret d_Ta_init_40 rfl ⟨rfl, rfl, rfl⟩
def reM (M : Mem) (a g : Nat) : Mem := wR (wR (cN (wR (cN (wR (cN (wR (cN (wR (cN M g) a 1 (some g)) (g + 1)) a 2 (some (g + 1))) (g + 2)) a 3 (some (g + 2))) (g + 3)) a 4 (some (g + 3))) (g + 4)) a 5 (some (g + 4))) a 0 (some 220)
theorem sp_Re_init (h : Sh G a (0, 4)) (hg : G.1 < 999990) : E 1 5 672 Y_Re_init 0 [some (.ref a), some (.ref 220)] [] G M (fun v G' M' => v = none ∧ G' = ga (ga (ga (ga (ga G (1, 24)) (1, 24)) (1, 24)) (1, 300)) (1, 300) ∧ M' = reM M a G.1) := by
  have h1 : ∀ y, Sh (ga G y) a (0, 4) := fun y => Sh_ga h
  have h2 : ∀ y z, Sh (ga (ga G y) z) a (0, 4) := fun y z => Sh2 h
  have h3 : ∀ y z w, Sh (ga (ga (ga G y) z) w) a (0, 4) := fun y z w => Sh_ga (Sh2 h)
  have h4 : ∀ y z w u, Sh (ga (ga (ga (ga G y) z) w) u) a (0, 4) := fun y z w u => Sh2 (Sh2 h)
  have h5 : ∀ y z w u v, Sh (ga (ga (ga (ga (ga G y) z) w) u) v) a (0, 4) := fun y z w u v => Sh_ga (Sh2 (Sh2 h))
  first | refine E_aload_n d_Re_init_0 rfl ?_ | refine E_aload_nN d_Re_init_0 rfl ?_
  refine E_obj d_Re_init_1 ml_Re_3 (by decide) (Nat.le_of_ble_eq_true rfl) ?_
  first | refine E_aload_n d_Re_init_4 rfl ?_ | refine E_aload_nN d_Re_init_4 rfl ?_
  refine E_bipush (v := nI 24) d_Re_init_5 (by decide) ?_
  refine E_newarrD (t := 1) (atype := .int) d_Re_init_7 (by decide) rfl (by decide) (by first | omega | (show G.1 + 1 < 1000000; omega) | (show G.1 + 1 + 1 < 1000000; omega) | (show G.1 + 1 + 1 + 1 < 1000000; omega) | (show G.1 + 1 + 1 + 1 + 1 < 1000000; omega)) (by decide) (by decide) ?_
  refine E_putFR d_Re_init_9 gf_Re_9 (by with_reducible first | assumption | exact h1 _ | exact h2 _ _ | exact h3 _ _ _ | exact h4 _ _ _ _ | exact h5 _ _ _ _ _) rfl rfl rfl rfl ?_
  first | refine E_aload_n d_Re_init_12 rfl ?_ | refine E_aload_nN d_Re_init_12 rfl ?_
  refine E_bipush (v := nI 24) d_Re_init_13 (by decide) ?_
  refine E_newarrD (t := 1) (atype := .int) d_Re_init_15 (by decide) rfl (by decide) (by first | omega | (show G.1 + 1 < 1000000; omega) | (show G.1 + 1 + 1 < 1000000; omega) | (show G.1 + 1 + 1 + 1 < 1000000; omega) | (show G.1 + 1 + 1 + 1 + 1 < 1000000; omega)) (by decide) (by decide) ?_
  refine E_putFR d_Re_init_17 gf_Re_15 (by with_reducible first | assumption | exact h1 _ | exact h2 _ _ | exact h3 _ _ _ | exact h4 _ _ _ _ | exact h5 _ _ _ _ _) rfl rfl rfl rfl ?_
  first | refine E_aload_n d_Re_init_20 rfl ?_ | refine E_aload_nN d_Re_init_20 rfl ?_
  refine E_bipush (v := nI 24) d_Re_init_21 (by decide) ?_
  refine E_newarrD (t := 1) (atype := .int) d_Re_init_23 (by decide) rfl (by decide) (by first | omega | (show G.1 + 1 < 1000000; omega) | (show G.1 + 1 + 1 < 1000000; omega) | (show G.1 + 1 + 1 + 1 < 1000000; omega) | (show G.1 + 1 + 1 + 1 + 1 < 1000000; omega)) (by decide) (by decide) ?_
  refine E_putFR d_Re_init_25 gf_Re_18 (by with_reducible first | assumption | exact h1 _ | exact h2 _ _ | exact h3 _ _ _ | exact h4 _ _ _ _ | exact h5 _ _ _ _ _) rfl rfl rfl rfl ?_
  first | refine E_aload_n d_Re_init_28 rfl ?_ | refine E_aload_nN d_Re_init_28 rfl ?_
  refine E_sipush (v := nI 300) d_Re_init_29 (by decide) ?_
  refine E_newarrD (t := 1) (atype := .int) d_Re_init_32 (by decide) rfl (by decide) (by first | omega | (show G.1 + 1 < 1000000; omega) | (show G.1 + 1 + 1 < 1000000; omega) | (show G.1 + 1 + 1 + 1 < 1000000; omega) | (show G.1 + 1 + 1 + 1 + 1 < 1000000; omega)) (by decide) (by decide) ?_
  refine E_putFR d_Re_init_34 gf_Re_21 (by with_reducible first | assumption | exact h1 _ | exact h2 _ _ | exact h3 _ _ _ | exact h4 _ _ _ _ | exact h5 _ _ _ _ _) rfl rfl rfl rfl ?_
  first | refine E_aload_n d_Re_init_37 rfl ?_ | refine E_aload_nN d_Re_init_37 rfl ?_
  refine E_sipush (v := nI 300) d_Re_init_38 (by decide) ?_
  refine E_newarrD (t := 1) (atype := .int) d_Re_init_41 (by decide) rfl (by decide) (by first | omega | (show G.1 + 1 < 1000000; omega) | (show G.1 + 1 + 1 < 1000000; omega) | (show G.1 + 1 + 1 + 1 < 1000000; omega) | (show G.1 + 1 + 1 + 1 + 1 < 1000000; omega)) (by decide) (by decide) ?_
  refine E_putFR d_Re_init_43 gf_Re_24 (by with_reducible first | assumption | exact h1 _ | exact h2 _ _ | exact h3 _ _ _ | exact h4 _ _ _ _ | exact h5 _ _ _ _ _) rfl rfl rfl rfl ?_
  first | refine E_aload_n d_Re_init_46 rfl ?_ | refine E_aload_nN d_Re_init_46 rfl ?_
  first | refine E_aload_n d_Re_init_47 rfl ?_ | refine E_aload_nN d_Re_init_47 rfl ?_
  refine E_putFR d_Re_init_48 gf_Re_27 (by with_reducible first | assumption | exact h1 _ | exact h2 _ _ | exact h3 _ _ _ | exact h4 _ _ _ _ | exact h5 _ _ _ _ _) rfl rfl rfl rfl ?_
  exact E_vret d_Re_init_51 rfl ⟨rfl, rfl, rfl⟩
end CTa
