section CTf
variable {G G' : Geo} {M M' : Mem} {d b bs : Nat} {Y : MI} {pc : Nat} {ls : List (Option Value)} {st : List Value} {Q : Option Value → Geo → Mem → Prop}
theorem E_wl (h1 : G.1 = G'.1) (hw : ∀ X, wl X G M = wl X G' M') (h : E d b bs Y pc ls st G' M' Q) : E d b bs Y pc ls st G M Q := by
  intro p l e s m args below meth c X A mc ms cells slots H locs la hC
  refine h p l e s m args below meth c X A mc ms cells slots H locs la ⟨hC.1, hC.K, hC.ks, ?_, hC.S, hC.hA, ?_, hC.lv, hC.cl, hC.sl⟩
  · exact ⟨by rw [← hw]; exact hC.P, by rw [← hw]; exact hC.D⟩
  · exact ⟨by rw [← h1]; exact hC.fr.1, fun k k1 k2 => by rw [← h1] at k1 ⊢; exact hC.fr.2 k k1 k2⟩
theorem wl_eq (X : WX) (h1 : G.1 = G'.1) (he : ∀ k, k < G.1 → ecell X M (G.2 k) k = ecell X M' (G'.2 k) k) : wl X G M = wl X G' M' := by
  unfold wl
  rw [← h1]
  exact List.map_congr_left fun k hk => by rw [he k (List.mem_range.mp hk)]
def g0M : Geo := (1, fun _ => (0, 9))
def tmG : Geo := ga (ga (ga (ga (ga (ga (ga (ga (ga (ga (ga (ga (ga (ga (g0M) (1, 1435)) (1, 1435)) (1, 2724)) (1, 300)) (1, 160)) (1, 8)) (2, 330)) (3, 330)) (1, 8)) (1, 18)) (1, 9)) (1, 8)) (2, 9)) (1, 81)
def tmM (M : Mem) : Mem := wR (cN (wR (cN (wR (cN (wR (cN (wR (cN (wR (cN (wI (wR (cN (wR (cN (wR (cN (wR (cN (wI (wI (wR (cN (wR (cN (wR (cN (wR (cN (M) 1) 0 0 (some 1)) 2) 0 1 (some 2)) 3) 0 2 (some 3)) 4) 0 3 (some 4)) 0 5 (-1)) 0 6 (-1)) 5) 0 15 (some 5)) 6) 0 20 (some 6)) 7) 0 21 (some 7)) 8) 0 22 (some 8)) 0 23 (nI 1)) 9) 0 24 (some 9)) 10) 0 25 (some 10)) 11) 0 26 (some 11)) 12) 0 27 (some 12)) 13) 0 28 (some 13)) 14) 0 29 (some 14)
def mmM (M : Mem) : Mem := ((tmM M).1, (tmM M).2.1, fun a j => if a = 0 ∧ 30 ≤ j then some 14 else (tmM M).2.2 a j)
theorem tmG_at : tmG.1 = 15 ∧ ∀ k, k < 15 → tmG.2 k = GM.2 k := by
  refine ⟨rfl, ?_⟩
  unfold tmG GM
  simp only [ga, g0M]
  decide
theorem mm_wl (X : WX) (M : Mem) : wl X tmG (tmM M) = wl X GM (mmM M) := by
  refine wl_eq X rfl fun k hk => ?_
  rw [tmG_at.2 k (by rw [tmG_at.1] at hk; exact hk)]
  have e2 : ∀ a, mI (mmM M) a = mI (tmM M) a := fun _ => rfl
  have e3 : ∀ a, mL (mmM M) a = mL (tmM M) a := fun _ => rfl
  by_cases q : k = 0
  · subst q
    show (Sum.inr (9, (List.range (clN 9)).map (fval X (tmM M) 9 0)) : va_E) = Sum.inr (9, (List.range (clN 9)).map (fval X (mmM M) 9 0))
    have e : (List.range (clN 9)).map (fval X (tmM M) 9 0) = (List.range (clN 9)).map (fval X (mmM M) 9 0) := List.map_congr_left fun j hj => by
      have hj : j < 30 := List.mem_range.mp hj
      have er : mR (mmM M) 0 j = mR (tmM M) 0 j := if_neg (fun z => by omega)
      unfold fval
      rw [er, e2, e3]
    rw [e]
  · refine ecell_ne (M := mmM M) (M' := tmM M) rfl rfl ?_
    funext j
    exact (if_neg (fun z => q z.1)).symm
def crZ : Cr := ((fun _ => 0, [], 0, 0, 0, 0, 449), fun _ => 0, fun _ => 0, fun _ => 0, [], [], none, [], [], fun _ => 0)
theorem crZ_w : Wf crZ := by
  refine ⟨⟨by decide, fun _ => Nat.zero_le _, by decide, rfl, by decide, by decide, by decide, fun e he => absurd he List.not_mem_nil⟩, fun _ => Nat.zero_le _, fun _ => Nat.zero_le _, fun _ => by show 0 < 2 ^ 0; decide, fun _ _ => rfl, by decide, fun m hm => absurd hm List.not_mem_nil, by decide, fun t ht => (by cases ht), by decide, fun q hq => absurd hq List.not_mem_nil, by decide, fun q hq => absurd hq List.not_mem_nil, fun _ => Nat.zero_le _, fun x hx => absurd hx List.not_mem_nil⟩
theorem crZ_A {f : Nat → Int32} (h : ∀ j, j < 1435 → f j = if j = 2 then -1 else if j = 6 then nI 449 else nI 0) : RepA crZ f := by
  have z : ∀ j, j < 1435 → j ≠ 2 → j ≠ 6 → f j = nI 0 := fun j a b c => by rw [h j a, if_neg b, if_neg c]
  refine ⟨z 0 (by decide) (by decide) (by decide), z 1 (by decide) (by decide) (by decide), by rw [h 2 (by decide), if_pos rfl]; rfl, z 3 (by decide) (by decide) (by decide), z 4 (by decide) (by decide) (by decide), z 84 (by decide) (by decide) (by decide), ⟨z 5 (by decide) (by decide) (by decide), by rw [h 6 (by decide), if_neg (by decide), if_pos rfl]; rfl, z 7 (by decide) (by decide) (by decide), z 8 (by decide) (by decide) (by decide), z 9 (by decide) (by decide) (by decide), fun p hp => absurd hp (Nat.not_lt_zero p), fun i hi => absurd hi (Nat.not_lt_zero i)⟩, fun p hp => absurd hp (Nat.not_lt_zero p), fun p hp => absurd hp (Nat.not_lt_zero p), fun p hp => z _ (by omega) (by omega) (by omega), fun i hi => absurd hi (Nat.not_lt_zero i), fun v hv => z _ (by omega) (by omega) (by omega), fun i hi => absurd hi (Nat.not_lt_zero i), fun i hi => absurd hi (Nat.not_lt_zero i)⟩
theorem rmT_k : ∀ j, j < 30 → fk 9 j = 2 → mR (tmM M) 0 j = some (rmT j) := by
  intro j hj hk
  have : j = 0 ∨ j = 1 ∨ j = 2 ∨ j = 3 ∨ j = 15 ∨ j = 20 ∨ j = 21 ∨ j = 22 ∨ j = 24 ∨ j = 25 ∨ j = 26 ∨ j = 27 ∨ j = 28 ∨ j = 29 := by
    have tb : ∀ j, j < 30 → fk 9 j = 2 → j = 0 ∨ j = 1 ∨ j = 2 ∨ j = 3 ∨ j = 15 ∨ j = 20 ∨ j = 21 ∨ j = 22 ∨ j = 24 ∨ j = 25 ∨ j = 26 ∨ j = 27 ∨ j = 28 ∨ j = 29 := by decide
    exact tb j hj hk
  unfold tmM
  rcases this with rfl | rfl | rfl | rfl | rfl | rfl | rfl | rfl | rfl | rfl | rfl | rfl | rfl | rfl <;> simp [mR_wR, mR_wI, mR_cN, rmT]
theorem mm_R : MR (mmM M) := fun j hj => by
  by_cases q : 30 ≤ j
  · show (if 0 = 0 ∧ 30 ≤ j then some 14 else _) = _
    rw [if_pos ⟨rfl, q⟩]
    unfold rmT
    split <;> first | rfl | omega
  · show (if 0 = 0 ∧ 30 ≤ j then some 14 else _) = _
    rw [if_neg (fun z => q z.2)]
    exact rmT_k j (by omega) hj
theorem mm_I (h0 : ∀ j, mI M 0 j = 0) : (∀ a j, 1 ≤ a → a ≤ 14 → mI (mmM M) a j = 0) ∧ ∀ j, mI (mmM M) 0 j = if j = 23 then nI 1 else if j = 6 then -1 else if j = 5 then -1 else 0 := by
  refine ⟨fun a j a1 a2 => ?_, fun j => ?_⟩
  · show mI (tmM M) a j = 0
    unfold tmM
    rcases (show a = 1 ∨ a = 2 ∨ a = 3 ∨ a = 4 ∨ a = 5 ∨ a = 6 ∨ a = 7 ∨ a = 8 ∨ a = 9 ∨ a = 10 ∨ a = 11 ∨ a = 12 ∨ a = 13 ∨ a = 14 by omega) with rfl | rfl | rfl | rfl | rfl | rfl | rfl | rfl | rfl | rfl | rfl | rfl | rfl | rfl <;> simp [mI_wI, mI_wR, mI_cN]
  · show mI (tmM M) 0 j = _
    unfold tmM
    simp [mI_wI, mI_wR, mI_cN, h0]
def TMQ (v : Option Value) (G' : Geo) (M' : Mem) : Prop := v = none ∧ G' = GM ∧ HM crZ M' ∧ RepA crZ (mI M' 2) ∧ TapeM [] M' ∧ NW M' ∧ mI M' 0 5 = -1 ∧ mI M' 0 6 = -1 ∧ mI M' 0 23 = nI 1
theorem sp_TM_init (h0 : ∀ j, mI M 0 j = 0) (hl : mL M 0 11 = 0) : E 2 14 6855 Y_TM_init 0 [some (.ref 0)] [] g0M M TMQ := by
  obtain ⟨i1, i2⟩ := mm_I h0
  have hR : MR (mmM M) := mm_R
  have hR2 : MR (wI (wI (mmM M) 1 6 (nI 449)) 1 2 (-1)) := hR
  have cp := sp_TM_copy (M := wI (wI (mmM M) 1 6 (nI 449)) 1 2 (-1)) (s := 1) (t := 2) ⟨by decide, rfl⟩ ⟨by decide, rfl⟩ (by decide)
  have a1 : ∀ j, mI (wI (wI (mmM M) 1 6 (nI 449)) 1 2 (-1)) 1 j = if j = 2 then -1 else if j = 6 then nI 449 else nI 0 := fun j => by rw [mI_wa, mI_wa, i1 1 j (by decide) (by decide)]; rfl
  have fin : ∀ M', Sx (fun a => a = 2) (wI (wI (mmM M) 1 6 (nI 449)) 1 2 (-1)) M' ∧ (∀ j, j < 1435 → mI M' 2 j = mI (wI (wI (mmM M) 1 6 (nI 449)) 1 2 (-1)) 1 j) → TMQ none GM M' := fun M' hc => by
    obtain ⟨hX, hF⟩ := hc
    have j1 : mI M' 1 = mI (wI (wI (mmM M) 1 6 (nI 449)) 1 2 (-1)) 1 := (hX.2 1 (by decide)).1
    have j0 : mI M' 0 = mI (mmM M) 0 := (hX.2 0 (by decide)).1.trans ((mI_ne (by decide)).trans (mI_ne (by decide)))
    have l0 : mL M' 0 = mL (mmM M) 0 := (hX.2 0 (by decide)).2
    have l11 : mL (mmM M) 0 11 = lN 0 := by
      show mL (tmM M) 0 11 = _
      unfold tmM
      simp [mL_wI, mL_wR, mL_cN, hl]
      rfl
    refine ⟨rfl, rfl, ⟨hR2.sx hX, by rw [j1]; exact crZ_A fun j _ => a1 j, fun t ht => absurd ht (Nat.not_lt_zero t), crZ_w⟩, crZ_A fun j hj => (hF j hj).trans (a1 j), ⟨by decide, by rw [j0, i2]; rfl, fun i hi => absurd hi (Nat.not_lt_zero i), fun b hb => absurd hb List.not_mem_nil⟩, ⟨0, 0, by decide, by decide, by rw [j0, i2]; rfl, by rw [l0]; exact l11⟩, by rw [j0, i2]; rfl, by rw [j0, i2]; rfl, by rw [j0, i2]; rfl⟩
  have k138 : E 2 0 0 Y_TM_init 138 [some (.ref 0)] [] GM (mmM M) TMQ := by
    first | refine E_aload_n d_TM_init_138 rfl ?_ | refine E_aload_nN d_TM_init_138 rfl ?_
    refine E_getR (q := 1) d_TM_init_139 gf_TM_7 (by exact ⟨by decide, rfl⟩) (by exact hR _ rfl) ?_
    refine E_bipush (v := nI 6) d_TM_init_142 (by decide) ?_
    refine E_sipush (v := nI 449) d_TM_init_144 (by decide) ?_
    refine E_iast d_TM_init_147 (by exact ⟨by decide, rfl⟩) (by exact ⟨by with_reducible rfl, by omega, by decide⟩) ?_
    first | refine E_aload_n d_TM_init_148 rfl ?_ | refine E_aload_nN d_TM_init_148 rfl ?_
    refine E_getR (q := 1) d_TM_init_149 gf_TM_7 (by exact ⟨by decide, rfl⟩) (by exact hR _ rfl) ?_
    refine E_iconst (v := nI 2) d_TM_init_152 rfl ?_
    refine E_iconst (v := (-1)) d_TM_init_153 rfl ?_
    refine E_iast d_TM_init_154 (by exact ⟨by decide, rfl⟩) (by exact ⟨by with_reducible rfl, by omega, by decide⟩) ?_
    first | refine E_aload_n d_TM_init_155 rfl ?_ | refine E_aload_nN d_TM_init_155 rfl ?_
    refine E_getR (q := 1) d_TM_init_156 gf_TM_7 (by exact ⟨by decide, rfl⟩) (by exact hR _ rfl) ?_
    first | refine E_aload_n d_TM_init_159 rfl ?_ | refine E_aload_nN d_TM_init_159 rfl ?_
    refine E_getR (q := 2) d_TM_init_160 gf_TM_13 (by exact ⟨by decide, rfl⟩) (by exact hR _ rfl) ?_
    refine E_S2 (cp) d_TM_init_163 ml_TM_65 cb_TM_copy cs_TM_copy ⟨by decide, by decide⟩ rfl (Nat.le_of_ble_eq_true rfl) (Nat.le_of_ble_eq_true rfl) (kV fun M1 hc => ?_)
    skip
    exact E_vret d_TM_init_166 rfl (fin _ hc)
  first | refine E_aload_n d_TM_init_0 rfl ?_ | refine E_aload_nN d_TM_init_0 rfl ?_
  refine E_obj d_TM_init_1 ml_TM_1 (by decide) (Nat.le_of_ble_eq_true rfl) ?_
  first | refine E_aload_n d_TM_init_4 rfl ?_ | refine E_aload_nN d_TM_init_4 rfl ?_
  refine E_sipush (v := nI 1435) d_TM_init_5 (by decide) ?_
  refine E_newarrD (t := 1) (atype := .int) d_TM_init_8 (by decide) rfl (by decide) (by decide) (by decide) (by decide) ?_
  refine E_putFR d_TM_init_10 gf_TM_7 (by exact ⟨by decide, rfl⟩) rfl rfl rfl rfl ?_
  first | refine E_aload_n d_TM_init_13 rfl ?_ | refine E_aload_nN d_TM_init_13 rfl ?_
  refine E_sipush (v := nI 1435) d_TM_init_14 (by decide) ?_
  refine E_newarrD (t := 1) (atype := .int) d_TM_init_17 (by decide) rfl (by decide) (by decide) (by decide) (by decide) ?_
  refine E_putFR d_TM_init_19 gf_TM_13 (by exact ⟨by decide, rfl⟩) rfl rfl rfl rfl ?_
  first | refine E_aload_n d_TM_init_22 rfl ?_ | refine E_aload_nN d_TM_init_22 rfl ?_
  refine E_sipush (v := nI 2724) d_TM_init_23 (by decide) ?_
  refine E_newarrD (t := 1) (atype := .int) d_TM_init_26 (by decide) rfl (by decide) (by decide) (by decide) (by decide) ?_
  refine E_putFR d_TM_init_28 gf_TM_16 (by exact ⟨by decide, rfl⟩) rfl rfl rfl rfl ?_
  first | refine E_aload_n d_TM_init_31 rfl ?_ | refine E_aload_nN d_TM_init_31 rfl ?_
  refine E_sipush (v := nI 300) d_TM_init_32 (by decide) ?_
  refine E_newarrD (t := 1) (atype := .int) d_TM_init_35 (by decide) rfl (by decide) (by decide) (by decide) (by decide) ?_
  refine E_putFR d_TM_init_37 gf_TM_19 (by exact ⟨by decide, rfl⟩) rfl rfl rfl rfl ?_
  first | refine E_aload_n d_TM_init_40 rfl ?_ | refine E_aload_nN d_TM_init_40 rfl ?_
  refine E_iconst (v := (-1)) d_TM_init_41 rfl ?_
  refine E_putI d_TM_init_42 gf_TM_22 (by exact ⟨by decide, rfl⟩) rfl rfl ?_
  first | refine E_aload_n d_TM_init_45 rfl ?_ | refine E_aload_nN d_TM_init_45 rfl ?_
  refine E_iconst (v := (-1)) d_TM_init_46 rfl ?_
  refine E_putI d_TM_init_47 gf_TM_26 (by exact ⟨by decide, rfl⟩) rfl rfl ?_
  first | refine E_aload_n d_TM_init_50 rfl ?_ | refine E_aload_nN d_TM_init_50 rfl ?_
  refine E_sipush (v := nI 160) d_TM_init_51 (by decide) ?_
  refine E_newarrD (t := 1) (atype := .int) d_TM_init_54 (by decide) rfl (by decide) (by decide) (by decide) (by decide) ?_
  refine E_putFR d_TM_init_56 gf_TM_29 (by exact ⟨by decide, rfl⟩) rfl rfl rfl rfl ?_
  first | refine E_aload_n d_TM_init_59 rfl ?_ | refine E_aload_nN d_TM_init_59 rfl ?_
  refine E_bipush (v := nI 8) d_TM_init_60 (by decide) ?_
  refine E_newarrD (t := 1) (atype := .int) d_TM_init_62 (by decide) rfl (by decide) (by decide) (by decide) (by decide) ?_
  refine E_putFR d_TM_init_64 gf_TM_32 (by exact ⟨by decide, rfl⟩) rfl rfl rfl rfl ?_
  first | refine E_aload_n d_TM_init_67 rfl ?_ | refine E_aload_nN d_TM_init_67 rfl ?_
  refine E_sipush (v := nI 330) d_TM_init_68 (by decide) ?_
  refine E_newarrD (t := 2) (atype := .long) d_TM_init_71 (by decide) rfl (by decide) (by decide) (by decide) (by decide) ?_
  refine E_putFR d_TM_init_73 gf_TM_35 (by exact ⟨by decide, rfl⟩) rfl rfl rfl rfl ?_
  first | refine E_aload_n d_TM_init_76 rfl ?_ | refine E_aload_nN d_TM_init_76 rfl ?_
  refine E_sipush (v := nI 330) d_TM_init_77 (by decide) ?_
  refine E_newarrD (t := 3) (atype := .boolean) d_TM_init_80 (by decide) rfl (by decide) (by decide) (by decide) (by decide) ?_
  refine E_putFR d_TM_init_82 gf_TM_39 (by exact ⟨by decide, rfl⟩) rfl rfl rfl rfl ?_
  first | refine E_aload_n d_TM_init_85 rfl ?_ | refine E_aload_nN d_TM_init_85 rfl ?_
  refine E_iconst (v := nI 1) d_TM_init_86 rfl ?_
  refine E_putZ d_TM_init_87 gf_TM_43 (by exact ⟨by decide, rfl⟩) rfl rfl (by decide) ?_
  first | refine E_aload_n d_TM_init_90 rfl ?_ | refine E_aload_nN d_TM_init_90 rfl ?_
  refine E_bipush (v := nI 8) d_TM_init_91 (by decide) ?_
  refine E_newarrD (t := 1) (atype := .int) d_TM_init_93 (by decide) rfl (by decide) (by decide) (by decide) (by decide) ?_
  refine E_putFR d_TM_init_95 gf_TM_47 (by exact ⟨by decide, rfl⟩) rfl rfl rfl rfl ?_
  first | refine E_aload_n d_TM_init_98 rfl ?_ | refine E_aload_nN d_TM_init_98 rfl ?_
  refine E_bipush (v := nI 18) d_TM_init_99 (by decide) ?_
  refine E_newarrD (t := 1) (atype := .int) d_TM_init_101 (by decide) rfl (by decide) (by decide) (by decide) (by decide) ?_
  refine E_putFR d_TM_init_103 gf_TM_50 (by exact ⟨by decide, rfl⟩) rfl rfl rfl rfl ?_
  first | refine E_aload_n d_TM_init_106 rfl ?_ | refine E_aload_nN d_TM_init_106 rfl ?_
  refine E_bipush (v := nI 9) d_TM_init_107 (by decide) ?_
  refine E_newarrD (t := 1) (atype := .int) d_TM_init_109 (by decide) rfl (by decide) (by decide) (by decide) (by decide) ?_
  refine E_putFR d_TM_init_111 gf_TM_53 (by exact ⟨by decide, rfl⟩) rfl rfl rfl rfl ?_
  first | refine E_aload_n d_TM_init_114 rfl ?_ | refine E_aload_nN d_TM_init_114 rfl ?_
  refine E_bipush (v := nI 8) d_TM_init_115 (by decide) ?_
  refine E_newarrD (t := 1) (atype := .int) d_TM_init_117 (by decide) rfl (by decide) (by decide) (by decide) (by decide) ?_
  refine E_putFR d_TM_init_119 gf_TM_56 (by exact ⟨by decide, rfl⟩) rfl rfl rfl rfl ?_
  first | refine E_aload_n d_TM_init_122 rfl ?_ | refine E_aload_nN d_TM_init_122 rfl ?_
  refine E_bipush (v := nI 9) d_TM_init_123 (by decide) ?_
  refine E_newarrD (t := 2) (atype := .long) d_TM_init_125 (by decide) rfl (by decide) (by decide) (by decide) (by decide) ?_
  refine E_putFR d_TM_init_127 gf_TM_59 (by exact ⟨by decide, rfl⟩) rfl rfl rfl rfl ?_
  first | refine E_aload_n d_TM_init_130 rfl ?_ | refine E_aload_nN d_TM_init_130 rfl ?_
  refine E_bipush (v := nI 81) d_TM_init_131 (by decide) ?_
  refine E_newarrD (t := 1) (atype := .int) d_TM_init_133 (by decide) rfl (by decide) (by decide) (by decide) (by decide) ?_
  refine E_putFR d_TM_init_135 gf_TM_62 (by exact ⟨by decide, rfl⟩) rfl rfl rfl rfl ?_
  refine E_wl (G := tmG) (M := tmM M) (G' := GM) (M' := mmM M) rfl (fun X => mm_wl X M) ?_
  exact k138
end CTf
