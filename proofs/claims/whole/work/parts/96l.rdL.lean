section BUD
variable {d b bs : Nat} {Y : MI} {pc : Nat} {ls : List (Option Value)} {st : List Value} {G : Geo} {M : Mem} {Q : Option Value → Geo → Mem → Prop}
theorem E_bud {b' bs' : Nat} (hb : b ≤ b') (hbs : bs ≤ bs') (h : E d b bs Y pc ls st G M Q) : E d b' bs' Y pc ls st G M Q := fun p l e s m args below meth c X A mc ms cells slots H locs la hC => h p l e s m args below meth c X A mc ms cells slots H locs la ⟨hC.1, hC.K, hC.ks, hC.2.2.2.1, hC.S, hC.hA, hC.fr, hC.lv, by have := hC.cl; omega, by have := hC.sl; omega⟩
theorem E_newD {idx ci : Nat} {C : String} (hd : decode Y.2.1 pc = .ok (.new idx, 3)) (hci : ci < NC) (hC : clC ci = C) (hk : Cond.classLink Y.1.cls idx C ∈ TB) (hin : Cond.instantiable C (clN ci) ∈ TB) (hit : Cond.initialized C ∈ TB) (hG : G.1 < 1000000) (hb : 1 ≤ b) (hbs : clN ci ≤ bs) (kk : E d (b - 1) (bs - clN ci) Y (pc + 3) ls (.ref G.1 :: st) (ga G (0, ci)) (cN M G.1) Q) : E d b bs Y pc ls st G M Q :=
  E_bud (b := b - 1 + 1) (bs := bs - clN ci + clN ci) (by omega) (by omega) (E_new hd hci hC hk hin hit hG kk)
theorem E_newarrD {t : Nat} {atype : ArrayType} {i : Int32} {n : Nat} (hd : decode Y.2.1 pc = .ok (.newarray atype, 2)) (ht : (t = 1 ∧ atype = .int) ∨ (t = 2 ∧ atype = .long) ∨ (t = 3 ∧ atype = .boolean)) (hi : i = nI n) (hn : n ≤ 100000) (hG : G.1 < 1000000) (hb : 1 ≤ b) (hbs : n ≤ bs) (kk : E d (b - 1) (bs - n) Y (pc + 2) ls (.ref G.1 :: st) (ga G (t, n)) (cN M G.1) Q) : E d b bs Y pc ls (.int i :: st) G M Q :=
  E_bud (b := b - 1 + 1) (bs := bs - n + n) (by omega) (by omega) (E_newarr (ty := .int) hd ht hi hn hG kk)
theorem E_anewD {t idx : Nat} {C : String} {i : Int32} {n : Nat} (hd : decode Y.2.1 pc = .ok (.anewarray idx, 3)) (hk : Cond.classLink Y.1.cls idx C ∈ TB) (ht : (t = 4 ∧ C = "TruePoll$Moment") ∨ (t = 5 ∧ C = "TruePoll$Text")) (hi : i = nI n) (hn : n ≤ 100000) (hG : G.1 < 1000000) (hb : 1 ≤ b) (hbs : n ≤ bs) (kk : E d (b - 1) (bs - n) Y (pc + 3) ls (.ref G.1 :: st) (ga G (t, n)) (cN M G.1) Q) : E d b bs Y pc ls (.int i :: st) G M Q :=
  E_bud (b := b - 1 + 1) (bs := bs - n + n) (by omega) (by omega) (E_anew hd hk ht hi hn hG kk)
theorem E_cloneD {idx a n : Nat} (hd : decode Y.2.1 pc = .ok (.invokevirtual idx, 3)) (hl : Cond.methodLink Y.1.cls idx ⟨"[I", "clone", "()Ljava/lang/Object;"⟩ ∈ TB) (hdp : 1 ≤ d) (hroom : (st.map fun v => v.category).sum ≤ 8) (hs : Sh G a (1, n)) (hG : G.1 < 1000000) (hb : 1 ≤ b) (hbs : n ≤ bs) (kk : E d (b - 1) (bs - n) Y (pc + 3) ls (.ref G.1 :: st) (ga G (1, n)) (wA (cN M G.1) G.1 (mI M a)) Q) : E d b bs Y pc ls (.ref a :: st) G M Q :=
  E_bud (b := b - 1 + 1) (bs := bs - n + n) (by omega) (by omega) (E_clone hd hl hdp hroom hs hG kk)
theorem sp_JA_copyOf {a N n : Nat} (hs : Sh G a (1, N)) (hN : N ≤ 300) (hn : n ≤ N) (hG : G.1 < 1000000) : E 1 1 n Y_JA_copyOf 0 [some (.ref a), some (.int (nI n)), none] [] G M (fun v G' M' => v = some (.ref G.1) ∧ G' = ga G (1, n) ∧ ∃ g, M' = wA (cN M G.1) G.1 g ∧ ∀ j, j < n → g j = mI M a j) := by
  have hne : a ≠ G.1 := Nat.ne_of_lt hs.1
  by_cases e : n = N
  · subst e
    have hs2 : Sh (ga G (1, n)) G.1 (1, n) := Sh_new G (1, n)
    refine E_iload_n d_JA_copyOf_0 rfl ?_
    first | refine E_aload_n d_JA_copyOf_1 rfl ?_ | refine E_aload_nN d_JA_copyOf_1 rfl ?_
    refine E_alen d_JA_copyOf_2 (by assumption) (by decide) rfl ?_
    first | (with_reducible refine E_isN2 ?_; refine E_icmp_ne 14 d_JA_copyOf_3 rfl (nb_ne fun h3 => ?_) (nb_eq (by omega) (by omega) fun h3 => ?_)) | refine E_icmp_ne 14 d_JA_copyOf_3 rfl (fun h3 => ?_) (fun h3 => ?_)
    · exfalso; omega
    first | refine E_aload_n d_JA_copyOf_6 rfl ?_ | refine E_aload_nN d_JA_copyOf_6 rfl ?_
    refine E_cloneD d_JA_copyOf_7 ml_JA_316 (by decide) (Nat.le_of_ble_eq_true rfl) (by assumption) (by omega) (by omega) (by omega) ?_
    refine E_castA d_JA_copyOf_10 kl_JA_317 (by assumption) ?_
    exact E_aretR d_JA_copyOf_13 rfl rfl ⟨rfl, rfl, _, rfl, fun j _ => rfl⟩
  · have hs2 : Sh (ga G (1, n)) G.1 (1, n) := Sh_new G (1, n)
    have hs3 : Sh (ga G (1, n)) a (1, N) := Sh_ga hs
    have em : (if nI n < nI N then nI n else nI N) = nI n := if_pos ((nI_ltI (by omega) (by omega)).mpr (by omega))
    have ea : mI (cN M G.1) a = mI M a := funext fun j => by rw [mI_cN, if_neg hne]
    refine E_iload_n d_JA_copyOf_0 rfl ?_
    first | refine E_aload_n d_JA_copyOf_1 rfl ?_ | refine E_aload_nN d_JA_copyOf_1 rfl ?_
    refine E_alen d_JA_copyOf_2 (by assumption) (by decide) rfl ?_
    first | (with_reducible refine E_isN2 ?_; refine E_icmp_ne 14 d_JA_copyOf_3 rfl (nb_ne fun h3 => ?_) (nb_eq (by omega) (by omega) fun h3 => ?_)) | refine E_icmp_ne 14 d_JA_copyOf_3 rfl (fun h3 => ?_) (fun h3 => ?_)
    rotate_left
    · exfalso; omega
    refine E_iload_n d_JA_copyOf_14 rfl ?_
    refine E_newarrD (t := 1) (atype := .int) d_JA_copyOf_15 (by decide) rfl (by omega) (by omega) (by omega) (by omega) ?_
    first | refine E_astore_2 d_JA_copyOf_17 rfl ?_ | refine E_astoreN_2 d_JA_copyOf_17 rfl ?_
    first | refine E_aload_n d_JA_copyOf_18 rfl ?_ | refine E_aload_nN d_JA_copyOf_18 rfl ?_
    refine E_iconst (v := nI 0) d_JA_copyOf_19 rfl ?_
    first | refine E_aload_n d_JA_copyOf_20 rfl ?_ | refine E_aload_nN d_JA_copyOf_20 rfl ?_
    refine E_iconst (v := nI 0) d_JA_copyOf_21 rfl ?_
    first | refine E_aload_n d_JA_copyOf_22 rfl ?_ | refine E_aload_nN d_JA_copyOf_22 rfl ?_
    refine E_alen d_JA_copyOf_23 (by assumption) (by decide) rfl ?_
    refine E_iload_n d_JA_copyOf_24 rfl ?_
    refine E_minI d_JA_copyOf_25 ml_JA_304 (by decide) (Nat.le_of_ble_eq_true rfl) ?_
    rw [em]
    refine E_copy d_JA_copyOf_28 ml_JA_150 (by decide) (Nat.le_of_ble_eq_true rfl) (by assumption) (by assumption) rfl rfl rfl (by omega) (by omega) (by omega) (by omega) ?_
    first | refine E_aload_n d_JA_copyOf_31 rfl ?_ | refine E_aload_nN d_JA_copyOf_31 rfl ?_
    exact E_aretR d_JA_copyOf_32 rfl rfl ⟨rfl, rfl, _, rfl, fun j hj => (cpy_all hj).trans (by rw [ea])⟩
theorem E_cpOf {idx a N n : Nat} (hd : decode Y.2.1 pc = .ok (.invokestatic idx, 3)) (hl : Cond.methodLink Y.1.cls idx Y_JA_copyOf.1 ∈ TB) (hs : Sh G a (1, N)) (hN : N ≤ 300) (hn : n ≤ N) (hG : G.1 < 1000000) (hdd : 2 ≤ d) (hb : 1 ≤ b) (hbs : n ≤ bs) (hroom : (st.map fun v => v.category).sum ≤ 8) (kk : ∀ g, (∀ j, j < n → g j = mI M a j) → E d (b - 1) (bs - n) Y (pc + 3) ls (.ref G.1 :: st) (ga G (1, n)) (wA (cN M G.1) G.1 g) Q) : E d b bs Y pc ls (.int (nI n) :: .ref a :: st) G M Q :=
  E_callS (As := [.ref a, .int (nI n)]) (rest := st) (b' := 1) (bs' := n) (b2 := b - 1) (bs2 := bs - n) hd hl cb_JA_copyOf cs_JA_copyOf rfl ⟨by omega, by decide⟩ rfl (Nat.le_of_ble_eq_true rfl) rfl hroom (by omega) (by omega) (sp_JA_copyOf hs hN hn hG) (fun v G' M' h => by
    obtain ⟨rfl, rfl, g, rfl, hg⟩ := h
    exact kk g hg)
end BUD
section MADE
variable {G : Geo} {M : Mem} {l : List Nat}
def Ext (G G' : Geo) : Prop := G.1 ≤ G'.1 ∧ ∀ a, a < G.1 → G'.2 a = G.2 a
theorem Ext.rf : Ext G G := ⟨Nat.le_refl _, fun _ _ => rfl⟩
theorem Ext.sh {G' : Geo} {a : Nat} {x : Nat × Nat} (h : Ext G G') (s : Sh G a x) : Sh G' a x := ⟨Nat.lt_of_lt_of_le s.1 h.1, (h.2 a s.1).trans s.2⟩
theorem Ext.ga {G' : Geo} (h : Ext G G') (x : Nat × Nat) : Ext G (ga G' x) := ⟨Nat.le_succ_of_le h.1, fun a ha => (if_neg (Nat.ne_of_lt (Nat.lt_of_lt_of_le ha h.1))).trans (h.2 a ha)⟩
def Sm (g : Nat) (M M' : Mem) : Prop := ∀ a, a < g → mI M' a = mI M a ∧ mL M' a = mL M a ∧ mR M' a = mR M a
theorem Sm.rf {g : Nat} : Sm g M M := fun _ _ => ⟨rfl, rfl, rfl⟩
theorem Sm.tr {g : Nat} {M1 M2 : Mem} (h : Sm g M M1) (k : Sm g M1 M2) : Sm g M M2 := fun a ha => ⟨(k a ha).1.trans (h a ha).1, (k a ha).2.1.trans (h a ha).2.1, (k a ha).2.2.trans (h a ha).2.2⟩
theorem Sm.cN {g a : Nat} {M1 : Mem} (h : Sm g M M1) (ha : g ≤ a) : Sm g M (cN M1 a) := fun b hb => ⟨(upda_ne _ (by omega)).trans (h b hb).1, (upda_ne _ (by omega)).trans (h b hb).2.1, (upda_ne _ (by omega)).trans (h b hb).2.2⟩
theorem Sm.wA {g a : Nat} {f : Nat → Int32} {M1 : Mem} (h : Sm g M M1) (ha : g ≤ a) : Sm g M (wA M1 a f) := fun b hb => ⟨(upda_ne _ (by omega)).trans (h b hb).1, (h b hb).2.1, (h b hb).2.2⟩
theorem Sm.wR {g a j : Nat} {f : Option Nat} {M1 : Mem} (h : Sm g M M1) (ha : g ≤ a) : Sm g M (wR M1 a j f) := fun b hb => ⟨(h b hb).1, (h b hb).2.1, (upd2_ne _ (by omega)).trans (h b hb).2.2⟩
theorem Sm.wI {g a j : Nat} {f : Int32} {M1 : Mem} (h : Sm g M M1) (ha : g ≤ a) : Sm g M (wI M1 a j f) := fun b hb => ⟨(upd2_ne _ (by omega)).trans (h b hb).1, (h b hb).2.1, (h b hb).2.2⟩
def szT (n b t : Nat) : Nat := if t ≤ 3 then n else b
def StM (n b : Nat) (G : Geo) (M : Mem) (i : Nat) (G' : Geo) (M' : Mem) : Prop := Ext G G' ∧ Sm G.1 M M' ∧ G'.1 = G.1 + 1 + i ∧ Sh G' G.1 (0, 7) ∧ ∀ t, 1 ≤ t → t ≤ i → Sh G' (G.1 + t) (1, szT n b t) ∧ ∀ j, j < szT n b t → mI M' (G.1 + t) j = mI M (225 + t) j
theorem StM.st {n b i : Nat} {G' : Geo} {M' : Mem} (h : StM n b G M i G' M') (hG : 234 ≤ G.1) (hi : i ≤ 4) {g : Nat → Int32} (hg : ∀ j, j < szT n b (i + 1) → g j = mI M' (225 + (i + 1)) j) : StM n b G M (i + 1) (ga G' (1, szT n b (i + 1))) (wA (cN M' G'.1) G'.1 g) := by
  obtain ⟨h1, h2, h3, h4, h5⟩ := h
  have hle : G.1 ≤ G'.1 := h1.1
  refine ⟨h1.ga _, (h2.cN hle).wA hle, by show G'.1 + 1 = _; omega, Sh_ga h4, fun t t1 t2 => ?_⟩
  by_cases e : t = i + 1
  · subst e
    rw [show G.1 + (i + 1) = G'.1 by omega]
    refine ⟨Sh_new G' _, fun j hj => ?_⟩
    rw [wA_at, hg j hj, (h2 (225 + (i + 1)) (by omega)).1]
  · obtain ⟨q1, q2⟩ := h5 t t1 (by omega)
    refine ⟨Sh_ga q1, fun j hj => ?_⟩
    rw [wA_ne (by omega), mI_cN, if_neg (by omega)]
    exact q2 j hj
def Mde (n b : Nat) (v1 v2 v3 v4 : Int32) (G : Geo) (M : Mem) (v : Option Value) (G' : Geo) (M' : Mem) : Prop := v = some (.ref G.1) ∧ StM n b G M 5 G' M' ∧ (∀ j, j < 5 → mR M' G.1 j = some (G.1 + 1 + j)) ∧ mI M' G.1 5 = v1 ∧ mI M' G.1 6 = v2 ∧ mI M' G.1 7 = v3 ∧ mI M' G.1 8 = v4
def txM (M : Mem) (g : Nat) : Mem := wR (wR (wR (wR (wR (wI (wI M g 5 (-1)) g 7 (-1)) g 0 (some (g + 1))) g 1 (some (g + 2))) g 2 (some (g + 3))) g 3 (some (g + 4))) g 4 (some (g + 5))
theorem sp_Tx_init {g : Nat} (h : Sh G g (0, 7)) : E 1 0 0 Y_Tx_init 0 [some (.ref g), some (.ref (g + 1)), some (.ref (g + 2)), some (.ref (g + 3)), some (.ref (g + 4)), some (.ref (g + 5))] [] G M (QV G fun M' => M' = txM M g) := by
  first | refine E_aload_n d_Tx_init_0 rfl ?_ | refine E_aload_nN d_Tx_init_0 rfl ?_
  refine E_obj d_Tx_init_1 ml_Tx_3 (by decide) (Nat.le_of_ble_eq_true rfl) ?_
  first | refine E_aload_n d_Tx_init_4 rfl ?_ | refine E_aload_nN d_Tx_init_4 rfl ?_
  refine E_iconst (v := (-1)) d_Tx_init_5 rfl ?_
  refine E_putI d_Tx_init_6 gf_Tx_9 (by assumption) rfl rfl ?_
  first | refine E_aload_n d_Tx_init_9 rfl ?_ | refine E_aload_nN d_Tx_init_9 rfl ?_
  refine E_iconst (v := (-1)) d_Tx_init_10 rfl ?_
  refine E_putI d_Tx_init_11 gf_Tx_15 (by assumption) rfl rfl ?_
  first | refine E_aload_n d_Tx_init_14 rfl ?_ | refine E_aload_nN d_Tx_init_14 rfl ?_
  first | refine E_aload_n d_Tx_init_15 rfl ?_ | refine E_aload_nN d_Tx_init_15 rfl ?_
  refine E_putFR d_Tx_init_16 gf_Tx_18 (by assumption) rfl rfl rfl rfl ?_
  first | refine E_aload_n d_Tx_init_19 rfl ?_ | refine E_aload_nN d_Tx_init_19 rfl ?_
  first | refine E_aload_n d_Tx_init_20 rfl ?_ | refine E_aload_nN d_Tx_init_20 rfl ?_
  refine E_putFR d_Tx_init_21 gf_Tx_22 (by assumption) rfl rfl rfl rfl ?_
  first | refine E_aload_n d_Tx_init_24 rfl ?_ | refine E_aload_nN d_Tx_init_24 rfl ?_
  first | refine E_aload_n d_Tx_init_25 rfl ?_ | refine E_aload_nN d_Tx_init_25 rfl ?_
  refine E_putFR d_Tx_init_26 gf_Tx_25 (by assumption) rfl rfl rfl rfl ?_
  first | refine E_aload_n d_Tx_init_29 rfl ?_ | refine E_aload_nN d_Tx_init_29 rfl ?_
  first | refine E_aload d_Tx_init_30 rfl ?_ | refine E_aloadN d_Tx_init_30 rfl ?_
  refine E_putFR d_Tx_init_32 gf_Tx_28 (by assumption) rfl rfl rfl rfl ?_
  first | refine E_aload_n d_Tx_init_35 rfl ?_ | refine E_aload_nN d_Tx_init_35 rfl ?_
  first | refine E_aload d_Tx_init_36 rfl ?_ | refine E_aloadN d_Tx_init_36 rfl ?_
  refine E_putFR d_Tx_init_38 gf_Tx_31 (by assumption) rfl rfl rfl rfl ?_
  refine E_retV d_Tx_init_41 rfl ?_
  rfl
theorem md_fin {n b g : Nat} {v1 v2 v3 v4 : Int32} {G' : Geo} {M' : Mem} (hg : g = G.1) (h : StM n b G M 5 G' M') : Mde n b v1 v2 v3 v4 G M (some (.ref g)) G' (wI (wI (wI (wI (txM M' g) g 5 v1) g 6 v2) g 7 v3) g 8 v4) := by
  subst hg
  obtain ⟨h1, h2, h3, h4, h5⟩ := h
  refine ⟨rfl, ⟨h1, ?_, h3, h4, fun t t1 t2 => ⟨(h5 t t1 t2).1, fun j hj => ?_⟩⟩, fun j hj => ?_, ?_, ?_, ?_, ?_⟩
  · exact ((((((((((h2.wI (Nat.le_refl _)).wI (Nat.le_refl _)).wR (Nat.le_refl _)).wR (Nat.le_refl _)).wR (Nat.le_refl _)).wR (Nat.le_refl _)).wR (Nat.le_refl _)).wI (Nat.le_refl _)).wI (Nat.le_refl _)).wI (Nat.le_refl _)).wI (Nat.le_refl _)
  · rw [mI_wx (by omega), mI_wx (by omega), mI_wx (by omega), mI_wx (by omega)]
    unfold txM
    rw [mI_wR, mI_wR, mI_wR, mI_wR, mI_wR, mI_wx (by omega), mI_wx (by omega)]
    exact (h5 t t1 t2).2 j hj
  · rw [mR_wI, mR_wI, mR_wI, mR_wI]
    unfold txM
    rcases (show j = 0 ∨ j = 1 ∨ j = 2 ∨ j = 3 ∨ j = 4 by omega) with rfl | rfl | rfl | rfl | rfl <;> simp [mR_wR]
  · rw [mI_wa, if_neg (by decide), mI_wa, if_neg (by decide), mI_wa, if_neg (by decide), mI_wa, if_pos rfl]
  · rw [mI_wa, if_neg (by decide), mI_wa, if_neg (by decide), mI_wa, if_pos rfl]
  · rw [mI_wa, if_neg (by decide), mI_wa, if_pos rfl]
  · rw [mI_wa, if_pos rfl]

theorem sp_Re_made (hG : GC G) (hR : RC M) {n b : Nat} {v1 v2 v3 v4 : Int32} (h6 : mI M 225 6 = nI n) (h7 : mI M 225 7 = nI b) (hn : n ≤ 24) (hb : b ≤ 300) (e1 : mI M 225 8 = v1) (e2 : mI M 225 9 = v2) (e3 : mI M 225 10 = v3) (e4 : mI M 225 11 = v4) (hlt : G.1 + 6 < 1000000) : E 3 6 1509 Y_Re_made 0 [some (.ref 225), none] [] G M (Mde n b v1 v2 v3 v4 G M) := by
  have hg := hG.1
  have sR : ∀ G', Ext G G' → Sh G' 225 (0, 4) := fun G' h => h.sh (hG.s (by decide) rfl)
  have sA : ∀ G', Ext G G' → Sh G' 226 (1, 24) ∧ Sh G' 227 (1, 24) ∧ Sh G' 228 (1, 24) ∧ Sh G' 229 (1, 300) ∧ Sh G' 230 (1, 300) := fun G' h => ⟨h.sh (hG.s (by decide) rfl), h.sh (hG.s (by decide) rfl), h.sh (hG.s (by decide) rfl), h.sh (hG.s (by decide) rfl), h.sh (hG.s (by decide) rfl)⟩
  have rR : ∀ M', Sm G.1 M M' → mR M' 225 1 = some 226 ∧ mR M' 225 2 = some 227 ∧ mR M' 225 3 = some 228 ∧ mR M' 225 4 = some 229 ∧ mR M' 225 5 = some 230 := fun M' h => by
    rw [(h 225 (by omega)).2.2]
    exact ⟨hR.o rfl, hR.o rfl, hR.o rfl, hR.o rfl, hR.o rfl⟩
  have K5 : ∀ G' M', StM n b G M 5 G' M' → E 3 0 0 Y_Re_made 59 [some (.ref 225), none] [.ref (G.1 + 5), .ref (G.1 + 4), .ref (G.1 + 3), .ref (G.1 + 2), .ref (G.1 + 1), .ref G.1, .ref G.1] G' M' (Mde n b v1 v2 v3 v4 G M) := by
    intro G' M' h
    have hs := sR G' h.1
    have ht := h.2.2.2.1
    have hm := h.2.1
    have f : ∀ j, mI (txM M' G.1) 225 j = mI M 225 j := fun j => by
      unfold txM
      rw [mI_wR, mI_wR, mI_wR, mI_wR, mI_wR, mI_wx (by omega), mI_wx (by omega), (hm 225 (by omega)).1]
    have c1 : mI (txM M' G.1) 225 8 = v1 := (f 8).trans e1
    have c2 : ∀ v, mI (wI (txM M' G.1) G.1 5 v) 225 9 = v2 := fun v => by rw [mI_wx (by omega)]; exact (f 9).trans e2
    have c3 : ∀ v w, mI (wI (wI (txM M' G.1) G.1 5 v) G.1 6 w) 225 10 = v3 := fun v w => by rw [mI_wx (by omega), mI_wx (by omega)]; exact (f 10).trans e3
    have c4 : ∀ v w u, mI (wI (wI (wI (txM M' G.1) G.1 5 v) G.1 6 w) G.1 7 u) 225 11 = v4 := fun v w u => by rw [mI_wx (by omega), mI_wx (by omega), mI_wx (by omega)]; exact (f 11).trans e4
    refine E_callI (As := [.ref (G.1 + 1), .ref (G.1 + 2), .ref (G.1 + 3), .ref (G.1 + 4), .ref (G.1 + 5)]) (rest := [.ref G.1]) (b' := 0) (bs' := 0) (b2 := 0) (bs2 := 0) d_Re_made_59 ml_Re_81 cb_Tx_init ci_Tx_init rfl ⟨by decide, by decide⟩ rfl (Nat.le_of_ble_eq_true rfl) rfl (Nat.le_of_ble_eq_true rfl) (by omega) (by omega) (sp_Tx_init ht) (kV fun M1 hc => ?_)
    subst hc
    first | refine E_astore_1 d_Re_made_62 rfl ?_ | refine E_astoreN_1 d_Re_made_62 rfl ?_
    first | refine E_aload_n d_Re_made_63 rfl ?_ | refine E_aload_nN d_Re_made_63 rfl ?_
    first | refine E_aload_n d_Re_made_64 rfl ?_ | refine E_aload_nN d_Re_made_64 rfl ?_
    refine E_getI d_Re_made_65 gf_Re_38 (by assumption) (by exact c1) ?_
    refine E_putI d_Re_made_68 gf_Re_84 (by assumption) rfl rfl ?_
    first | refine E_aload_n d_Re_made_71 rfl ?_ | refine E_aload_nN d_Re_made_71 rfl ?_
    first | refine E_aload_n d_Re_made_72 rfl ?_ | refine E_aload_nN d_Re_made_72 rfl ?_
    refine E_getI d_Re_made_73 gf_Re_85 (by assumption) (by exact c2 _) ?_
    refine E_putI d_Re_made_76 gf_Re_88 (by assumption) rfl rfl ?_
    first | refine E_aload_n d_Re_made_79 rfl ?_ | refine E_aload_nN d_Re_made_79 rfl ?_
    first | refine E_aload_n d_Re_made_80 rfl ?_ | refine E_aload_nN d_Re_made_80 rfl ?_
    refine E_getI d_Re_made_81 gf_Re_41 (by assumption) (by exact c3 _ _) ?_
    refine E_putI d_Re_made_84 gf_Re_89 (by assumption) rfl rfl ?_
    first | refine E_aload_n d_Re_made_87 rfl ?_ | refine E_aload_nN d_Re_made_87 rfl ?_
    first | refine E_aload_n d_Re_made_88 rfl ?_ | refine E_aload_nN d_Re_made_88 rfl ?_
    refine E_getI d_Re_made_89 gf_Re_90 (by assumption) (by exact c4 _ _ _) ?_
    refine E_putI d_Re_made_92 gf_Re_93 (by assumption) rfl rfl ?_
    first | refine E_aload_n d_Re_made_95 rfl ?_ | refine E_aload_nN d_Re_made_95 rfl ?_
    exact E_aretR d_Re_made_96 rfl rfl (md_fin rfl h)
  have K4 : ∀ G' M', StM n b G M 4 G' M' → E 3 1 300 Y_Re_made 48 [some (.ref 225), none] [.ref (G.1 + 4), .ref (G.1 + 3), .ref (G.1 + 2), .ref (G.1 + 1), .ref G.1, .ref G.1] G' M' (Mde n b v1 v2 v3 v4 G M) := by
    intro G' M' h
    have hs := sR G' h.1
    have ha := (sA G' h.1).2.2.2.2
    have hr := (rR M' h.2.1).2.2.2.2
    have hz : mI M' 225 7 = nI b := by rw [(h.2.1 225 (by omega)).1]; exact h7
    have hg1 := h.2.2.1
    have nx := fun g hg => h.st hG.1 (by decide) (g := g) hg
    first | refine E_aload_n d_Re_made_48 rfl ?_ | refine E_aload_nN d_Re_made_48 rfl ?_
    refine E_getR d_Re_made_49 gf_Re_24 (by assumption) (by exact hr) ?_
    first | refine E_aload_n d_Re_made_52 rfl ?_ | refine E_aload_nN d_Re_made_52 rfl ?_
    refine E_getI d_Re_made_53 gf_Re_35 (by assumption) (by exact hz) ?_
    refine E_cpOf d_Re_made_56 ml_Re_75 ha (by decide) (by omega) (by omega) (by decide) (by decide) (by omega) (Nat.le_of_ble_eq_true rfl) (fun g hg => ?_)
    have e : G'.1 = G.1 + 5 := by omega
    have q := K5 _ _ (nx g hg)
    rw [e] at q ⊢
    exact E_bud (by decide) (by omega) q
  have K3 : ∀ G' M', StM n b G M 3 G' M' → E 3 2 600 Y_Re_made 37 [some (.ref 225), none] [.ref (G.1 + 3), .ref (G.1 + 2), .ref (G.1 + 1), .ref G.1, .ref G.1] G' M' (Mde n b v1 v2 v3 v4 G M) := by
    intro G' M' h
    have hs := sR G' h.1
    have ha := (sA G' h.1).2.2.2.1
    have hr := (rR M' h.2.1).2.2.2.1
    have hz : mI M' 225 7 = nI b := by rw [(h.2.1 225 (by omega)).1]; exact h7
    have hg1 := h.2.2.1
    have nx := fun g hg => h.st hG.1 (by decide) (g := g) hg
    first | refine E_aload_n d_Re_made_37 rfl ?_ | refine E_aload_nN d_Re_made_37 rfl ?_
    refine E_getR d_Re_made_38 gf_Re_21 (by assumption) (by exact hr) ?_
    first | refine E_aload_n d_Re_made_41 rfl ?_ | refine E_aload_nN d_Re_made_41 rfl ?_
    refine E_getI d_Re_made_42 gf_Re_35 (by assumption) (by exact hz) ?_
    refine E_cpOf d_Re_made_45 ml_Re_75 ha (by decide) (by omega) (by omega) (by decide) (by decide) (by omega) (Nat.le_of_ble_eq_true rfl) (fun g hg => ?_)
    have e : G'.1 = G.1 + 4 := by omega
    have q := K4 _ _ (nx g hg)
    rw [e] at q ⊢
    exact E_bud (by decide) (by omega) q
  have K2 : ∀ G' M', StM n b G M 2 G' M' → E 3 3 900 Y_Re_made 26 [some (.ref 225), none] [.ref (G.1 + 2), .ref (G.1 + 1), .ref G.1, .ref G.1] G' M' (Mde n b v1 v2 v3 v4 G M) := by
    intro G' M' h
    have hs := sR G' h.1
    have ha := (sA G' h.1).2.2.1
    have hr := (rR M' h.2.1).2.2.1
    have hz : mI M' 225 6 = nI n := by rw [(h.2.1 225 (by omega)).1]; exact h6
    have hg1 := h.2.2.1
    have nx := fun g hg => h.st hG.1 (by decide) (g := g) hg
    first | refine E_aload_n d_Re_made_26 rfl ?_ | refine E_aload_nN d_Re_made_26 rfl ?_
    refine E_getR d_Re_made_27 gf_Re_18 (by assumption) (by exact hr) ?_
    first | refine E_aload_n d_Re_made_30 rfl ?_ | refine E_aload_nN d_Re_made_30 rfl ?_
    refine E_getI d_Re_made_31 gf_Re_31 (by assumption) (by exact hz) ?_
    refine E_cpOf d_Re_made_34 ml_Re_75 ha (by decide) (by omega) (by omega) (by decide) (by decide) (by omega) (Nat.le_of_ble_eq_true rfl) (fun g hg => ?_)
    have e : G'.1 = G.1 + 3 := by omega
    have q := K3 _ _ (nx g hg)
    rw [e] at q ⊢
    exact E_bud (by decide) (by omega) q
  have K1 : ∀ G' M', StM n b G M 1 G' M' → E 3 4 1200 Y_Re_made 15 [some (.ref 225), none] [.ref (G.1 + 1), .ref G.1, .ref G.1] G' M' (Mde n b v1 v2 v3 v4 G M) := by
    intro G' M' h
    have hs := sR G' h.1
    have ha := (sA G' h.1).2.1
    have hr := (rR M' h.2.1).2.1
    have hz : mI M' 225 6 = nI n := by rw [(h.2.1 225 (by omega)).1]; exact h6
    have hg1 := h.2.2.1
    have nx := fun g hg => h.st hG.1 (by decide) (g := g) hg
    first | refine E_aload_n d_Re_made_15 rfl ?_ | refine E_aload_nN d_Re_made_15 rfl ?_
    refine E_getR d_Re_made_16 gf_Re_15 (by assumption) (by exact hr) ?_
    first | refine E_aload_n d_Re_made_19 rfl ?_ | refine E_aload_nN d_Re_made_19 rfl ?_
    refine E_getI d_Re_made_20 gf_Re_31 (by assumption) (by exact hz) ?_
    refine E_cpOf d_Re_made_23 ml_Re_75 ha (by decide) (by omega) (by omega) (by decide) (by decide) (by omega) (Nat.le_of_ble_eq_true rfl) (fun g hg => ?_)
    have e : G'.1 = G.1 + 2 := by omega
    have q := K2 _ _ (nx g hg)
    rw [e] at q ⊢
    exact E_bud (by decide) (by omega) q
  have K0 : ∀ G' M', StM n b G M 0 G' M' → E 3 5 1500 Y_Re_made 4 [some (.ref 225), none] [.ref G.1, .ref G.1] G' M' (Mde n b v1 v2 v3 v4 G M) := by
    intro G' M' h
    have hs := sR G' h.1
    have ha := (sA G' h.1).1
    have hr := (rR M' h.2.1).1
    have hz : mI M' 225 6 = nI n := by rw [(h.2.1 225 (by omega)).1]; exact h6
    have hg1 := h.2.2.1
    have nx := fun g hg => h.st hG.1 (by decide) (g := g) hg
    first | refine E_aload_n d_Re_made_4 rfl ?_ | refine E_aload_nN d_Re_made_4 rfl ?_
    refine E_getR d_Re_made_5 gf_Re_9 (by assumption) (by exact hr) ?_
    first | refine E_aload_n d_Re_made_8 rfl ?_ | refine E_aload_nN d_Re_made_8 rfl ?_
    refine E_getI d_Re_made_9 gf_Re_31 (by assumption) (by exact hz) ?_
    refine E_cpOf d_Re_made_12 ml_Re_75 ha (by decide) (by omega) (by omega) (by decide) (by decide) (by omega) (Nat.le_of_ble_eq_true rfl) (fun g hg => ?_)
    have e : G'.1 = G.1 + 1 := by omega
    have q := K1 _ _ (nx g hg)
    rw [e] at q ⊢
    exact E_bud (by decide) (by omega) q
  have st0 : StM n b G M 0 (ga G (0, 7)) (cN M G.1) := ⟨Ext.rf.ga _, Sm.rf.cN (Nat.le_refl _), rfl, Sh_new G _, fun t t1 t2 => by omega⟩
  have q := K0 _ _ st0
  refine E_newD (ci := 7) d_Re_made_0 (by decide) rfl kl_Re_73 in_Tx it_Tx (by omega) (by decide) (by decide) ?_
  refine E_dup d_Re_made_3 rfl ?_
  exact E_bud (by decide) (by decide) q
end MADE
