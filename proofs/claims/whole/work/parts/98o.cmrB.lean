section CMs
variable {G : Geo} {M : Mem} {l : List Nat} {c : Cr}
def TXF (G : Geo) (M M' : Mem) : Prop := ∀ k, k < G.1 → k ≠ 0 → k ≠ 1 → k ≠ 9 → ¬ (220 ≤ k ∧ k ≤ 230) → mI M' k = mI M k ∧ mL M' k = mL M k ∧ (k ≠ 212 → mR M' k = mR M k)
def TXC (c : Cr) (l : List Nat) (G : Geo) (M : Mem) (v : Option Value) (G' : Geo) (M' : Mem) : Prop :=
  v = some (.int (ans_text c l)) ∧ (c.texts.length = 4 → G' = G ∧ M' = M) ∧ (c.texts.length ≠ 4 → GC G' ∧ Ext G G' ∧ G'.1 ≤ G.1 + 6 ∧ RC M' ∧ HC (st_text c l) 1 G' M' ∧ TO 1 G' M' ∧ TapeC [] M' ∧ mI M' 0 11 = nI (prs l).f ∧ mI M' 0 12 = fp_text l ∧ TXF G M M')
theorem GC.ext {G' : Geo} (h : GC G) (hx : Ext G G') : GC G' := ⟨Nat.le_trans h.1 hx.1, fun k hk => (hx.2 k (Nat.lt_of_lt_of_le hk h.1)).trans (h.2 k hk)⟩
def txW (M : Mem) (f p : Int32) : Mem := wI (wI (wI M 220 1 (nI 0)) 0 11 f) 0 12 p
theorem txW_o {f p : Int32} {k : Nat} (h : k ≠ 0) (h2 : k ≠ 220) : mI (txW M f p) k = mI M k := by unfold txW; rw [mI_ne h, mI_ne h, mI_ne h2]
theorem txW_f {f p : Int32} : mI (txW M f p) 0 11 = f ∧ mI (txW M f p) 0 12 = p ∧ mI (txW M f p) 220 1 = nI 0 := by
  unfold txW
  refine ⟨?_, ?_, ?_⟩ <;> simp [mI_wI]
theorem tx_nul (hC : CM c G M) (hT : TO 1 G M) (h4 : c.texts.length < 4) {M1 : Mem} (hS : Sc (fun a => 220 ≤ a ∧ a ≤ 230) M M1) (hR1 : RC M1) (q : (prs l).f ≠ 0) {f p : Int32} (hf : f = nI (prs l).f) (hp : p = nI (PP l (prs l).k)) : TXC c l G M (some (.int (-1))) G (txW M1 f p) := by
  have er : ans_text c l = -1 := by unfold ans_text; rw [if_neg (by omega), if_pos q]
  have es : st_text c l = c := by unfold st_text; rw [if_neg (by omega), if_pos q]
  obtain ⟨w1, w2, w3⟩ := txW_f (M := M1) (f := f) (p := p)
  have eR : mR (txW M1 f p) = mR M1 := rfl
  refine ⟨by rw [er], fun z => by omega, fun _ => ⟨hC.G, Ext.rf, Nat.le_add_right _ _, hR1.re eR, ?_, fun t ht => ?_, ⟨by decide, w3, fun i hi => absurd hi (Nat.not_lt_zero i), fun b hb => absurd hb List.not_mem_nil⟩, w1.trans hf, by rw [w2, hp]; unfold fp_text; rw [if_pos q], fun k _ k0 _ _ k2 => ?_⟩⟩
  · rw [es]
    exact hC.H.cg fun k hk => ⟨(txW_o (by omega) (by omega)).trans (hS.2 k (by omega)).1, funext fun j => (congrFun (congrFun eR k) j).trans (hS.1 k j (by omega))⟩
  · have e : mR (txW M1 f p) (1 + 8) t = mR M (1 + 8) t := (congrFun (congrFun eR (1 + 8)) t).trans (hS.1 _ t (by omega))
    rw [e]
    exact hT t ht
  · exact ⟨(txW_o k0 (by omega)).trans (hS.2 k k2).1, (hS.2 k k2).2, fun kk => funext fun j => hS.1 k j (fun y => absurd y kk)⟩
theorem tx_new (hC : CM c G M) (hT : TO 1 G M) (h4 : c.texts.length < 4) (h3 : l.length ≤ 300) {M1 M2 : Mem} {G' : Geo} {v : Option Value} (hS : Sc (fun a => 220 ≤ a ∧ a ≤ 230) M M1) (hR1 : RC M1) (q : (prs l).f = 0) (hCu : CuSt l (prs l).t (prs l).k (prs l).b M1) (hMd : Mde (prs l).t.cl.length (prs l).b (mI M1 225 8) (mI M1 225 9) (mI M1 225 10) (mI M1 225 11) G M1 v G' M2) {f p : Int32} (hf : f = nI 0) (hp : p = -1) :
    TXC c l G M (some (.int (nI c.texts.length))) G' (wI (wR (txW M2 f p) 9 c.texts.length (some G.1)) 1 8 (nI (c.texts.length + 1))) := by
  have hG := hC.G
  have hg := hG.1
  have er : ans_text c l = nI c.texts.length := by unfold ans_text; rw [if_neg (by omega), if_neg (fun z => z q)]
  have es : st_text c l = addT c (prs l).t := by unfold st_text; rw [if_neg (by omega), if_neg (fun z => z q)]
  obtain ⟨w1, w2, w3⟩ := txW_f (M := M2) (f := f) (p := p)
  have tx := md_tx hg h3 hCu hMd
  have tok := TOK.prs q
  obtain ⟨-, ⟨x1, x2, x3, x4, x5⟩, -⟩ := hMd
  have eI : ∀ k, k ≠ 1 → mI (wI (wR (txW M2 f p) 9 c.texts.length (some G.1)) 1 8 (nI (c.texts.length + 1))) k = mI (txW M2 f p) k := fun k hk => (mI_ne hk).trans rfl
  have eR : ∀ k j, mR (wI (wR (txW M2 f p) 9 c.texts.length (some G.1)) 1 8 (nI (c.texts.length + 1))) k j = if k = 9 ∧ j = c.texts.length then some G.1 else mR M2 k j := fun k j => rfl
  have eR9 : ∀ k, k ≠ 9 → mR (wI (wR (txW M2 f p) 9 c.texts.length (some G.1)) 1 8 (nI (c.texts.length + 1))) k = mR M2 k := fun k hk => funext fun j => by rw [eR, if_neg (fun y => hk y.1)]
  have gI : ∀ k, k ≠ 0 → k ≠ 1 → k < G.1 → ¬ (220 ≤ k ∧ k ≤ 230) → mI (wI (wR (txW M2 f p) 9 c.texts.length (some G.1)) 1 8 (nI (c.texts.length + 1))) k = mI M k := fun k k0 k1 kg k2 => by rw [eI k k1, txW_o k0 (by omega), (x2 k kg).1, (hS.2 k k2).1]
  have gR : ∀ k, k ≠ 9 → k < G.1 → k ≠ 212 → mR (wI (wR (txW M2 f p) 9 c.texts.length (some G.1)) 1 8 (nI (c.texts.length + 1))) k = mR M k := fun k k9 kg kk => by rw [eR9 k k9, (x2 k kg).2.2]; exact funext fun j => hS.1 k j (fun y => absurd y kk)
  have j1 : ∀ j, mI (wI (wR (txW M2 f p) 9 c.texts.length (some G.1)) 1 8 (nI (c.texts.length + 1))) 1 j = if j = 8 then nI (c.texts.length + 1) else mI M 1 j := fun j => by
    rw [mI_wa]
    show (if j = 8 then _ else mI (txW M2 f p) 1 j) = _
    rw [txW_o (by decide) (by decide), (x2 1 (by omega)).1, (hS.2 1 (by omega)).1]
  have r9 : ∀ j, mR (wI (wR (txW M2 f p) 9 c.texts.length (some G.1)) 1 8 (nI (c.texts.length + 1))) 9 j = if j = c.texts.length then some G.1 else mR M 9 j := fun j => by
    rw [eR]
    by_cases y : j = c.texts.length
    · rw [if_pos ⟨rfl, y⟩, if_pos y]
    · rw [if_neg (fun z => y z.2), if_neg y, (x2 9 (by omega)).2.2, hS.1 9 j (by omega)]
  have hc : ∀ a j q, (a ≠ 9 ∧ a ≠ 212) → mR M1 a j = some q → a < G.1 → mR (wI (wR (txW M2 f p) 9 c.texts.length (some G.1)) 1 8 (nI (c.texts.length + 1))) a j = some q := fun a j q ha h hl => by rw [eR9 a ha.1, (x2 a hl).2.2]; exact h
  have hR' : RC (wI (wR (txW M2 f p) 9 c.texts.length (some G.1)) 1 8 (nI (c.texts.length + 1))) := by
    obtain ⟨r1, r2, r3, r4⟩ := hR1
    have rr : ∀ a j, a < 234 → a ≠ 9 → mR (wI (wR (txW M2 f p) 9 c.texts.length (some G.1)) 1 8 (nI (c.texts.length + 1))) a j = mR M1 a j := fun a j ha h9 => by rw [eR9 a h9, (x2 a (by omega)).2.2]
    refine ⟨fun a j q' h => ?_, fun a ha => ?_, fun b hb j q' h => ?_, fun b hb i hi => ?_⟩
    · have : a < 234 ∧ a ≠ 9 := by
        unfold rmC at h
        split at h <;> first | (exact ⟨by decide, by decide⟩) | (cases h)
      rw [rr a j this.1 this.2]
      exact r1 a j q' h
    · have := ha.lt
      have h9 : a ≠ 9 := by unfold MoAd at ha; omega
      rw [rr a 0 (by omega) h9, rr a 1 (by omega) h9]
      exact r2 a ha
    · have h9 : b ≠ 9 ∧ b < 234 := by unfold CrAd at hb; omega
      rw [rr b j h9.2 h9.1]
      exact r3 b hb j q' h
    · have h9 : b + 7 ≠ 9 ∧ b + 7 < 234 := by unfold CrAd at hb; omega
      rw [rr _ i h9.2 h9.1]
      exact r4 b hb i hi
  refine ⟨by rw [er], fun z => by omega, fun _ => ⟨hG.ext x1, x1, by omega, hR', ?_, fun t ht => ?_, ⟨by decide, ?_, fun i hi => absurd hi (Nat.not_lt_zero i), fun b hb => absurd hb List.not_mem_nil⟩, ?_, ?_, fun k kg k0 k1 k9 k2 => ?_⟩⟩
  · rw [es]
    refine hC.H.grow (a := G.1) (hC.w.addT h4 tok.1) x1 (fun k hk => ⟨gI k (by omega) (by omega) (by omega) (by omega), gR k (by omega) (by omega) (by omega)⟩) (fun j hj => by rw [j1, if_neg hj]) (by rw [j1, if_pos rfl]) r9 ?_
    exact tx.cg fun k hk => ⟨(eI k (by omega)).trans (txW_o (by omega) (by omega)), eR9 k (by omega)⟩
  · show mR _ 9 t = none ∨ _
    by_cases y : t = c.texts.length
    · exact Or.inr ⟨G.1, by rw [r9, if_pos y], x4⟩
    · rcases hT t ht with z | ⟨q', z1, z2⟩
      · exact Or.inl (by rw [r9, if_neg y]; exact z)
      · exact Or.inr ⟨q', by rw [r9, if_neg y]; exact z1, x1.sh z2⟩
  · rw [eI 220 (by decide)]; exact w3
  · rw [eI 0 (by decide), w1, hf, q]
  · rw [eI 0 (by decide), w2, hp]; unfold fp_text; rw [if_neg (fun z => z q)]
  · exact ⟨gI k k0 k1 kg k2, by show mL M2 k = _; rw [(x2 k kg).2.1, (hS.2 k k2).2], fun kk => gR k k9 kg kk⟩
theorem sp_TP_text (hC : CM c G M) (hT : TapeC l M) (hO : TO 1 G M) (hlt : G.1 + 6 < 1000000) : E 219 6 1509 Y_TP_text 0 [some (.ref 0), none] [] G M (TXC c l G M) := by
  have hG := hC.G
  have hR := hC.R
  have h8 : mI M 1 8 = nI c.texts.length := hC.H.2.2.2.2.2.2.1
  have ht4 := hC.w.texts
  by_cases c4 : c.texts.length = 4
  · have er : ans_text c l = -1 := if_pos c4
    have ok : TXC c l G M (some (.int (-1))) G M := ⟨by rw [er], fun _ => ⟨rfl, rfl⟩, fun z => absurd c4 z⟩
    first | refine E_aload_n d_TP_text_0 rfl ?_ | refine E_aload_nN d_TP_text_0 rfl ?_
    refine E_getR d_TP_text_1 gf_TP_10 (by exact hG.s (by decide) rfl) (by exact hR.o rfl) ?_
    refine E_getI d_TP_text_4 gf_TP_100 (by exact hG.s (by decide) rfl) (by exact h8) ?_
    refine E_iconst (v := nI 4) d_TP_text_7 rfl ?_
    first | (with_reducible refine E_isN2 ?_; refine E_icmp_lt 13 d_TP_text_8 rfl (nb_lt (by omega) (by omega) fun h8 => ?_) (nb_nlt (by omega) (by omega) fun h8 => ?_)) | refine E_icmp_lt 13 d_TP_text_8 rfl (fun h8 => ?_) (fun h8 => ?_)
    · exfalso; omega
    refine E_iconst (v := (-1)) d_TP_text_11 rfl ?_
    exact E_tret d_TP_text_12 rfl (by rfl) ok
  · have h4 : c.texts.length < 4 := by omega
    have ra := sp_Re_readAll hG hR hT hlt
    have K : ∀ v G' M1, RA l G M v G' M1 → E 219 0 0 Y_TP_text 20 [some (.ref 0), none] v.toList G' M1 (TXC c l G M) := by
      intro v G' M2 hA
      obtain ⟨M1, hS, hT1, hR1, hF, hN⟩ := hA
      by_cases q : (prs l).f ≠ 0
      · obtain ⟨rfl, rfl, rfl, hFS⟩ := hF q
        obtain ⟨-, -, f1, f2, -, -⟩ := hFS
        have hR := hR1
        have e16 : mI (wI M2 220 1 (nI 0)) 225 16 = nI (prs l).f := (mI_wx (by decide)).trans f1
        have e17 : mI (wI (wI M2 220 1 (nI 0)) 0 11 (nI (prs l).f)) 225 17 = nI (PP l (prs l).k) := (mI_wx (by decide)).trans ((mI_wx (by decide)).trans f2)
        have fin := tx_nul hC hO h4 hS hR1 q rfl rfl
        first | refine E_astore_1 d_TP_text_20 rfl ?_ | refine E_astoreN_1 d_TP_text_20 rfl ?_
        first | refine E_aload_n d_TP_text_21 rfl ?_ | refine E_aload_nN d_TP_text_21 rfl ?_
        refine E_getR d_TP_text_22 gf_TP_54 (by exact hG.s (by decide) rfl) (by exact hR.o rfl) ?_
        refine E_iconst (v := nI 0) d_TP_text_25 rfl ?_
        refine E_putI d_TP_text_26 gf_TP_93 (by exact hG.s (by decide) rfl) rfl rfl ?_
        first | refine E_aload_n d_TP_text_29 rfl ?_ | refine E_aload_nN d_TP_text_29 rfl ?_
        first | refine E_aload_n d_TP_text_30 rfl ?_ | refine E_aload_nN d_TP_text_30 rfl ?_
        refine E_getR d_TP_text_31 gf_TP_63 (by exact hG.s (by decide) rfl) (by exact hR.o rfl) ?_
        refine E_getI d_TP_text_34 gf_TP_107 (by exact hG.s (by decide) rfl) (by exact e16) ?_
        refine E_putI d_TP_text_37 gf_TP_78 (by exact hG.s (by decide) rfl) rfl rfl ?_
        first | refine E_aload_n d_TP_text_40 rfl ?_ | refine E_aload_nN d_TP_text_40 rfl ?_
        first | refine E_aload_n d_TP_text_41 rfl ?_ | refine E_aload_nN d_TP_text_41 rfl ?_
        refine E_getR d_TP_text_42 gf_TP_63 (by exact hG.s (by decide) rfl) (by exact hR.o rfl) ?_
        refine E_getI d_TP_text_45 gf_TP_110 (by exact hG.s (by decide) rfl) (by exact e17) ?_
        refine E_putI d_TP_text_48 gf_TP_82 (by exact hG.s (by decide) rfl) rfl rfl ?_
        first | refine E_aload_n d_TP_text_51 rfl ?_ | refine E_aload_nN d_TP_text_51 rfl ?_
        refine E_ifnonnullN d_TP_text_52 ?_
        refine E_iconst (v := (-1)) d_TP_text_55 rfl ?_
        refine E_goto 67 d_TP_text_56 rfl ?_
        exact E_tret d_TP_text_67 rfl (by rfl) fin
      · have q := Decidable.not_not.mp q
        obtain ⟨hCu, hMd⟩ := hN q
        have fin := tx_new hC hO h4 hT.1 hS hR1 q hCu hMd (f := nI 0) (p := -1) rfl rfl
        obtain ⟨⟨sw, hs⟩, -⟩ := hCu
        obtain ⟨rfl, ⟨x1, x2, x3, x4, x5⟩, -⟩ := hMd
        have hgg := hG.1
        have hG' := hG.ext x1
        have hR : ∀ {a j p}, rmC a j = some p → a < 234 → mR M2 a j = some p := fun h ha => by rw [(x2 _ (by omega)).2.2]; exact hR1.o h
        have e16 : mI (wI M2 220 1 (nI 0)) 225 16 = nI 0 := (mI_wx (by decide)).trans (by rw [(x2 225 (by omega)).1]; exact hs.f)
        have e17 : mI (wI (wI M2 220 1 (nI 0)) 0 11 (nI 0)) 225 17 = -1 := (mI_wx (by decide)).trans ((mI_wx (by decide)).trans (by rw [(x2 225 (by omega)).1]; exact hs.p))
        have e8 : mI (txW M2 (nI 0) (-1)) 1 8 = nI c.texts.length := by rw [txW_o (by decide) (by decide), (x2 1 (by omega)).1, (hS.2 1 (by omega)).1]; exact h8
        have hRx : mR (txW M2 (nI 0) (-1)) = mR M2 := rfl
        have r1 : mR M2 1 = mR M1 1 := (x2 1 (by omega)).2.2
        have ad : E 0 0 0 Y_Cr_addText 0 [some (.ref 1), some (.ref G.1)] [] G' (txW M2 (nI 0) (-1)) (QI G' fun r M' => r = nI c.texts.length ∧ M' = wI (wR (txW M2 (nI 0) (-1)) 9 c.texts.length (some G.1)) 1 8 (nI (c.texts.length + 1))) := sp_Cr_addText2 hG' (by rw [hRx, r1]; exact hR1.c cr1 rfl) e8 h4 x4
        first | refine E_astore_1 d_TP_text_20 rfl ?_ | refine E_astoreN_1 d_TP_text_20 rfl ?_
        first | refine E_aload_n d_TP_text_21 rfl ?_ | refine E_aload_nN d_TP_text_21 rfl ?_
        refine E_getR d_TP_text_22 gf_TP_54 (by exact hG'.s (by decide) rfl) (by exact hR rfl (by decide)) ?_
        refine E_iconst (v := nI 0) d_TP_text_25 rfl ?_
        refine E_putI d_TP_text_26 gf_TP_93 (by exact hG'.s (by decide) rfl) rfl rfl ?_
        first | refine E_aload_n d_TP_text_29 rfl ?_ | refine E_aload_nN d_TP_text_29 rfl ?_
        first | refine E_aload_n d_TP_text_30 rfl ?_ | refine E_aload_nN d_TP_text_30 rfl ?_
        refine E_getR d_TP_text_31 gf_TP_63 (by exact hG'.s (by decide) rfl) (by exact hR rfl (by decide)) ?_
        refine E_getI d_TP_text_34 gf_TP_107 (by exact hG'.s (by decide) rfl) (by exact e16) ?_
        refine E_putI d_TP_text_37 gf_TP_78 (by exact hG'.s (by decide) rfl) rfl rfl ?_
        first | refine E_aload_n d_TP_text_40 rfl ?_ | refine E_aload_nN d_TP_text_40 rfl ?_
        first | refine E_aload_n d_TP_text_41 rfl ?_ | refine E_aload_nN d_TP_text_41 rfl ?_
        refine E_getR d_TP_text_42 gf_TP_63 (by exact hG'.s (by decide) rfl) (by exact hR rfl (by decide)) ?_
        refine E_getI d_TP_text_45 gf_TP_110 (by exact hG'.s (by decide) rfl) (by exact e17) ?_
        refine E_putI d_TP_text_48 gf_TP_82 (by exact hG'.s (by decide) rfl) rfl rfl ?_
        first | refine E_aload_n d_TP_text_51 rfl ?_ | refine E_aload_nN d_TP_text_51 rfl ?_
        refine E_ifnonnullR 59 d_TP_text_52 rfl ?_
        first | refine E_aload_n d_TP_text_59 rfl ?_ | refine E_aload_nN d_TP_text_59 rfl ?_
        refine E_getR d_TP_text_60 gf_TP_10 (by exact hG'.s (by decide) rfl) (by exact hR rfl (by decide)) ?_
        first | refine E_aload_n d_TP_text_63 rfl ?_ | refine E_aload_nN d_TP_text_63 rfl ?_
        refine E_V1 ad d_TP_text_64 ml_TP_113 cb_Cr_addText cv_Cr_addText (hG'.s (k := 1) (by decide) rfl) ⟨by decide, rfl⟩ ⟨by decide, by decide⟩ rfl (Nat.le_of_ble_eq_true rfl) (Nat.le_of_ble_eq_true rfl) (kI fun r1 M3 hc => ?_)
        obtain ⟨rfl, rfl⟩ := hc
        exact E_tret d_TP_text_67 rfl (by rfl) fin
    first | refine E_aload_n d_TP_text_0 rfl ?_ | refine E_aload_nN d_TP_text_0 rfl ?_
    refine E_getR d_TP_text_1 gf_TP_10 (by exact hG.s (by decide) rfl) (by exact hR.o rfl) ?_
    refine E_getI d_TP_text_4 gf_TP_100 (by exact hG.s (by decide) rfl) (by exact h8) ?_
    refine E_iconst (v := nI 4) d_TP_text_7 rfl ?_
    first | (with_reducible refine E_isN2 ?_; refine E_icmp_lt 13 d_TP_text_8 rfl (nb_lt (by omega) (by omega) fun h8 => ?_) (nb_nlt (by omega) (by omega) fun h8 => ?_)) | refine E_icmp_lt 13 d_TP_text_8 rfl (fun h8 => ?_) (fun h8 => ?_)
    rotate_left
    · exfalso; omega
    first | refine E_aload_n d_TP_text_13 rfl ?_ | refine E_aload_nN d_TP_text_13 rfl ?_
    refine E_getR d_TP_text_14 gf_TP_63 (by exact hG.s (by decide) rfl) (by exact hR.o rfl) ?_
    exact E_callV (As := []) (rest := []) (b' := 6) (bs' := 1509) (b2 := 0) (bs2 := 0) d_TP_text_17 ml_TP_103 cb_Re_readAll cv_Re_readAll (hG.s (k := 225) (by decide) rfl) ⟨by decide, rfl⟩ rfl ⟨by decide, by decide⟩ rfl (Nat.le_of_ble_eq_true rfl) rfl (Nat.le_of_ble_eq_true rfl) (by omega) (by omega) ra (fun v G' M' hM => by rw [List.append_nil]; exact K v G' M' hM)
end CMs
