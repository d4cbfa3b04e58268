def SG (a : Nat) : Prop := a = 218 ∨ a = 219
theorem OM.sc {c : Cr} {G : Geo} {M M' : Mem} (h : OM c G M) (g : Sc SG M M') : OM c G M' := by
  obtain ⟨h1, h2, h3, h4⟩ := h
  refine ⟨h1, h2.sc g, ⟨?_, fun f hf => ?_⟩, h4⟩
  · rw [(g.2 216 (by unfold SG; decide)).1]; exact h3.1
  · rw [(g.2 217 (by unfold SG; decide)).1]; exact h3.2 f hf
def isBest (mx : Bool) (v : Nat → Nat) (f P r : Nat) : Prop := (∃ t, t ≤ P ∧ ap f t ≤ 1 ∧ r = v t) ∧ ∀ t, t ≤ P → ap f t ≤ 1 → (mx = true → v t ≤ r) ∧ (mx = false → r ≤ v t)
theorem isBest.u {mx : Bool} {v : Nat → Nat} {f P r s : Nat} (h : isBest mx v f P r) (h' : isBest mx v f P s) : r = s := by
  obtain ⟨⟨t, a1, a2, a3⟩, a4⟩ := h
  obtain ⟨⟨t', b1, b2, b3⟩, b4⟩ := h'
  have q1 := a4 t' b1 b2
  have q2 := b4 t a1 a2
  cases mx with
  | true => have := q1.1 rfl; have := q2.1 rfl; omega
  | false => have := q1.2 rfl; have := q2.2 rfl; omega
theorem gS_up {mx : Bool} {b v : Nat} (hm : mx = true) : v + 1 ≤ gS mx b v ∧ b ≤ gS mx b v := by
  cases b with
  | zero => rw [gS0]; omega
  | succ b =>
    by_cases q : b < v
    · rw [gm1 hm q]; omega
    · rw [gm2 hm (by omega)]; omega
theorem gS_dn {mx : Bool} {b v : Nat} (hm : mx = false) : gS mx b v ≤ v + 1 ∧ gS mx b v ≠ 0 ∧ (b ≠ 0 → gS mx b v ≤ b) := by
  have hm2 : ¬ mx = true := by rw [hm]; exact Bool.false_ne_true
  cases b with
  | zero => rw [gS0]; omega
  | succ b =>
    by_cases q : v < b
    · rw [gm3 hm2 q]; omega
    · rw [gm4 hm2 (by omega)]; omega
theorem gmB_ub {mx : Bool} {v : Nat → Nat} {f : Nat} : ∀ k t, t < k → ap f t ≤ 1 → (mx = true → v t + 1 ≤ gmB mx v f k) ∧ (mx = false → gmB mx v f k ≤ v t + 1 ∧ gmB mx v f k ≠ 0) := by
  intro k
  induction k with
  | zero => intro t ht; omega
  | succ k ih =>
    intro t ht hap
    rw [gmB]
    by_cases e : t = k
    · subst e
      rw [if_pos hap]
      exact ⟨fun hm => (gS_up hm).1, fun hm => ⟨(gS_dn hm).1, (gS_dn hm).2.1⟩⟩
    · have h1 := ih t (by omega) hap
      by_cases hk : ap f k ≤ 1
      · rw [if_pos hk]
        refine ⟨fun hm => Nat.le_trans (h1.1 hm) (gS_up hm).2, fun hm => ?_⟩
        have h2 := h1.2 hm
        exact ⟨Nat.le_trans ((gS_dn hm).2.2 h2.2) h2.1, (gS_dn hm).2.1⟩
      · rw [if_neg hk]
        exact h1
theorem gmB_best {mx : Bool} {v : Nat → Nat} {f P : Nat} (hf : f ≤ P) : isBest mx v f P (gmB mx v f (P + 1) - 1) := by
  have hpos := gmB_pos (mx := mx) (v := v) (f := f) (P + 1) (by omega)
  obtain ⟨t, h1, h2, h3⟩ := gmB_att (P + 1) hpos
  refine ⟨⟨t, by omega, h2, by omega⟩, fun t' q1 q2 => ?_⟩
  have := gmB_ub (mx := mx) (v := v) (P + 1) t' (by omega) q2
  exact ⟨fun hm => by have := this.1 hm; omega, fun hm => by have := (this.2 hm).1; omega⟩
section OuF
variable {c : Cr} {G : Geo} {M : Mem}
theorem mxn {x y : Nat} (hx : x < 1000) (hy : y < 1000) : (if nI x < nI y then nI y else nI x) = nI (if x < y then y else x) := by
  by_cases h : x < y
  · rw [if_pos ((nI_ltI (by omega) (by omega)).mpr h), if_pos h]
  · rw [if_neg (fun q => h ((nI_ltI (by omega) (by omega)).mp q)), if_neg h]
theorem sp_Ou_bestLast (h : OM c G M) {f : Nat} {v : Nat → Nat} {mx : Bool} (hf : f ≤ c.now.people) (hv : ∀ g, g ≤ c.now.people → mI M 218 g = nI (v g)) (hv8 : ∀ g, g ≤ c.now.people → v g ≤ 8) : E 2 0 0 Y_Ou_bestLast 0 [some (.ref 216), some (.int (nI f)), some (.int (pI (mx = true))), none, none, none] [] G M (QI G fun r M' => r = nI (gmB mx (fun t => v (cm c t)) f (c.now.people + 1) - 1) ∧ M' = M) := by
  have hp8 := h.2.2.2.p8
  have hG := h.1
  have hR := h.2.1
  have hO := h.2.2.1
  have hcf := cm_le c f
  have hB := gmB_best (mx := mx) (v := fun t => v (cm c t)) hf
  have L : ∀ e t b, t + e = (if f + 1 < c.now.people then f + 1 else c.now.people) + 1 → f - 1 ≤ t → b ≤ 8 → (∃ t', t' ≤ c.now.people ∧ ap f t' ≤ 1 ∧ b = v (cm c t')) → (∀ t', f - 1 ≤ t' → t' < t → (mx = true → v (cm c t') ≤ b) ∧ (mx = false → b ≤ v (cm c t'))) → E 2 0 0 Y_Ou_bestLast 22 [some (.ref 216), some (.int (nI f)), some (.int (pI (mx = true))), some (.int (nI b)), some (.int (nI t)), none] [] G M (QI G fun r M' => r = nI (gmB mx (fun t => v (cm c t)) f (c.now.people + 1) - 1) ∧ M' = M) := by
    intro e
    induction e with
    | zero =>
      intro t b ht hlo hb8 hex hall
      have hmn := mn0 (x := c.now.people) (y := f + 1) (by omega) (by omega)
      have hle : (if f + 1 < c.now.people then f + 1 else c.now.people) < 1000 := by split <;> omega
      have hfin : isBest mx (fun t => v (cm c t)) f c.now.people b := ⟨hex, fun t' q1 q2 => hall t' (by unfold ap at q2; split at q2 <;> omega) (by unfold ap at q2; split at ht <;> split at q2 <;> omega)⟩
      refine E_iload d_Ou_bestLast_22 rfl ?_
      first | refine E_aload_n d_Ou_bestLast_24 rfl ?_ | refine E_aload_nN d_Ou_bestLast_24 rfl ?_
      refine E_getI d_Ou_bestLast_25 gf_Ou_31 (by first | exact hG.s (by decide) rfl) (by exact hO.1) ?_
      refine E_iload_n d_Ou_bestLast_28 rfl ?_
      refine E_iconst (v := nI 1) d_Ou_bestLast_29 rfl ?_
      first | (with_reducible refine E_isN2 ?_; refine E_iaddN d_Ou_bestLast_30 ?_) | refine E_iadd d_Ou_bestLast_30 ?_
      refine E_minI d_Ou_bestLast_31 ml_Ou_44 (by decide) (Nat.le_of_ble_eq_true rfl) ?_
      rw [hmn]
      first | (with_reducible refine E_isN2 ?_; refine E_icmp_gt 78 d_Ou_bestLast_34 rfl (nb_lt (by omega) (by omega) fun h34 => ?_) (nb_nlt (by omega) (by omega) fun h34 => ?_)) | refine E_icmp_gt 78 d_Ou_bestLast_34 rfl (fun h34 => ?_) (fun h34 => ?_)
      rotate_left
      · exfalso; omega
      refine E_iload_n d_Ou_bestLast_78 rfl ?_
      refine E_retI d_Ou_bestLast_79 rfl ?_
      exact ⟨congrArg nI (hfin.u hB), rfl⟩
    | succ e ih =>
      intro t b ht hlo hb8 hex hall
      have hmn := mn0 (x := c.now.people) (y := f + 1) (by omega) (by omega)
      have hle : (if f + 1 < c.now.people then f + 1 else c.now.people) ≤ c.now.people := by split <;> omega
      have htp : t ≤ c.now.people := by omega
      have hap : ap f t ≤ 1 := by unfold ap; split at ht <;> split <;> omega
      have hct := cm_le c t
      have hvt := hv8 (cm c t) hct
      have hev := hv (cm c t) hct
      have up : ∀ b', b' = (if mx = true then (if b < v (cm c t) then v (cm c t) else b) else (if v (cm c t) < b then v (cm c t) else b)) → E 2 0 0 Y_Ou_bestLast 71 [some (.ref 216), some (.int (nI f)), some (.int (pI (mx = true))), some (.int (nI b)), some (.int (nI t)), some (.int (nI (v (cm c t))))] [.int (nI b')] G M (QI G fun r M' => r = nI (gmB mx (fun t => v (cm c t)) f (c.now.people + 1) - 1) ∧ M' = M) := by
        intro b' hb'
        have hb2 : b' = b ∨ b' = v (cm c t) := by rw [hb']; repeat' split
                                                  all_goals first | exact Or.inl rfl | exact Or.inr rfl
        have ih2 := ih (t + 1) b' (by omega) (by omega) (by rcases hb2 with q | q <;> omega) (by
          rcases hb2 with q | q
          · rw [q]; exact hex
          · exact ⟨t, htp, hap, q⟩) (fun t' q1 q2 => by
          have hbb : (mx = true → b ≤ b' ∧ v (cm c t) ≤ b') ∧ (mx = false → b' ≤ b ∧ b' ≤ v (cm c t)) := by
            constructor
            · intro hm
              rw [hb', if_pos hm]
              split <;> omega
            · intro hm
              rw [hb', if_neg (by rw [hm]; exact Bool.false_ne_true)]
              split <;> omega
          by_cases e : t' = t
          · subst e
            exact ⟨fun hm => (hbb.1 hm).2, fun hm => (hbb.2 hm).2⟩
          · have := hall t' q1 (by omega)
            exact ⟨fun hm => by have := this.1 hm; have := (hbb.1 hm).1; omega, fun hm => by have := this.2 hm; have := (hbb.2 hm).1; omega⟩)
        refine E_istore_3 d_Ou_bestLast_71 rfl ?_
        first | (with_reducible refine E_isL4 ?_; refine E_iincN4 (m := 1) d_Ou_bestLast_72 rfl rfl ?_) | refine E_iinc_4 d_Ou_bestLast_72 rfl rfl ?_
        refine E_goto 22 d_Ou_bestLast_75 rfl ?_
        refine E_wk ?_ ih2; exact ⟨Or.inl rfl, Or.inl rfl, Or.inl rfl, Or.inl rfl, Or.inl rfl, Or.inr rfl, trivial⟩
      have e1 := mxn (x := b) (y := v (cm c t)) (by omega) (by omega)
      have e2 := mn0 (x := b) (y := v (cm c t)) (by omega) (by omega)
      refine E_iload d_Ou_bestLast_22 rfl ?_
      first | refine E_aload_n d_Ou_bestLast_24 rfl ?_ | refine E_aload_nN d_Ou_bestLast_24 rfl ?_
      refine E_getI d_Ou_bestLast_25 gf_Ou_31 (by first | exact hG.s (by decide) rfl) (by exact hO.1) ?_
      refine E_iload_n d_Ou_bestLast_28 rfl ?_
      refine E_iconst (v := nI 1) d_Ou_bestLast_29 rfl ?_
      first | (with_reducible refine E_isN2 ?_; refine E_iaddN d_Ou_bestLast_30 ?_) | refine E_iadd d_Ou_bestLast_30 ?_
      refine E_minI d_Ou_bestLast_31 ml_Ou_44 (by decide) (Nat.le_of_ble_eq_true rfl) ?_
      rw [hmn]
      first | (with_reducible refine E_isN2 ?_; refine E_icmp_gt 78 d_Ou_bestLast_34 rfl (nb_lt (by omega) (by omega) fun h34 => ?_) (nb_nlt (by omega) (by omega) fun h34 => ?_)) | refine E_icmp_gt 78 d_Ou_bestLast_34 rfl (fun h34 => ?_) (fun h34 => ?_)
      · exfalso; omega
      first | refine E_aload_n d_Ou_bestLast_37 rfl ?_ | refine E_aload_nN d_Ou_bestLast_37 rfl ?_
      refine E_getR d_Ou_bestLast_38 gf_Ou_15 (by first | exact hG.s (by decide) rfl) (by first | exact hR.o rfl | exact hR.c cr1 rfl | exact hR.m0 ad2) ?_
      first | refine E_aload_n d_Ou_bestLast_41 rfl ?_ | refine E_aload_nN d_Ou_bestLast_41 rfl ?_
      refine E_iload d_Ou_bestLast_42 rfl ?_
      refine E_V1 (sp_Ou_comesOf h htp) d_Ou_bestLast_44 ml_Ou_35 cb_Ou_comesOf cv_Ou_comesOf (by first | exact hG.s (by decide) rfl) ⟨by decide, rfl⟩ ⟨by decide, by decide⟩ rfl (Nat.le_of_ble_eq_true rfl) (Nat.le_of_ble_eq_true rfl) (kI fun r1 M1 hc => ?_)
      obtain ⟨rfl, rfl⟩ := hc
      refine E_SN2 (sp_TP_at (hG.s (k := 218) (by decide) rfl) (by decide) (by omega) hev) d_Ou_bestLast_47 nl_Ou_21 cb_TP_at cs_TP_at ⟨by decide, by decide⟩ rfl (Nat.le_of_ble_eq_true rfl) (Nat.le_of_ble_eq_true rfl) (kI fun r1 M1 hc => ?_)
      obtain ⟨rfl, rfl⟩ := hc
      refine E_istore_5 d_Ou_bestLast_50 rfl ?_
      refine E_iload_n d_Ou_bestLast_52 rfl ?_
      first | (with_reducible refine E_isP ?_; refine E_if_eq 65 d_Ou_bestLast_53 rfl (pb_0 fun h53 => ?_) (pb_1 fun h53 => ?_)) | (with_reducible refine E_isN1 ?_; refine E_if_eq 65 d_Ou_bestLast_53 rfl (nz_eq (by omega) fun h53 => ?_) (nz_ne fun h53 => ?_)) | refine E_if_eq 65 d_Ou_bestLast_53 rfl (fun h53 => ?_) (fun h53 => ?_)
      · refine E_iload_n d_Ou_bestLast_65 rfl ?_
        refine E_iload d_Ou_bestLast_66 rfl ?_
        refine E_minI d_Ou_bestLast_68 ml_Ou_44 (by decide) (Nat.le_of_ble_eq_true rfl) ?_
        first | (rw [e1]; exact up _ (if_pos h53).symm) | (rw [e2]; exact up _ (if_neg h53).symm)
      · refine E_iload_n d_Ou_bestLast_56 rfl ?_
        refine E_iload d_Ou_bestLast_57 rfl ?_
        refine E_maxI d_Ou_bestLast_59 ml_Ou_59 (by decide) (Nat.le_of_ble_eq_true rfl) ?_
        refine E_goto 71 d_Ou_bestLast_62 rfl ?_
        first | (rw [e1]; exact up _ (if_pos h53).symm) | (rw [e2]; exact up _ (if_neg h53).symm)
  have hmx := mx0 (f := f) (k := 1) (by omega) (by omega)
  have hvf := hv8 (cm c f) hcf
  have L0 := L ((if f + 1 < c.now.people then f + 1 else c.now.people) + 1 - (f - 1)) (f - 1) (v (cm c f)) (by split <;> omega) (Nat.le_refl _) hvf ⟨f, hf, by unfold ap; rw [if_neg (Nat.lt_irrefl f)]; omega, rfl⟩ (fun t' q1 q2 => by omega)
  first | refine E_aload_n d_Ou_bestLast_0 rfl ?_ | refine E_aload_nN d_Ou_bestLast_0 rfl ?_
  refine E_getR d_Ou_bestLast_1 gf_Ou_15 (by first | exact hG.s (by decide) rfl) (by first | exact hR.o rfl | exact hR.c cr1 rfl | exact hR.m0 ad2) ?_
  first | refine E_aload_n d_Ou_bestLast_4 rfl ?_ | refine E_aload_nN d_Ou_bestLast_4 rfl ?_
  refine E_iload_n d_Ou_bestLast_5 rfl ?_
  refine E_V1 (sp_Ou_comesOf h hf) d_Ou_bestLast_6 ml_Ou_35 cb_Ou_comesOf cv_Ou_comesOf (by first | exact hG.s (by decide) rfl) ⟨by decide, rfl⟩ ⟨by decide, by decide⟩ rfl (Nat.le_of_ble_eq_true rfl) (Nat.le_of_ble_eq_true rfl) (kI fun r1 M1 hc => ?_)
  obtain ⟨rfl, rfl⟩ := hc
  refine E_SN2 (sp_TP_at (hG.s (k := 218) (by decide) rfl) (by decide) (by omega) (hv (cm c f) hcf)) d_Ou_bestLast_9 nl_Ou_21 cb_TP_at cs_TP_at ⟨by decide, by decide⟩ rfl (Nat.le_of_ble_eq_true rfl) (Nat.le_of_ble_eq_true rfl) (kI fun r1 M1 hc => ?_)
  obtain ⟨rfl, rfl⟩ := hc
  refine E_istore_3 d_Ou_bestLast_12 rfl ?_
  refine E_iconst (v := nI 0) d_Ou_bestLast_13 rfl ?_
  refine E_iload_n d_Ou_bestLast_14 rfl ?_
  refine E_iconst (v := nI 1) d_Ou_bestLast_15 rfl ?_
  first | (with_reducible refine E_isN2 ?_; refine E_isubN d_Ou_bestLast_16 (by omega) ?_) | refine E_isub d_Ou_bestLast_16 ?_
  refine E_maxI d_Ou_bestLast_17 ml_Ou_59 (by decide) (Nat.le_of_ble_eq_true rfl) ?_
  rw [hmx]
  refine E_istore_4 d_Ou_bestLast_20 rfl ?_
  exact L0
theorem gam8 {c : Cr} (hw : Wf c) (n j f : Nat) (hf : f ≤ c.now.people) : gamA c n j f ≤ 8 := Nat.le_trans (gamA_le j f hf) hw.p8
theorem gamA_s (c : Cr) (n j f : Nat) : gamA c n (j + 1) f = gmB (decide ((n - (j + 1)) % 2 = 0)) (fun t => gamA c n j (cm c t)) f (c.now.people + 1) - 1 := rfl
theorem nI1_pM (n : Nat) : nI n - nI 1 = pM n := by
  cases n with
  | zero => decide
  | succ n => rw [pk_sub (by omega), Nat.add_sub_cancel]; rfl
theorem sp_Ou_playBackTo (h : OM c G M) {rd n : Nat} (hn : n ≤ 8) (hrd : rd ≤ n) (hr1 : rd ≤ 1) : E 3 0 0 Y_Ou_playBackTo 0 [some (.ref 216), some (.int (nI rd)), some (.int (nI n)), none, none] [] G M (QV G fun M' => Sc SG M M' ∧ ∀ f, f ≤ c.now.people → mI M' 218 f = nI (gamA c n (n - rd) f)) := by
  have hp8 := h.2.2.2.p8
  have hw := h.2.2.2
  have hG := h.1
  have LF : ∀ d f q M1 M2, q < n → rd ≤ q → f + d = c.now.people + 1 → Sc SG M M1 → (∀ g, g ≤ c.now.people → mI M1 218 g = nI (gamA c n (n - (q + 1)) g)) → (∀ g, g < f → mI M1 219 g = nI (gamA c n (n - q) g)) → (∀ M3, Sc SG M M3 → (∀ g, g ≤ c.now.people → mI M3 219 g = nI (gamA c n (n - q) g)) → E 3 0 0 Y_Ou_playBackTo 77 [some (.ref 216), some (.int (nI rd)), some (.int (nI n)), some (.int (nI q)), none] [] G M3 (QV G fun M' => Sc SG M M' ∧ ∀ f, f ≤ c.now.people → mI M' 218 f = nI (gamA c n (n - rd) f))) → M2 = M1 → E 3 0 0 Y_Ou_playBackTo 36 [some (.ref 216), some (.int (nI rd)), some (.int (nI n)), some (.int (nI q)), some (.int (nI f))] [] G M2 (QV G fun M' => Sc SG M M' ∧ ∀ f, f ≤ c.now.people → mI M' 218 f = nI (gamA c n (n - rd) f)) := by
    intro d
    induction d with
    | zero =>
      intro f q M1 M2 hq hrq hf hX hl hfr K e
      subst e
      have hO := (h.sc hX).2.2.1
      have hf2 : f = c.now.people + 1 := by omega
      refine E_iload d_Ou_playBackTo_36 rfl ?_
      first | refine E_aload_n d_Ou_playBackTo_38 rfl ?_ | refine E_aload_nN d_Ou_playBackTo_38 rfl ?_
      refine E_getI d_Ou_playBackTo_39 gf_Ou_31 (by first | exact hG.s (by decide) rfl) (by exact hO.1) ?_
      first | (with_reducible refine E_isN2 ?_; refine E_icmp_gt 77 d_Ou_playBackTo_42 rfl (nb_lt (by omega) (by omega) fun h42 => ?_) (nb_nlt (by omega) (by omega) fun h42 => ?_)) | refine E_icmp_gt 77 d_Ou_playBackTo_42 rfl (fun h42 => ?_) (fun h42 => ?_)
      rotate_left
      · exfalso; omega
      refine E_wk ?_ (K _ hX (fun g hg => hfr g (by omega))); exact ⟨Or.inl rfl, Or.inl rfl, Or.inl rfl, Or.inl rfl, Or.inr rfl, trivial⟩
    | succ d ih =>
      intro f q M1 M2 hq hrq hf hX hl hfr K e
      subst e
      have h1 := h.sc hX
      have hR := h1.2.1
      have hO := h1.2.2.1
      have ej : n - q = (n - (q + 1)) + 1 := by omega
      have em : n - ((n - (q + 1)) + 1) = q := by omega
      have eg : gamA c n (n - q) f = gmB (decide (q % 2 = 0)) (fun t => gamA c n (n - (q + 1)) (cm c t)) f (c.now.people + 1) - 1 := by rw [ej, gamA_s, em]
      have up : ∀ x, x = pI (decide (q % 2 = 0) = true) → E 3 0 0 Y_Ou_playBackTo 65 [some (.ref 216), some (.int (nI rd)), some (.int (nI n)), some (.int (nI q)), some (.int (nI f))] [.int x, .int (nI f), .ref 216, .int (nI f), .ref 219] G M2 (QV G fun M' => Sc SG M M' ∧ ∀ f, f ≤ c.now.people → mI M' 218 f = nI (gamA c n (n - rd) f)) := by
        intro x hx
        subst hx
        have hs := sp_Ou_bestLast h1 (mx := decide (q % 2 = 0)) (show f ≤ c.now.people by omega) hl (fun g hg => gam8 hw _ _ _ hg)
        refine E_V2 (hs) d_Ou_playBackTo_65 ml_Ou_76 cb_Ou_bestLast cv_Ou_bestLast (by first | exact hG.s (by decide) rfl) ⟨by decide, rfl⟩ ⟨by decide, by decide⟩ rfl (Nat.le_of_ble_eq_true rfl) (Nat.le_of_ble_eq_true rfl) (kI fun r1 M1 hc => ?_)
        obtain ⟨rfl, rfl⟩ := hc
        refine E_SN3 (sp_TP_put (hG.s (k := 219) (by decide) rfl) (by decide) (by omega)) d_Ou_playBackTo_68 nl_Ou_80 cb_TP_put cs_TP_put ⟨by decide, by decide⟩ rfl (Nat.le_of_ble_eq_true rfl) (Nat.le_of_ble_eq_true rfl) (kV fun M1 hc => ?_)
        subst hc
        first | (with_reducible refine E_isL4 ?_; refine E_iincN4 (m := 1) d_Ou_playBackTo_71 rfl rfl ?_) | refine E_iinc_4 d_Ou_playBackTo_71 rfl rfl ?_
        refine E_goto 36 d_Ou_playBackTo_74 rfl ?_
        refine ih (f + 1) q _ _ hq hrq (by omega) (hX.wI (Or.inr rfl)) (fun g hg => by rw [mI_wx (by decide)]; exact hl g hg) (fun g hg => ?_) K rfl
        rw [mI_wa]
        by_cases e : g = f
        · rw [if_pos e, e, eg]
        · rw [if_neg e]; exact hfr g (by omega)
      refine E_iload d_Ou_playBackTo_36 rfl ?_
      first | refine E_aload_n d_Ou_playBackTo_38 rfl ?_ | refine E_aload_nN d_Ou_playBackTo_38 rfl ?_
      refine E_getI d_Ou_playBackTo_39 gf_Ou_31 (by first | exact hG.s (by decide) rfl) (by exact hO.1) ?_
      first | (with_reducible refine E_isN2 ?_; refine E_icmp_gt 77 d_Ou_playBackTo_42 rfl (nb_lt (by omega) (by omega) fun h42 => ?_) (nb_nlt (by omega) (by omega) fun h42 => ?_)) | refine E_icmp_gt 77 d_Ou_playBackTo_42 rfl (fun h42 => ?_) (fun h42 => ?_)
      · exfalso; omega
      first | refine E_aload_n d_Ou_playBackTo_45 rfl ?_ | refine E_aload_nN d_Ou_playBackTo_45 rfl ?_
      refine E_getR d_Ou_playBackTo_46 gf_Ou_18 (by first | exact hG.s (by decide) rfl) (by first | exact hR.o rfl | exact hR.c cr1 rfl | exact hR.m0 ad2) ?_
      refine E_iload d_Ou_playBackTo_49 rfl ?_
      first | refine E_aload_n d_Ou_playBackTo_51 rfl ?_ | refine E_aload_nN d_Ou_playBackTo_51 rfl ?_
      refine E_iload d_Ou_playBackTo_52 rfl ?_
      refine E_iload_n d_Ou_playBackTo_54 rfl ?_
      refine E_iconst (v := nI 2) d_Ou_playBackTo_55 rfl ?_
      first | (with_reducible refine E_isN2 ?_; refine E_iremN d_Ou_playBackTo_56 (by omega) (by omega) (by omega) ?_) | refine E_irem d_Ou_playBackTo_56 (by decide) ?_
      first | (with_reducible refine E_isP ?_; refine E_if_ne 64 d_Ou_playBackTo_57 rfl (pb_1 fun h57 => ?_) (pb_0 fun h57 => ?_)) | (with_reducible refine E_isN1 ?_; refine E_if_ne 64 d_Ou_playBackTo_57 rfl (nz_ne fun h57 => ?_) (nz_eq (by omega) fun h57 => ?_)) | refine E_if_ne 64 d_Ou_playBackTo_57 rfl (fun h57 => ?_) (fun h57 => ?_)
      · refine E_iconst (v := nI 0) d_Ou_playBackTo_64 rfl ?_
        first | exact up _ (pI_f (fun r => h57 (of_decide_eq_true r))).symm | exact up _ (pI_t (decide_eq_true h57)).symm
      · refine E_iconst (v := nI 1) d_Ou_playBackTo_60 rfl ?_
        refine E_goto 65 d_Ou_playBackTo_61 rfl ?_
        first | exact up _ (pI_f (fun r => h57 (of_decide_eq_true r))).symm | exact up _ (pI_t (decide_eq_true h57)).symm
  have LQ : ∀ q M1, q ≤ n → rd ≤ q → Sc SG M M1 → (∀ g, g ≤ c.now.people → mI M1 218 g = nI (gamA c n (n - q) g)) → E 3 0 0 Y_Ou_playBackTo 28 [some (.ref 216), some (.int (nI rd)), some (.int (nI n)), some (.int (pM q)), none] [] G M1 (QV G fun M' => Sc SG M M' ∧ ∀ f, f ≤ c.now.people → mI M' 218 f = nI (gamA c n (n - rd) f)) := by
    intro q
    induction q with
    | zero =>
      intro M1 hq hrq hX hl
      have hrd0 : rd = 0 := by omega
      have hlt : pM 0 < nI rd := (pM_lt (by omega) (by omega)).mpr (by omega)
      refine E_iload_n d_Ou_playBackTo_28 rfl ?_
      refine E_iload_n d_Ou_playBackTo_29 rfl ?_
      first | (with_reducible refine E_isN2 ?_; refine E_icmp_lt 101 d_Ou_playBackTo_30 rfl (nb_lt (by omega) (by omega) fun h30 => ?_) (nb_nlt (by omega) (by omega) fun h30 => ?_)) | refine E_icmp_lt 101 d_Ou_playBackTo_30 rfl (fun h30 => ?_) (fun h30 => ?_)
      rotate_left
      · exfalso; exact h30 hlt
      refine E_retV d_Ou_playBackTo_101 rfl ?_
      exact ⟨hX, by rw [hrd0]; exact hl⟩
    | succ q ih =>
      intro M1 hq hrq hX hl
      rw [show pM (q + 1) = nI q from rfl]
      by_cases hqr : q < rd
      · have hrd2 : rd = q + 1 := by omega
        refine E_iload_n d_Ou_playBackTo_28 rfl ?_
        refine E_iload_n d_Ou_playBackTo_29 rfl ?_
        first | (with_reducible refine E_isN2 ?_; refine E_icmp_lt 101 d_Ou_playBackTo_30 rfl (nb_lt (by omega) (by omega) fun h30 => ?_) (nb_nlt (by omega) (by omega) fun h30 => ?_)) | refine E_icmp_lt 101 d_Ou_playBackTo_30 rfl (fun h30 => ?_) (fun h30 => ?_)
        rotate_left
        · exfalso; omega
        refine E_retV d_Ou_playBackTo_101 rfl ?_
        exact ⟨hX, by rw [hrd2]; exact hl⟩
      · have K : ∀ M3, Sc SG M M3 → (∀ g, g ≤ c.now.people → mI M3 219 g = nI (gamA c n (n - q) g)) → E 3 0 0 Y_Ou_playBackTo 77 [some (.ref 216), some (.int (nI rd)), some (.int (nI n)), some (.int (nI q)), none] [] G M3 (QV G fun M' => Sc SG M M' ∧ ∀ f, f ≤ c.now.people → mI M' 218 f = nI (gamA c n (n - rd) f)) := by
          intro M3 hX3 hfr
          have h3 := h.sc hX3
          have hR := h3.2.1
          have ih2 := ih (wA M3 218 (va_cpy (mI M3 219) (mI M3 218) 0 0 9)) (by omega) (by omega) (hX3.wA (Or.inl rfl)) (fun g hg => by rw [wA_at, cpy_all (by omega)]; exact hfr g hg)
          have hpm : ∀ x, x = pM q → E 3 0 0 Y_Ou_playBackTo 28 [some (.ref 216), some (.int (nI rd)), some (.int (nI n)), some (.int x), none] [] G (wA M3 218 (va_cpy (mI M3 219) (mI M3 218) 0 0 9)) (QV G fun M' => Sc SG M M' ∧ ∀ f, f ≤ c.now.people → mI M' 218 f = nI (gamA c n (n - rd) f)) := fun x hx => by rw [hx]; exact ih2
          first | refine E_aload_n d_Ou_playBackTo_77 rfl ?_ | refine E_aload_nN d_Ou_playBackTo_77 rfl ?_
          refine E_getR d_Ou_playBackTo_78 gf_Ou_18 (by first | exact hG.s (by decide) rfl) (by first | exact hR.o rfl | exact hR.c cr1 rfl | exact hR.m0 ad2) ?_
          refine E_iconst (v := nI 0) d_Ou_playBackTo_81 rfl ?_
          first | refine E_aload_n d_Ou_playBackTo_82 rfl ?_ | refine E_aload_nN d_Ou_playBackTo_82 rfl ?_
          refine E_getR d_Ou_playBackTo_83 gf_Ou_15 (by first | exact hG.s (by decide) rfl) (by first | exact hR.o rfl | exact hR.c cr1 rfl | exact hR.m0 ad2) ?_
          refine E_iconst (v := nI 0) d_Ou_playBackTo_86 rfl ?_
          first | refine E_aload_n d_Ou_playBackTo_87 rfl ?_ | refine E_aload_nN d_Ou_playBackTo_87 rfl ?_
          refine E_getR d_Ou_playBackTo_88 gf_Ou_15 (by first | exact hG.s (by decide) rfl) (by first | exact hR.o rfl | exact hR.c cr1 rfl | exact hR.m0 ad2) ?_
          refine E_alen d_Ou_playBackTo_91 (by first | exact hG.s (by decide) rfl) (by decide) rfl ?_
          refine E_copy d_Ou_playBackTo_92 ml_Ou_84 (by decide) (Nat.le_of_ble_eq_true rfl) (by first | exact hG.s (by decide) rfl) (by first | exact hG.s (by decide) rfl) rfl rfl rfl (by omega) (by omega) (by decide) (by decide) ?_
          first | (with_reducible refine E_isL3 ?_; refine E_iincD3 (m := 1) d_Ou_playBackTo_95 (by decide) (by omega) rfl ?_) | refine E_iinc_3 d_Ou_playBackTo_95 rfl rfl ?_
          refine E_goto 28 d_Ou_playBackTo_98 rfl ?_
          first | exact hpm _ (pM_dec q) | exact hpm _ (by rw [← nI1_pM q, pk_sub (by omega)])
        refine E_iload_n d_Ou_playBackTo_28 rfl ?_
        refine E_iload_n d_Ou_playBackTo_29 rfl ?_
        first | (with_reducible refine E_isN2 ?_; refine E_icmp_lt 101 d_Ou_playBackTo_30 rfl (nb_lt (by omega) (by omega) fun h30 => ?_) (nb_nlt (by omega) (by omega) fun h30 => ?_)) | refine E_icmp_lt 101 d_Ou_playBackTo_30 rfl (fun h30 => ?_) (fun h30 => ?_)
        · exfalso; omega
        refine E_iconst (v := nI 0) d_Ou_playBackTo_33 rfl ?_
        refine E_istore_4 d_Ou_playBackTo_34 rfl ?_
        exact LF (c.now.people + 1) 0 q M1 _ (by omega) (by omega) (Nat.zero_add _) hX hl (fun g hg => absurd hg (Nat.not_lt_zero g)) K rfl
  have L1 : ∀ d f M1, f + d = 9 → Sc SG M M1 → (∀ g, g < f → mI M1 218 g = nI g) → E 3 0 0 Y_Ou_playBackTo 2 [some (.ref 216), some (.int (nI rd)), some (.int (nI n)), some (.int (nI f)), none] [] G M1 (QV G fun M' => Sc SG M M' ∧ ∀ f, f ≤ c.now.people → mI M' 218 f = nI (gamA c n (n - rd) f)) := by
    intro d
    induction d with
    | zero =>
      intro f M1 hf hX hl
      have hR := (h.sc hX).2.1
      have L0 := LQ n M1 (Nat.le_refl _) hrd hX (fun g hg => by rw [Nat.sub_self]; exact hl g (by omega))
      refine E_iload_n d_Ou_playBackTo_2 rfl ?_
      first | refine E_aload_n d_Ou_playBackTo_3 rfl ?_ | refine E_aload_nN d_Ou_playBackTo_3 rfl ?_
      refine E_getR d_Ou_playBackTo_4 gf_Ou_15 (by first | exact hG.s (by decide) rfl) (by first | exact hR.o rfl | exact hR.c cr1 rfl | exact hR.m0 ad2) ?_
      refine E_alen d_Ou_playBackTo_7 (by first | exact hG.s (by decide) rfl) (by decide) rfl ?_
      first | (with_reducible refine E_isN2 ?_; refine E_icmp_ge 24 d_Ou_playBackTo_8 rfl (nb_le (by omega) (by omega) fun h8 => ?_) (nb_nle (by omega) (by omega) fun h8 => ?_)) | refine E_icmp_ge 24 d_Ou_playBackTo_8 rfl (fun h8 => ?_) (fun h8 => ?_)
      rotate_left
      · exfalso; omega
      refine E_iload_n d_Ou_playBackTo_24 rfl ?_
      refine E_iconst (v := nI 1) d_Ou_playBackTo_25 rfl ?_
      first | (with_reducible refine E_isN2 ?_; refine E_isubN d_Ou_playBackTo_26 (by omega) ?_) | refine E_isub d_Ou_playBackTo_26 ?_
      rw [nI1_pM]
      refine E_istore_3 d_Ou_playBackTo_27 rfl ?_
      exact L0
    | succ d ih =>
      intro f M1 hf hX hl
      have hR := (h.sc hX).2.1
      refine E_iload_n d_Ou_playBackTo_2 rfl ?_
      first | refine E_aload_n d_Ou_playBackTo_3 rfl ?_ | refine E_aload_nN d_Ou_playBackTo_3 rfl ?_
      refine E_getR d_Ou_playBackTo_4 gf_Ou_15 (by first | exact hG.s (by decide) rfl) (by first | exact hR.o rfl | exact hR.c cr1 rfl | exact hR.m0 ad2) ?_
      refine E_alen d_Ou_playBackTo_7 (by first | exact hG.s (by decide) rfl) (by decide) rfl ?_
      first | (with_reducible refine E_isN2 ?_; refine E_icmp_ge 24 d_Ou_playBackTo_8 rfl (nb_le (by omega) (by omega) fun h8 => ?_) (nb_nle (by omega) (by omega) fun h8 => ?_)) | refine E_icmp_ge 24 d_Ou_playBackTo_8 rfl (fun h8 => ?_) (fun h8 => ?_)
      · exfalso; omega
      first | refine E_aload_n d_Ou_playBackTo_11 rfl ?_ | refine E_aload_nN d_Ou_playBackTo_11 rfl ?_
      refine E_getR d_Ou_playBackTo_12 gf_Ou_15 (by first | exact hG.s (by decide) rfl) (by first | exact hR.o rfl | exact hR.c cr1 rfl | exact hR.m0 ad2) ?_
      refine E_iload_n d_Ou_playBackTo_15 rfl ?_
      refine E_iload_n d_Ou_playBackTo_16 rfl ?_
      refine E_iast d_Ou_playBackTo_17 (by first | exact hG.s (by decide) rfl) (by exact ⟨by with_reducible rfl, by omega, by decide⟩) ?_
      first | (with_reducible refine E_isL3 ?_; refine E_iincN3 (m := 1) d_Ou_playBackTo_18 rfl rfl ?_) | refine E_iinc_3 d_Ou_playBackTo_18 rfl rfl ?_
      refine E_goto 2 d_Ou_playBackTo_21 rfl ?_
      refine ih (f + 1) _ (by omega) (hX.wI (Or.inl rfl)) (fun g hg => ?_)
      rw [mI_wa]
      by_cases e : g = f
      · rw [if_pos e, e]
      · rw [if_neg e]; exact hl g (by omega)
  refine E_iconst (v := nI 0) d_Ou_playBackTo_0 rfl ?_
  refine E_istore_3 d_Ou_playBackTo_1 rfl ?_
  exact L1 9 0 M (by decide) Sc.rf (fun g hg => absurd hg (Nat.not_lt_zero g))
theorem sp_Ou_gameEnd (h : OM c G M) {f n : Nat} (hf : f ≤ c.now.people) (hn : n ≤ 8) : E 4 0 0 Y_Ou_gameEnd 0 [some (.ref 216), some (.int (nI f)), some (.int (nI n))] [] G M (QI G fun r M' => r = nI (gamA c n n f) ∧ Sc SG M M') := by
  have hp8 := h.2.2.2.p8
  have hG := h.1
  first | refine E_aload_n d_Ou_gameEnd_0 rfl ?_ | refine E_aload_nN d_Ou_gameEnd_0 rfl ?_
  refine E_iconst (v := nI 0) d_Ou_gameEnd_1 rfl ?_
  refine E_iload_n d_Ou_gameEnd_2 rfl ?_
  refine E_V2 (sp_Ou_playBackTo h hn (Nat.zero_le _) (Nat.zero_le _)) d_Ou_gameEnd_3 ml_Ou_72 cb_Ou_playBackTo cv_Ou_playBackTo (by first | exact hG.s (by decide) rfl) ⟨by decide, rfl⟩ ⟨by decide, by decide⟩ rfl (Nat.le_of_ble_eq_true rfl) (Nat.le_of_ble_eq_true rfl) (kV fun M1 hc => ?_)
  obtain ⟨hX, hl⟩ := hc; have hR := (h.sc hX).2.1
  first | refine E_aload_n d_Ou_gameEnd_6 rfl ?_ | refine E_aload_nN d_Ou_gameEnd_6 rfl ?_
  refine E_getR d_Ou_gameEnd_7 gf_Ou_15 (by first | exact hG.s (by decide) rfl) (by first | exact hR.o rfl | exact hR.c cr1 rfl | exact hR.m0 ad2) ?_
  refine E_iload_n d_Ou_gameEnd_10 rfl ?_
  refine E_SN2 (sp_TP_at (hG.s (k := 218) (by decide) rfl) (by decide) (by omega) (hl f hf)) d_Ou_gameEnd_11 nl_Ou_21 cb_TP_at cs_TP_at ⟨by decide, by decide⟩ rfl (Nat.le_of_ble_eq_true rfl) (Nat.le_of_ble_eq_true rfl) (kI fun r1 M1 hc => ?_)
  obtain ⟨rfl, rfl⟩ := hc
  refine E_retI d_Ou_gameEnd_14 rfl ?_
  exact ⟨rfl, hX⟩
theorem findP_skip {P : Nat → Bool} : ∀ d k n, (∀ t, n ≤ t → t < n + d → P t = false) → findP P (d + k) n = findP P k (n + d) := by
  intro d
  induction d with
  | zero => intro k n _; rw [Nat.zero_add, Nat.add_zero]
  | succ d ih =>
    intro k n h
    rw [Nat.succ_add, findP, if_neg (by rw [h n (Nat.le_refl _) (by omega)]; exact Bool.false_ne_true), ih k (n + 1) (fun t a b => h t (by omega) (by omega)), show n + 1 + d = n + (d + 1) by omega]
theorem sp_Ou_gameStart (h : OM c G M) {f n : Nat} (hf : f ≤ c.now.people) (hn : n ≤ 8) (hn1 : 1 ≤ n) : E 4 0 0 Y_Ou_gameStart 0 [some (.ref 216), some (.int (nI f)), some (.int (nI n)), none, none] [] G M (QI G fun r M' => r = nI (findP (fun t => decide (ap f t ≤ 1) && decide (gamA c n (n - 1) (cm c t) = gamA c n n f)) (c.now.people + 1) 0) ∧ Sc SG M M') := by
  have hp8 := h.2.2.2.p8
  have hw := h.2.2.2
  have hG := h.1
  have eg : gmB true (fun t => gamA c n (n - 1) (cm c t)) f (c.now.people + 1) - 1 = gamA c n n f := by
    have := gamA_s c n (n - 1) f
    rw [show n - 1 + 1 = n by omega, Nat.sub_self] at this
    exact this.symm
  have hB := gmB_best (mx := true) (v := fun t => gamA c n (n - 1) (cm c t)) hf
  rw [eg] at hB
  have h8 := gam8 hw n n f hf
  have hlo : ∀ t, 0 ≤ t → t < 0 + (f - 1) → (decide (ap f t ≤ 1) && decide (gamA c n (n - 1) (cm c t) = gamA c n n f)) = false := fun t _ ht => by
    have : ¬ ap f t ≤ 1 := by unfold ap; split <;> omega
    rw [decide_eq_false this]
    rfl
  have esk := findP_skip (P := fun t => decide (ap f t ≤ 1) && decide (gamA c n (n - 1) (cm c t) = gamA c n n f)) (f - 1) (c.now.people + 1 - (f - 1)) 0 hlo
  rw [show f - 1 + (c.now.people + 1 - (f - 1)) = c.now.people + 1 by omega, Nat.zero_add] at esk
  rw [esk]
  have L : ∀ d t M1, t + d = c.now.people + 1 → f - 1 ≤ t → Sc SG M M1 → (∀ g, g ≤ c.now.people → mI M1 218 g = nI (gamA c n (n - 1) g)) → (∀ t', f - 1 ≤ t' → t' < t → gamA c n (n - 1) (cm c t') ≠ gamA c n n f) → ∀ R, findP (fun t => decide (ap f t ≤ 1) && decide (gamA c n (n - 1) (cm c t) = gamA c n n f)) d t = R → t ≤ f + 1 → E 4 0 0 Y_Ou_gameStart 22 [some (.ref 216), some (.int (nI f)), some (.int (nI n)), some (.int (nI (gamA c n n f))), some (.int (nI t))] [] G M1 (QI G fun r M' => r = nI R ∧ Sc SG M M') := by
    intro d
    induction d with
    | zero =>
      intro t M1 ht hlo2 hX hl hno R hv htf
      obtain ⟨t', q1, q2, q3⟩ := hB.1
      exact absurd q3.symm (hno t' (by unfold ap at q2; split at q2 <;> omega) (by omega))
    | succ d ih =>
      intro t M1 ht hlo2 hX hl hno R hv htf
      have h1 := h.sc hX
      have hR := h1.2.1
      have hO := h1.2.2.1
      have hct := cm_le c t
      have hg8 := gam8 hw n (n - 1) (cm c t) hct
      have hmn := mn0 (x := c.now.people) (y := f + 1) (by omega) (by omega)
      have hle : (if f + 1 < c.now.people then f + 1 else c.now.people) ≤ c.now.people := by split <;> omega
      have hin : t ≤ (if f + 1 < c.now.people then f + 1 else c.now.people) := by split <;> omega
      have hap : ap f t ≤ 1 := by unfold ap; split <;> omega
      rw [findP] at hv
      have i1 : gamA c n (n - 1) (cm c t) = gamA c n n f → t = R := fun q => by rw [if_pos (by rw [decide_eq_true hap, decide_eq_true q]; rfl)] at hv; exact hv
      have i0 : gamA c n (n - 1) (cm c t) ≠ gamA c n n f → findP (fun t => decide (ap f t ≤ 1) && decide (gamA c n (n - 1) (cm c t) = gamA c n n f)) d (t + 1) = R := fun q => by rw [if_neg (by rw [decide_eq_false q, Bool.and_false]; exact Bool.false_ne_true)] at hv; exact hv
      have hnx : gamA c n (n - 1) (cm c t) ≠ gamA c n n f → t + 1 ≤ f + 1 := fun q => by
        refine Decidable.byContradiction fun r => ?_
        have htf2 : t = f + 1 := by omega
        obtain ⟨t', q1, q2, q3⟩ := hB.1
        by_cases e : t' = t
        · subst e; exact q q3.symm
        · exact hno t' (by unfold ap at q2; split at q2 <;> omega) (by unfold ap at q2; split at q2 <;> omega) q3.symm
      have hno2 : gamA c n (n - 1) (cm c t) ≠ gamA c n n f → ∀ t', f - 1 ≤ t' → t' < t + 1 → gamA c n (n - 1) (cm c t') ≠ gamA c n n f := fun q t' a b => by
        by_cases e : t' = t
        · rw [e]; exact q
        · exact hno t' a (by omega)
      refine E_iload d_Ou_gameStart_22 rfl ?_
      first | refine E_aload_n d_Ou_gameStart_24 rfl ?_ | refine E_aload_nN d_Ou_gameStart_24 rfl ?_
      refine E_getI d_Ou_gameStart_25 gf_Ou_31 (by first | exact hG.s (by decide) rfl) (by exact hO.1) ?_
      refine E_iload_n d_Ou_gameStart_28 rfl ?_
      refine E_iconst (v := nI 1) d_Ou_gameStart_29 rfl ?_
      first | (with_reducible refine E_isN2 ?_; refine E_iaddN d_Ou_gameStart_30 ?_) | refine E_iadd d_Ou_gameStart_30 ?_
      refine E_minI d_Ou_gameStart_31 ml_Ou_44 (by decide) (Nat.le_of_ble_eq_true rfl) ?_
      rw [hmn]
      first | (with_reducible refine E_isN2 ?_; refine E_icmp_gt 63 d_Ou_gameStart_34 rfl (nb_lt (by omega) (by omega) fun h34 => ?_) (nb_nlt (by omega) (by omega) fun h34 => ?_)) | refine E_icmp_gt 63 d_Ou_gameStart_34 rfl (fun h34 => ?_) (fun h34 => ?_)
      · exfalso; omega
      first | refine E_aload_n d_Ou_gameStart_37 rfl ?_ | refine E_aload_nN d_Ou_gameStart_37 rfl ?_
      refine E_getR d_Ou_gameStart_38 gf_Ou_15 (by first | exact hG.s (by decide) rfl) (by first | exact hR.o rfl | exact hR.c cr1 rfl | exact hR.m0 ad2) ?_
      first | refine E_aload_n d_Ou_gameStart_41 rfl ?_ | refine E_aload_nN d_Ou_gameStart_41 rfl ?_
      refine E_iload d_Ou_gameStart_42 rfl ?_
      refine E_V1 (sp_Ou_comesOf h1 (by omega)) d_Ou_gameStart_44 ml_Ou_35 cb_Ou_comesOf cv_Ou_comesOf (by first | exact hG.s (by decide) rfl) ⟨by decide, rfl⟩ ⟨by decide, by decide⟩ rfl (Nat.le_of_ble_eq_true rfl) (Nat.le_of_ble_eq_true rfl) (kI fun r1 M1 hc => ?_)
      obtain ⟨rfl, rfl⟩ := hc
      refine E_SN2 (sp_TP_at (hG.s (k := 218) (by decide) rfl) (by decide) (by omega) (hl (cm c t) hct)) d_Ou_gameStart_47 nl_Ou_21 cb_TP_at cs_TP_at ⟨by decide, by decide⟩ rfl (Nat.le_of_ble_eq_true rfl) (Nat.le_of_ble_eq_true rfl) (kI fun r1 M1 hc => ?_)
      obtain ⟨rfl, rfl⟩ := hc
      refine E_iload_n d_Ou_gameStart_50 rfl ?_
      first | (with_reducible refine E_isN2 ?_; refine E_icmp_ne 57 d_Ou_gameStart_51 rfl (nb_ne fun h51 => ?_) (nb_eq (by omega) (by omega) fun h51 => ?_)) | refine E_icmp_ne 57 d_Ou_gameStart_51 rfl (fun h51 => ?_) (fun h51 => ?_)
      · first | (with_reducible refine E_isL4 ?_; refine E_iincN4 (m := 1) d_Ou_gameStart_57 rfl rfl ?_) | refine E_iinc_4 d_Ou_gameStart_57 rfl rfl ?_
        refine E_goto 22 d_Ou_gameStart_60 rfl ?_
        exact ih (t + 1) _ (by omega) (by omega) hX hl (hno2 h51) R (i0 h51) (hnx h51)
      · refine E_iload d_Ou_gameStart_54 rfl ?_
        refine E_retI d_Ou_gameStart_56 rfl ?_
        exact ⟨congrArg nI (i1 h51), hX⟩
  have hmx := mx0 (f := f) (k := 1) (by omega) (by omega)
  first | refine E_aload_n d_Ou_gameStart_0 rfl ?_ | refine E_aload_nN d_Ou_gameStart_0 rfl ?_
  refine E_iconst (v := nI 1) d_Ou_gameStart_1 rfl ?_
  refine E_iload_n d_Ou_gameStart_2 rfl ?_
  refine E_V2 (sp_Ou_playBackTo h hn hn1 (Nat.le_refl 1)) d_Ou_gameStart_3 ml_Ou_72 cb_Ou_playBackTo cv_Ou_playBackTo (by first | exact hG.s (by decide) rfl) ⟨by decide, rfl⟩ ⟨by decide, by decide⟩ rfl (Nat.le_of_ble_eq_true rfl) (Nat.le_of_ble_eq_true rfl) (kV fun M1 hc => ?_)
  obtain ⟨hX, hl⟩ := hc; have hR := (h.sc hX).2.1
  first | refine E_aload_n d_Ou_gameStart_6 rfl ?_ | refine E_aload_nN d_Ou_gameStart_6 rfl ?_
  refine E_iload_n d_Ou_gameStart_7 rfl ?_
  refine E_iconst (v := nI 1) d_Ou_gameStart_8 rfl ?_
  refine E_V2 (sp_Ou_bestLast (h.sc hX) (mx := true) hf hl (fun g hg => gam8 hw _ _ _ hg)) d_Ou_gameStart_9 ml_Ou_76 cb_Ou_bestLast cv_Ou_bestLast (by first | exact hG.s (by decide) rfl) ⟨by decide, rfl⟩ ⟨by decide, by decide⟩ rfl (Nat.le_of_ble_eq_true rfl) (Nat.le_of_ble_eq_true rfl) (kI fun r1 M1 hc => ?_)
  obtain ⟨rfl, rfl⟩ := hc; rw [eg]
  refine E_istore_3 d_Ou_gameStart_12 rfl ?_
  refine E_iconst (v := nI 0) d_Ou_gameStart_13 rfl ?_
  refine E_iload_n d_Ou_gameStart_14 rfl ?_
  refine E_iconst (v := nI 1) d_Ou_gameStart_15 rfl ?_
  first | (with_reducible refine E_isN2 ?_; refine E_isubN d_Ou_gameStart_16 (by omega) ?_) | refine E_isub d_Ou_gameStart_16 ?_
  refine E_maxI d_Ou_gameStart_17 ml_Ou_59 (by decide) (Nat.le_of_ble_eq_true rfl) ?_
  rw [hmx]
  refine E_istore_4 d_Ou_gameStart_20 rfl ?_
  exact L (c.now.people + 1 - (f - 1)) (f - 1) _ (by omega) (Nat.le_refl _) hX hl (fun t' a b => by omega) _ rfl (by omega)
end OuF
