section TPg
variable {c : Cr} {G : Geo} {M : Mem}
def nrlA (T : Nat → Bool) (own : Nat) : Nat → Nat
  | 0 => 0
  | n + 1 => if (nrlA T own n = 0 ∨ ap (9 - n) own ≤ ap (nrlA T own n - 1) own) ∧ T (9 - n) = true then 9 - n + 1 else nrlA T own n
theorem nrl_inv (T : Nat → Bool) (own : Nat) : ∀ n, n ≤ 10 → (nrlA T own n = 0 ∧ ∀ l, 10 - n ≤ l → l ≤ 9 → ¬ T l = true) ∨ (∃ b, nrlA T own n = b + 1 ∧ 10 - n ≤ b ∧ b ≤ 9 ∧ T b = true ∧ ∀ l, 10 - n ≤ l → l ≤ 9 → T l = true → ap b own ≤ ap l own ∧ (ap l own = ap b own → b ≤ l)) := by
  intro n
  induction n with
  | zero => intro _; exact Or.inl ⟨rfl, fun l h1 h2 => by omega⟩
  | succ n ih =>
    intro hn
    have cs : ∀ l, 10 - (n + 1) ≤ l → l ≤ 9 → l = 9 - n ∨ 10 - n ≤ l := fun l h1 h2 => by omega
    rw [nrlA]
    rcases ih (by omega) with ⟨h0, h1⟩ | ⟨b, h0, h1, h2, h3, h4⟩
    · by_cases ht : T (9 - n) = true
      · rw [if_pos ⟨Or.inl h0, ht⟩]
        refine Or.inr ⟨9 - n, rfl, by omega, by omega, ht, fun l q1 q2 q3 => ?_⟩
        rcases cs l q1 q2 with q | q
        · rw [q]; exact ⟨Nat.le_refl _, fun _ => Nat.le_refl _⟩
        · exact absurd q3 (h1 l q q2)
      · rw [if_neg (fun q => ht q.2)]
        refine Or.inl ⟨h0, fun l q1 q2 => ?_⟩
        rcases cs l q1 q2 with q | q
        · rw [q]; exact ht
        · exact h1 l q q2
    · rw [h0, Nat.add_sub_cancel]
      by_cases ht : ap (9 - n) own ≤ ap b own ∧ T (9 - n) = true
      · rw [if_pos ⟨Or.inr ht.1, ht.2⟩]
        refine Or.inr ⟨9 - n, rfl, by omega, by omega, ht.2, fun l q1 q2 q3 => ?_⟩
        rcases cs l q1 q2 with q | q
        · rw [q]; exact ⟨Nat.le_refl _, fun _ => Nat.le_refl _⟩
        · exact ⟨Nat.le_trans ht.1 (h4 l q q2 q3).1, fun _ => by omega⟩
      · rw [if_neg (fun q => ht ⟨q.1.resolve_left (Nat.succ_ne_zero b), q.2⟩)]
        refine Or.inr ⟨b, rfl, by omega, h2, h3, fun l q1 q2 q3 => ?_⟩
        rcases cs l q1 q2 with q | q
        · rw [q] at q3 ⊢
          have : ¬ ap (9 - n) own ≤ ap b own := fun q4 => ht ⟨q4, q3⟩
          exact ⟨by omega, fun q5 => by omega⟩
        · exact h4 l q q2 q3
theorem nrl_le {T : Nat → Bool} {own n : Nat} (h : n ≤ 10) : nrlA T own n ≤ 10 := by
  rcases nrl_inv T own n h with h | ⟨b, h, _, h2, _⟩ <;> omega
theorem nrl_moveA {T : Nat → Bool} {own : Nat} (h9 : own ≤ 9) : ∀ k b, b + k = 10 → 1 ≤ b → (∀ l, l ≤ 9 → T l = true → b ≤ ap l own) → nrlA T own 10 = moveA T own k b := by
  have hi := nrl_inv T own 10 (Nat.le_refl _)
  have ap9 : ∀ l, l ≤ 9 → ap l own ≤ 9 := fun l h => ap_le h h9
  have apd : ∀ l, ap l own = if l < own then own - l else l - own := fun l => rfl
  intro k
  induction k with
  | zero =>
    intro b hb h1 hd
    rw [moveA]
    rcases hi with ⟨h0, -⟩ | ⟨r, h0, -, h2, h3, -⟩
    · exact h0
    · have := hd r h2 h3
      have := ap9 r h2
      omega
  | succ k ih =>
    intro b hb h1 hd
    rw [moveA]
    have key : ∀ l, l ≤ 9 → T l = true → ap l own = b → (∀ j, j ≤ 9 → T j = true → ap j own = b → l ≤ j) → nrlA T own 10 = l + 1 := fun l hl ht hb2 hj => by
      rcases hi with ⟨-, h2⟩ | ⟨r, h0, -, h2, h3, h4⟩
      · exact absurd ht (h2 l (by omega) hl)
      · have q1 := h4 l (by omega) hl ht
        have q2 := hd r h2 h3
        have q3 := hj r h2 h3 (by omega)
        have q4 := q1.2 (by omega)
        omega
    by_cases c1 : b ≤ own ∧ T (own - b) = true
    · rw [if_pos c1]
      have e := apd (own - b)
      rw [if_pos (by omega)] at e
      refine key (own - b) (by omega) c1.2 (by omega) (fun j hj _ q => ?_)
      rw [apd] at q
      split at q <;> omega
    · rw [if_neg c1]
      by_cases c2 : own + b ≤ 9 ∧ T (own + b) = true
      · rw [if_pos c2]
        have e := apd (own + b)
        rw [if_neg (by omega)] at e
        refine key (own + b) c2.1 c2.2 (by omega) (fun j hj ht q => ?_)
        rw [apd] at q
        split at q
        · exact absurd ⟨by omega, by rw [show own - b = j by omega]; exact ht⟩ c1
        · omega
      · rw [if_neg c2]
        refine ih (b + 1) (by omega) (by omega) (fun l hl ht => ?_)
        have q1 := hd l hl ht
        by_cases q2 : ap l own = b
        · exfalso
          rw [apd] at q2
          split at q2
          · exact c1 ⟨by omega, by rw [show own - b = l by omega]; exact ht⟩
          · exact c2 ⟨by omega, by rw [show own + b = l by omega]; exact ht⟩
        · omega
theorem setLean_own (m : Mo) (p : Nat) : setLean m p (m.lean p) = m := by
  refine Prod.ext (funext fun i => ?_) rfl
  show (if i = p then m.lean p else m.lean i) = m.lean i
  by_cases h : i = p
  · rw [if_pos h, h]
  · rw [if_neg h]
theorem nrl_move (c : Cr) (p f : Nat) (h : Wf c) : nrlA (mvT c p f) (c.now.lean p) 10 = moveN c p f := by
  refine nrl_moveA (h.lean9 p) 9 1 (by decide) (by decide) (fun l hl ht => ?_)
  by_cases e : l = c.now.lean p
  · rw [e] at ht
    unfold mvT at ht
    rw [setLean_own] at ht
    simp at ht
  · unfold ap; split <;> omega
def SN (a : Nat) : Prop := a = 212 ∨ a = 213 ∨ (209 ≤ a ∧ a ≤ 211)
theorem SN.q {a : Nat} (h : SN a) : CQ a := by unfold SN at h; unfold CQ; omega
theorem SN.lt {a : Nat} (h : SN a) : a < 234 := by unfold SN at h; omega
theorem SA.n {a : Nat} (h : SA a) : SN a := by unfold SA at h; unfold SN; omega
theorem Bk.n {a : Nat} (h : Bk 209 a) : SN a := by unfold Bk at h; unfold SN; omega
theorem AB_put {p l l2 : Nat} (h : AB c (setLean c.now p l2) 209 G M) (hp : p < c.now.people) (hl : l ≤ 9) : AB c (setLean c.now p l) 209 G (wI M (209 + 1) p (nI l)) := by
  obtain ⟨h1, h2, h3, h4, h5⟩ := h
  refine ⟨h1.q (Sc.rf.wI (by unfold CQ; decide)), h2, ?_, Mok_lean h1.w.mo hl, Nat.le_refl _⟩
  obtain ⟨m0, m1, m2, m3, m4, m5, m6, m7⟩ := h3
  have e : ∀ a, a ≠ 209 + 1 → mI (wI M (209 + 1) p (nI l)) a = mI M a := fun a ha => mI_ne ha
  refine ⟨by rw [e 209 (by decide)]; exact m0, by rw [e 209 (by decide)]; exact m1, by rw [e 209 (by decide)]; exact m2, by rw [e 209 (by decide)]; exact m3, by rw [e 209 (by decide)]; exact m4, by rw [e 209 (by decide)]; exact m5, fun q hq => ?_, fun i hi => by rw [e (209 + 2) (by decide)]; exact m7 i hi⟩
  rw [mI_wa]
  show _ = nI (if q = p then l else c.now.lean q)
  by_cases hqp : q = p
  · rw [if_pos hqp, if_pos hqp]
  · rw [if_neg hqp, if_neg hqp, m6 q hq]
    show nI (if q = p then l2 else c.now.lean q) = _
    rw [if_neg hqp]
theorem abs_ap {v w : Nat} (hv : v < 1073741824) (hw : w < 1073741824) : (if 0 ≤ nI v - nI w then nI v - nI w else 0 - (nI v - nI w)) = nI (ap v w) := by
  have hx := pk_sub_toInt hv hw
  by_cases h : 0 ≤ nI v - nI w
  · rw [if_pos h]
    rw [le_toInt, hx, z32] at h
    rw [ap, if_neg (by omega), pk_sub (by omega)]
  · rw [if_neg h]
    rw [le_toInt, hx, z32] at h
    rw [ap, if_pos (by omega), ← pk_sub (by omega), Int32.zero_sub, Int32.neg_sub]
theorem sp_TP_nearestLean (hC : CM c G M) {p f : Nat} (hp : p < c.now.people) (hf : f ≤ 8) : E 4 0 0 Y_TP_nearestLean 0 [some (.ref 0), some (.int (nI p)), some (.int (nI f)), none, none, none, none, none, none] [] G M (QI G fun r M' => r = wE (moveN c p f) ∧ CM c G M' ∧ Sc SN M M') := by
  have hG := hC.G
  have hR := hC.R
  have hm := hC.now
  have hp8 := hC.w.p8
  have hl9 := hC.w.lean9 p
  have L : ∀ r k n M1 l2 (u : Option Value), n + k = 10 → AB c (setLean c.now p l2) 209 G M1 → LawV (ruler c) r G M1 → Sc SN M M1 → E 4 0 0 Y_TP_nearestLean 64 [some (.ref 0), some (.int (nI p)), some (.int (nI f)), some (oV r), some (.int (pI (isYes c c.now (ruler c) p f = true))), some (.int (nI (c.now.lean p))), some (.int (wE (nrlA (mvT c p f) (c.now.lean p) n))), some (.int (pM k)), u] [] G M1 (QI G fun r M' => r = wE (moveN c p f) ∧ CM c G M' ∧ Sc SN M M') := by
    intro r k
    induction k with
    | zero =>
      intro n M1 l2 u hn hA hL hX
      have hn2 : n = 10 := by omega
      subst hn2
      rw [nrl_move c p f hC.w, show pM 0 = -1 from rfl]
      refine E_iload d_TP_nearestLean_64 rfl ?_
      first | (with_reducible refine E_isN1 ?_; refine E_if_lt 148 d_TP_nearestLean_66 rfl (nz_lt (by omega) fun h66 => ?_) (nz_nlt (by omega) fun h66 => ?_)) | refine E_if_lt 148 d_TP_nearestLean_66 rfl (fun h66 => ?_) (fun h66 => ?_)
      rotate_left
      · exfalso; exact h66 (by decide)
      refine E_iload d_TP_nearestLean_148 rfl ?_
      refine E_retI d_TP_nearestLean_150 rfl ?_
      exact ⟨rfl, hA.1, hX⟩
    | succ k ih =>
      intro n M1 l2 u hn hA hL hX
      have hR := hA.1.R
      have hle := nrl_le (T := mvT c p f) (own := c.now.lean p) (n := n) (by omega)
      have hA1 := AB_put (l := k) hA hp (by omega)
      have hX1 : Sc SN M (wI M1 (209 + 1) p (nI k)) := hX.wI (by unfold SN; decide)
      have hL1 : LawV (ruler c) r G (wI M1 (209 + 1) p (nI k)) := hL.sc (Sc.rf.wI (P := SN) (by unfold SN; decide)) (fun _ => SN.lt)
      have eN : nrlA (mvT c p f) (c.now.lean p) (n + 1) = if (nrlA (mvT c p f) (c.now.lean p) n = 0 ∨ ap k (c.now.lean p) ≤ ap (nrlA (mvT c p f) (c.now.lean p) n - 1) (c.now.lean p)) ∧ mvT c p f k = true then k + 1 else nrlA (mvT c p f) (c.now.lean p) n := by
        rw [nrlA, show 9 - n = k by omega]
      rw [show pM (k + 1) = nI k from rfl]
      generalize hg : nrlA (mvT c p f) (c.now.lean p) n = R at eN hle
      have J : ∀ v, v ≤ 1 → (v = 1 ↔ (R = 0 ∨ ap k (c.now.lean p) ≤ ap (R - 1) (c.now.lean p))) → E 4 0 0 Y_TP_nearestLean 112 [some (.ref 0), some (.int (nI p)), some (.int (nI f)), some (oV r), some (.int (pI (isYes c c.now (ruler c) p f = true))), some (.int (nI (c.now.lean p))), some (.int (wE R)), some (.int (nI k)), u] [.int (nI v)] G (wI M1 (209 + 1) p (nI k)) (QI G fun r M' => r = wE (moveN c p f) ∧ CM c G M' ∧ Sc SN M M') := by
        intro v hv hvi
        have f1 : v = 0 → nrlA (mvT c p f) (c.now.lean p) (n + 1) = R := fun q => by rw [eN, if_neg (fun q2 => by have := hvi.mpr q2.1; omega)]
        have f2 : pI (isYes c (setLean c.now p k) (ruler c) p f = true) = pI (isYes c c.now (ruler c) p f = true) → nrlA (mvT c p f) (c.now.lean p) (n + 1) = R := fun q => by rw [eN, if_neg (fun q2 => mvT_f q q2.2)]
        have f3 : ¬ v = 0 → ¬ pI (isYes c (setLean c.now p k) (ruler c) p f = true) = pI (isYes c c.now (ruler c) p f = true) → nrlA (mvT c p f) (c.now.lean p) (n + 1) = k + 1 := fun q1 q => by rw [eN, if_pos ⟨hvi.mp (by omega), mvT_t q⟩]
        have ih0 := ih (n + 1) (wI M1 (209 + 1) p (nI k)) k (some (.int (nI v))) (by omega) hA1 hL1 hX1
        have ih1 : ∀ M2, Sc SA (wI M1 (209 + 1) p (nI k)) M2 → _ := fun M2 hS => ih (n + 1) M2 k (some (.int (nI v))) (by omega) (hA1.sc hS) (hL1.sc hS (fun _ => SA.lt)) (hX1.tr (hS.wk fun _ => SA.n))
        have hs := sp_As_saysYes hA1 hL1 (p := p) (f := f) hp hf
        have hR1 := hA1.1.R
        clear hR
        have hR := hR1
        revert hs ih0 ih1
        cases r with
        | none =>
          intro ih0 ih1 hs
          refine E_istore_8 d_TP_nearestLean_112 rfl ?_
          refine E_iload d_TP_nearestLean_114 rfl ?_
          first | (with_reducible refine E_isP ?_; refine E_if_eq 142 d_TP_nearestLean_116 rfl (pb_0 fun h116 => ?_) (pb_1 fun h116 => ?_)) | (with_reducible refine E_isN1 ?_; refine E_if_eq 142 d_TP_nearestLean_116 rfl (nz_eq (by omega) fun h116 => ?_) (nz_ne fun h116 => ?_)) | refine E_if_eq 142 d_TP_nearestLean_116 rfl (fun h116 => ?_) (fun h116 => ?_)
          · first | (with_reducible refine E_isL7 ?_; refine E_iincD7 (m := 1) d_TP_nearestLean_142 (by decide) (by omega) rfl ?_) | refine E_iinc_7 d_TP_nearestLean_142 rfl rfl ?_
            refine E_goto 64 d_TP_nearestLean_145 rfl ?_
            first | (rw [f1 h116] at ih0; exact E_eqL (by rw [pM_dec]) ih0) | (rw [f2 h135] at ih2; exact E_eqL (by rw [pM_dec]) ih2) | (rw [f3 h116 h135] at ih2; exact E_eqL (by rw [pM_dec]; rfl) ih2)
          · first | refine E_aload_n d_TP_nearestLean_119 rfl ?_ | refine E_aload_nN d_TP_nearestLean_119 rfl ?_
            refine E_getR d_TP_nearestLean_120 gf_TP_31 (by first | exact hG.s (by decide) rfl) (by first | exact hR.o rfl | exact hR.c cr1 rfl | exact hR.m0 ad2 | exact hR.m0 ad209) ?_
            first | refine E_aload_n d_TP_nearestLean_123 rfl ?_ | refine E_aload_nN d_TP_nearestLean_123 rfl ?_
            refine E_getR d_TP_nearestLean_124 gf_TP_22 (by first | exact hG.s (by decide) rfl) (by first | exact hR.o rfl | exact hR.c cr1 rfl | exact hR.m0 ad2 | exact hR.m0 ad209) ?_
            first | refine E_aload_n d_TP_nearestLean_127 rfl ?_ | refine E_aload_nN d_TP_nearestLean_127 rfl ?_
            refine E_iload_n d_TP_nearestLean_128 rfl ?_
            refine E_iload_n d_TP_nearestLean_129 rfl ?_
            refine E_V4 (hs) d_TP_nearestLean_130 ml_TP_189 cb_As_saysYes cv_As_saysYes (by first | exact hG.s (by decide) rfl) ⟨by decide, rfl⟩ ⟨by decide, by decide⟩ rfl (Nat.le_of_ble_eq_true rfl) (Nat.le_of_ble_eq_true rfl) (kI fun r1 M1 hc => ?_)
            obtain ⟨rfl, hS1⟩ := hc; have ih2 := ih1 _ hS1
            refine E_iload d_TP_nearestLean_133 rfl ?_
            first | (with_reducible refine E_isN2 ?_; refine E_icmp_eq 142 d_TP_nearestLean_135 rfl (nb_eq (by omega) (by omega) fun h135 => ?_) (nb_ne fun h135 => ?_)) | refine E_icmp_eq 142 d_TP_nearestLean_135 rfl (fun h135 => ?_) (fun h135 => ?_)
            · first | (with_reducible refine E_isL7 ?_; refine E_iincD7 (m := 1) d_TP_nearestLean_142 (by decide) (by omega) rfl ?_) | refine E_iinc_7 d_TP_nearestLean_142 rfl rfl ?_
              refine E_goto 64 d_TP_nearestLean_145 rfl ?_
              first | (rw [f1 h116] at ih0; exact E_eqL (by rw [pM_dec]) ih0) | (rw [f2 h135] at ih2; exact E_eqL (by rw [pM_dec]) ih2) | (rw [f3 h116 h135] at ih2; exact E_eqL (by rw [pM_dec]; rfl) ih2)
            · refine E_iload d_TP_nearestLean_138 rfl ?_
              refine E_istore_6 d_TP_nearestLean_140 rfl ?_
              first | (with_reducible refine E_isL7 ?_; refine E_iincD7 (m := 1) d_TP_nearestLean_142 (by decide) (by omega) rfl ?_) | refine E_iinc_7 d_TP_nearestLean_142 rfl rfl ?_
              refine E_goto 64 d_TP_nearestLean_145 rfl ?_
              first | (rw [f1 h116] at ih0; exact E_eqL (by rw [pM_dec]) ih0) | (rw [f2 h135] at ih2; exact E_eqL (by rw [pM_dec]) ih2) | (rw [f3 h116 h135] at ih2; exact E_eqL (by rw [pM_dec]; rfl) ih2)
        | some la =>
          intro ih0 ih1 hs
          refine E_istore_8 d_TP_nearestLean_112 rfl ?_
          refine E_iload d_TP_nearestLean_114 rfl ?_
          first | (with_reducible refine E_isP ?_; refine E_if_eq 142 d_TP_nearestLean_116 rfl (pb_0 fun h116 => ?_) (pb_1 fun h116 => ?_)) | (with_reducible refine E_isN1 ?_; refine E_if_eq 142 d_TP_nearestLean_116 rfl (nz_eq (by omega) fun h116 => ?_) (nz_ne fun h116 => ?_)) | refine E_if_eq 142 d_TP_nearestLean_116 rfl (fun h116 => ?_) (fun h116 => ?_)
          · first | (with_reducible refine E_isL7 ?_; refine E_iincD7 (m := 1) d_TP_nearestLean_142 (by decide) (by omega) rfl ?_) | refine E_iinc_7 d_TP_nearestLean_142 rfl rfl ?_
            refine E_goto 64 d_TP_nearestLean_145 rfl ?_
            first | (rw [f1 h116] at ih0; exact E_eqL (by rw [pM_dec]) ih0) | (rw [f2 h135] at ih2; exact E_eqL (by rw [pM_dec]) ih2) | (rw [f3 h116 h135] at ih2; exact E_eqL (by rw [pM_dec]; rfl) ih2)
          · first | refine E_aload_n d_TP_nearestLean_119 rfl ?_ | refine E_aload_nN d_TP_nearestLean_119 rfl ?_
            refine E_getR d_TP_nearestLean_120 gf_TP_31 (by first | exact hG.s (by decide) rfl) (by first | exact hR.o rfl | exact hR.c cr1 rfl | exact hR.m0 ad2 | exact hR.m0 ad209) ?_
            first | refine E_aload_n d_TP_nearestLean_123 rfl ?_ | refine E_aload_nN d_TP_nearestLean_123 rfl ?_
            refine E_getR d_TP_nearestLean_124 gf_TP_22 (by first | exact hG.s (by decide) rfl) (by first | exact hR.o rfl | exact hR.c cr1 rfl | exact hR.m0 ad2 | exact hR.m0 ad209) ?_
            first | refine E_aload_n d_TP_nearestLean_127 rfl ?_ | refine E_aload_nN d_TP_nearestLean_127 rfl ?_
            refine E_iload_n d_TP_nearestLean_128 rfl ?_
            refine E_iload_n d_TP_nearestLean_129 rfl ?_
            refine E_V4 (hs) d_TP_nearestLean_130 ml_TP_189 cb_As_saysYes cv_As_saysYes (by first | exact hG.s (by decide) rfl) ⟨by decide, rfl⟩ ⟨by decide, by decide⟩ rfl (Nat.le_of_ble_eq_true rfl) (Nat.le_of_ble_eq_true rfl) (kI fun r1 M1 hc => ?_)
            obtain ⟨rfl, hS1⟩ := hc; have ih2 := ih1 _ hS1
            refine E_iload d_TP_nearestLean_133 rfl ?_
            first | (with_reducible refine E_isN2 ?_; refine E_icmp_eq 142 d_TP_nearestLean_135 rfl (nb_eq (by omega) (by omega) fun h135 => ?_) (nb_ne fun h135 => ?_)) | refine E_icmp_eq 142 d_TP_nearestLean_135 rfl (fun h135 => ?_) (fun h135 => ?_)
            · first | (with_reducible refine E_isL7 ?_; refine E_iincD7 (m := 1) d_TP_nearestLean_142 (by decide) (by omega) rfl ?_) | refine E_iinc_7 d_TP_nearestLean_142 rfl rfl ?_
              refine E_goto 64 d_TP_nearestLean_145 rfl ?_
              first | (rw [f1 h116] at ih0; exact E_eqL (by rw [pM_dec]) ih0) | (rw [f2 h135] at ih2; exact E_eqL (by rw [pM_dec]) ih2) | (rw [f3 h116 h135] at ih2; exact E_eqL (by rw [pM_dec]; rfl) ih2)
            · refine E_iload d_TP_nearestLean_138 rfl ?_
              refine E_istore_6 d_TP_nearestLean_140 rfl ?_
              first | (with_reducible refine E_isL7 ?_; refine E_iincD7 (m := 1) d_TP_nearestLean_142 (by decide) (by omega) rfl ?_) | refine E_iinc_7 d_TP_nearestLean_142 rfl rfl ?_
              refine E_goto 64 d_TP_nearestLean_145 rfl ?_
              first | (rw [f1 h116] at ih0; exact E_eqL (by rw [pM_dec]) ih0) | (rw [f2 h135] at ih2; exact E_eqL (by rw [pM_dec]) ih2) | (rw [f3 h116 h135] at ih2; exact E_eqL (by rw [pM_dec]; rfl) ih2)
      clear hg
      cases R with
      | zero =>
        rw [show wE 0 = -1 from rfl]
        have J1 := J 1 (Nat.le_refl _) ⟨fun _ => Or.inl rfl, fun _ => rfl⟩
        refine E_iload d_TP_nearestLean_64 rfl ?_
        first | (with_reducible refine E_isN1 ?_; refine E_if_lt 148 d_TP_nearestLean_66 rfl (nz_lt (by omega) fun h66 => ?_) (nz_nlt (by omega) fun h66 => ?_)) | refine E_if_lt 148 d_TP_nearestLean_66 rfl (fun h66 => ?_) (fun h66 => ?_)
        · exfalso; exact absurd h66 (Nat.not_lt_zero k)
        first | refine E_aload_n d_TP_nearestLean_69 rfl ?_ | refine E_aload_nN d_TP_nearestLean_69 rfl ?_
        refine E_getR d_TP_nearestLean_70 gf_TP_22 (by first | exact hG.s (by decide) rfl) (by first | exact hR.o rfl | exact hR.c cr1 rfl | exact hR.m0 ad2 | exact hR.m0 ad209) ?_
        refine E_getR d_TP_nearestLean_73 gf_TP_166 (by first | exact hG.s (by decide) rfl) (by first | exact hR.o rfl | exact hR.c cr1 rfl | exact hR.m0 ad2 | exact hR.m0 ad209) ?_
        refine E_iload_n d_TP_nearestLean_76 rfl ?_
        refine E_iload d_TP_nearestLean_77 rfl ?_
        refine E_S3 (sp_TP_put (hG.m1 ad209) (by decide) (by omega)) d_TP_nearestLean_79 ml_TP_351 cb_TP_put cs_TP_put ⟨by decide, by decide⟩ rfl (Nat.le_of_ble_eq_true rfl) (Nat.le_of_ble_eq_true rfl) (kV fun M1 hc => ?_)
        subst hc
        refine E_iload d_TP_nearestLean_82 rfl ?_
        refine E_iconst (v := (-1)) d_TP_nearestLean_84 rfl ?_
        first | (with_reducible refine E_isN2 ?_; refine E_icmp_eq 107 d_TP_nearestLean_85 rfl (nb_eq (by omega) (by omega) fun h85 => ?_) (nb_ne fun h85 => ?_)) | refine E_icmp_eq 107 d_TP_nearestLean_85 rfl (fun h85 => ?_) (fun h85 => ?_)
        rotate_left
        · exfalso; exact h85 rfl
        refine E_iconst (v := nI 1) d_TP_nearestLean_107 rfl ?_
        refine E_goto 112 d_TP_nearestLean_108 rfl ?_
        exact J1
      | succ b =>
        rw [show wE (b + 1) = nI b from rfl]
        rw [show wE (b + 1) = nI b from rfl, Nat.add_sub_cancel] at J
        have J1 : ap k (c.now.lean p) ≤ ap b (c.now.lean p) → _ := fun q => J 1 (Nat.le_refl _) ⟨fun _ => Or.inr q, fun _ => rfl⟩
        have J0 : ap b (c.now.lean p) < ap k (c.now.lean p) → _ := fun q => J 0 (Nat.zero_le _) ⟨fun q2 => absurd q2 (by decide), fun q2 => by rcases q2 with q2 | q2 <;> omega⟩
        have a1 := ap_le (v := b) (w := c.now.lean p) (n := 9) (by omega) hl9
        have a2 := ap_le (v := k) (w := c.now.lean p) (n := 9) (by omega) hl9
        refine E_iload d_TP_nearestLean_64 rfl ?_
        first | (with_reducible refine E_isN1 ?_; refine E_if_lt 148 d_TP_nearestLean_66 rfl (nz_lt (by omega) fun h66 => ?_) (nz_nlt (by omega) fun h66 => ?_)) | refine E_if_lt 148 d_TP_nearestLean_66 rfl (fun h66 => ?_) (fun h66 => ?_)
        · exfalso; exact absurd h66 (Nat.not_lt_zero k)
        first | refine E_aload_n d_TP_nearestLean_69 rfl ?_ | refine E_aload_nN d_TP_nearestLean_69 rfl ?_
        refine E_getR d_TP_nearestLean_70 gf_TP_22 (by first | exact hG.s (by decide) rfl) (by first | exact hR.o rfl | exact hR.c cr1 rfl | exact hR.m0 ad2 | exact hR.m0 ad209) ?_
        refine E_getR d_TP_nearestLean_73 gf_TP_166 (by first | exact hG.s (by decide) rfl) (by first | exact hR.o rfl | exact hR.c cr1 rfl | exact hR.m0 ad2 | exact hR.m0 ad209) ?_
        refine E_iload_n d_TP_nearestLean_76 rfl ?_
        refine E_iload d_TP_nearestLean_77 rfl ?_
        refine E_S3 (sp_TP_put (hG.m1 ad209) (by decide) (by omega)) d_TP_nearestLean_79 ml_TP_351 cb_TP_put cs_TP_put ⟨by decide, by decide⟩ rfl (Nat.le_of_ble_eq_true rfl) (Nat.le_of_ble_eq_true rfl) (kV fun M1 hc => ?_)
        subst hc
        refine E_iload d_TP_nearestLean_82 rfl ?_
        refine E_iconst (v := (-1)) d_TP_nearestLean_84 rfl ?_
        first | (with_reducible refine E_isN2 ?_; refine E_icmp_eq 107 d_TP_nearestLean_85 rfl (nb_eq (by omega) (by omega) fun h85 => ?_) (nb_ne fun h85 => ?_)) | refine E_icmp_eq 107 d_TP_nearestLean_85 rfl (fun h85 => ?_) (fun h85 => ?_)
        · exfalso; exact nI_nm1 (by omega) h85
        refine E_iload d_TP_nearestLean_88 rfl ?_
        refine E_iload d_TP_nearestLean_90 rfl ?_
        first | (with_reducible refine E_isN2 ?_; refine E_isubN d_TP_nearestLean_92 (by omega) ?_) | refine E_isub d_TP_nearestLean_92 ?_
        refine E_absI d_TP_nearestLean_93 ml_TP_391 (by decide) (Nat.le_of_ble_eq_true rfl) ?_
        rw [abs_ap (by omega) (by omega)]
        refine E_iload d_TP_nearestLean_96 rfl ?_
        refine E_iload d_TP_nearestLean_98 rfl ?_
        first | (with_reducible refine E_isN2 ?_; refine E_isubN d_TP_nearestLean_100 (by omega) ?_) | refine E_isub d_TP_nearestLean_100 ?_
        refine E_absI d_TP_nearestLean_101 ml_TP_391 (by decide) (Nat.le_of_ble_eq_true rfl) ?_
        rw [abs_ap (by omega) (by omega)]
        first | (with_reducible refine E_isN2 ?_; refine E_icmp_gt 111 d_TP_nearestLean_104 rfl (nb_lt (by omega) (by omega) fun h104 => ?_) (nb_nlt (by omega) (by omega) fun h104 => ?_)) | refine E_icmp_gt 111 d_TP_nearestLean_104 rfl (fun h104 => ?_) (fun h104 => ?_)
        · refine E_iconst (v := nI 0) d_TP_nearestLean_111 rfl ?_
          first | exact J1 h104 | exact J0 h104
        · refine E_iconst (v := nI 1) d_TP_nearestLean_107 rfl ?_
          refine E_goto 112 d_TP_nearestLean_108 rfl ?_
          first | exact J1 h104 | exact J0 h104
  have K : ∀ r, LawV (ruler c) r G M → E 4 0 0 Y_TP_nearestLean 8 [some (.ref 0), some (.int (nI p)), some (.int (nI f)), some (oV r), none, none, none, none, none] [] G M (QI G fun r M' => r = wE (moveN c p f) ∧ CM c G M' ∧ Sc SN M M') := by
    intro r hL
    have hs := sp_As_saysYes (AB.now hC) hL hp hf
    have L1 : ∀ M1 M2, Sc SA M M1 → Sc (Bk 209) M1 M2 → (∀ m, Mok m → MoC m 2 M1 → MoC m 209 M2) → _ := fun M1 M2 h1 h2 h3 => by
      have hX1 := h1.wk (P' := SN) (fun _ => SA.n)
      have hX := hX1.tr (h2.wk fun _ => Bk.n)
      have hC1 := hC.q (hX1.wk fun _ => SN.q)
      have hC2 := hC.q (hX.wk fun _ => SN.q)
      exact L r 10 0 M2 (c.now.lean p) none rfl ⟨hC2, ad209, by rw [setLean_own]; exact h3 _ hC.w.mo hC1.now, by rw [setLean_own]; exact hC.w.mo, Nat.le_refl _⟩ (hL.sc hX (fun _ => SN.lt)) hX
    revert hs L1
    cases r with
    | none =>
      intro hs L1
      first | refine E_aload_n d_TP_nearestLean_8 rfl ?_ | refine E_aload_nN d_TP_nearestLean_8 rfl ?_
      refine E_getR d_TP_nearestLean_9 gf_TP_31 (by first | exact hG.s (by decide) rfl) (by first | exact hR.o rfl | exact hR.c cr1 rfl | exact hR.m0 ad2 | exact hR.m0 ad209) ?_
      first | refine E_aload_n d_TP_nearestLean_12 rfl ?_ | refine E_aload_nN d_TP_nearestLean_12 rfl ?_
      refine E_getR d_TP_nearestLean_13 gf_TP_10 (by first | exact hG.s (by decide) rfl) (by first | exact hR.o rfl | exact hR.c cr1 rfl | exact hR.m0 ad2 | exact hR.m0 ad209) ?_
      refine E_getR d_TP_nearestLean_16 gf_TP_128 (by first | exact hG.s (by decide) rfl) (by first | exact hR.o rfl | exact hR.c cr1 rfl | exact hR.m0 ad2 | exact hR.m0 ad209) ?_
      first | refine E_aload_n d_TP_nearestLean_19 rfl ?_ | refine E_aload_nN d_TP_nearestLean_19 rfl ?_
      refine E_iload_n d_TP_nearestLean_20 rfl ?_
      refine E_iload_n d_TP_nearestLean_21 rfl ?_
      refine E_V4 (hs) d_TP_nearestLean_22 ml_TP_189 cb_As_saysYes cv_As_saysYes (by first | exact hG.s (by decide) rfl) ⟨by decide, rfl⟩ ⟨by decide, by decide⟩ rfl (Nat.le_of_ble_eq_true rfl) (Nat.le_of_ble_eq_true rfl) (kI fun r1 M1 hc => ?_)
      obtain ⟨rfl, hS1⟩ := hc; have hC1 := hC.q (hS1.wk fun _ => SA.q); have hR := hC1.R; have hm := hC1.now
      refine E_istore_4 d_TP_nearestLean_25 rfl ?_
      first | refine E_aload_n d_TP_nearestLean_27 rfl ?_ | refine E_aload_nN d_TP_nearestLean_27 rfl ?_
      refine E_getR d_TP_nearestLean_28 gf_TP_10 (by first | exact hG.s (by decide) rfl) (by first | exact hR.o rfl | exact hR.c cr1 rfl | exact hR.m0 ad2 | exact hR.m0 ad209) ?_
      refine E_getR d_TP_nearestLean_31 gf_TP_128 (by first | exact hG.s (by decide) rfl) (by first | exact hR.o rfl | exact hR.c cr1 rfl | exact hR.m0 ad2 | exact hR.m0 ad209) ?_
      refine E_getR d_TP_nearestLean_34 gf_TP_166 (by first | exact hG.s (by decide) rfl) (by first | exact hR.o rfl | exact hR.c cr1 rfl | exact hR.m0 ad2 | exact hR.m0 ad209) ?_
      refine E_iload_n d_TP_nearestLean_37 rfl ?_
      refine E_S2 (sp_TP_at (hG.m1 ad2) (by decide) (by omega) (hm.lean hp)) d_TP_nearestLean_38 ml_TP_169 cb_TP_at cs_TP_at ⟨by decide, by decide⟩ rfl (Nat.le_of_ble_eq_true rfl) (Nat.le_of_ble_eq_true rfl) (kI fun r1 M1 hc => ?_)
      obtain ⟨rfl, rfl⟩ := hc
      refine E_istore_5 d_TP_nearestLean_41 rfl ?_
      refine E_iconst (v := (-1)) d_TP_nearestLean_43 rfl ?_
      refine E_istore_6 d_TP_nearestLean_44 rfl ?_
      first | refine E_aload_n d_TP_nearestLean_46 rfl ?_ | refine E_aload_nN d_TP_nearestLean_46 rfl ?_
      refine E_getR d_TP_nearestLean_47 gf_TP_22 (by first | exact hG.s (by decide) rfl) (by first | exact hR.o rfl | exact hR.c cr1 rfl | exact hR.m0 ad2 | exact hR.m0 ad209) ?_
      first | refine E_aload_n d_TP_nearestLean_50 rfl ?_ | refine E_aload_nN d_TP_nearestLean_50 rfl ?_
      refine E_getR d_TP_nearestLean_51 gf_TP_10 (by first | exact hG.s (by decide) rfl) (by first | exact hR.o rfl | exact hR.c cr1 rfl | exact hR.m0 ad2 | exact hR.m0 ad209) ?_
      refine E_getR d_TP_nearestLean_54 gf_TP_128 (by first | exact hG.s (by decide) rfl) (by first | exact hR.o rfl | exact hR.c cr1 rfl | exact hR.m0 ad2 | exact hR.m0 ad209) ?_
      refine E_V1 (sp_Mo_copyFrom hG hR ad209 ad2 (by decide)) d_TP_nearestLean_57 ml_TP_206 cb_Mo_copyFrom cv_Mo_copyFrom (by first | exact hG.s (by decide) rfl) ⟨by decide, rfl⟩ ⟨by decide, by decide⟩ rfl (Nat.le_of_ble_eq_true rfl) (Nat.le_of_ble_eq_true rfl) (kV fun M1 hc => ?_)
      obtain ⟨hS2, hcp⟩ := hc
      refine E_bipush (v := nI 9) d_TP_nearestLean_60 (by decide) ?_
      refine E_istore_7 d_TP_nearestLean_62 rfl ?_
      exact L1 _ _ hS1 hS2 hcp
    | some la =>
      intro hs L1
      first | refine E_aload_n d_TP_nearestLean_8 rfl ?_ | refine E_aload_nN d_TP_nearestLean_8 rfl ?_
      refine E_getR d_TP_nearestLean_9 gf_TP_31 (by first | exact hG.s (by decide) rfl) (by first | exact hR.o rfl | exact hR.c cr1 rfl | exact hR.m0 ad2 | exact hR.m0 ad209) ?_
      first | refine E_aload_n d_TP_nearestLean_12 rfl ?_ | refine E_aload_nN d_TP_nearestLean_12 rfl ?_
      refine E_getR d_TP_nearestLean_13 gf_TP_10 (by first | exact hG.s (by decide) rfl) (by first | exact hR.o rfl | exact hR.c cr1 rfl | exact hR.m0 ad2 | exact hR.m0 ad209) ?_
      refine E_getR d_TP_nearestLean_16 gf_TP_128 (by first | exact hG.s (by decide) rfl) (by first | exact hR.o rfl | exact hR.c cr1 rfl | exact hR.m0 ad2 | exact hR.m0 ad209) ?_
      first | refine E_aload_n d_TP_nearestLean_19 rfl ?_ | refine E_aload_nN d_TP_nearestLean_19 rfl ?_
      refine E_iload_n d_TP_nearestLean_20 rfl ?_
      refine E_iload_n d_TP_nearestLean_21 rfl ?_
      refine E_V4 (hs) d_TP_nearestLean_22 ml_TP_189 cb_As_saysYes cv_As_saysYes (by first | exact hG.s (by decide) rfl) ⟨by decide, rfl⟩ ⟨by decide, by decide⟩ rfl (Nat.le_of_ble_eq_true rfl) (Nat.le_of_ble_eq_true rfl) (kI fun r1 M1 hc => ?_)
      obtain ⟨rfl, hS1⟩ := hc; have hC1 := hC.q (hS1.wk fun _ => SA.q); have hR := hC1.R; have hm := hC1.now
      refine E_istore_4 d_TP_nearestLean_25 rfl ?_
      first | refine E_aload_n d_TP_nearestLean_27 rfl ?_ | refine E_aload_nN d_TP_nearestLean_27 rfl ?_
      refine E_getR d_TP_nearestLean_28 gf_TP_10 (by first | exact hG.s (by decide) rfl) (by first | exact hR.o rfl | exact hR.c cr1 rfl | exact hR.m0 ad2 | exact hR.m0 ad209) ?_
      refine E_getR d_TP_nearestLean_31 gf_TP_128 (by first | exact hG.s (by decide) rfl) (by first | exact hR.o rfl | exact hR.c cr1 rfl | exact hR.m0 ad2 | exact hR.m0 ad209) ?_
      refine E_getR d_TP_nearestLean_34 gf_TP_166 (by first | exact hG.s (by decide) rfl) (by first | exact hR.o rfl | exact hR.c cr1 rfl | exact hR.m0 ad2 | exact hR.m0 ad209) ?_
      refine E_iload_n d_TP_nearestLean_37 rfl ?_
      refine E_S2 (sp_TP_at (hG.m1 ad2) (by decide) (by omega) (hm.lean hp)) d_TP_nearestLean_38 ml_TP_169 cb_TP_at cs_TP_at ⟨by decide, by decide⟩ rfl (Nat.le_of_ble_eq_true rfl) (Nat.le_of_ble_eq_true rfl) (kI fun r1 M1 hc => ?_)
      obtain ⟨rfl, rfl⟩ := hc
      refine E_istore_5 d_TP_nearestLean_41 rfl ?_
      refine E_iconst (v := (-1)) d_TP_nearestLean_43 rfl ?_
      refine E_istore_6 d_TP_nearestLean_44 rfl ?_
      first | refine E_aload_n d_TP_nearestLean_46 rfl ?_ | refine E_aload_nN d_TP_nearestLean_46 rfl ?_
      refine E_getR d_TP_nearestLean_47 gf_TP_22 (by first | exact hG.s (by decide) rfl) (by first | exact hR.o rfl | exact hR.c cr1 rfl | exact hR.m0 ad2 | exact hR.m0 ad209) ?_
      first | refine E_aload_n d_TP_nearestLean_50 rfl ?_ | refine E_aload_nN d_TP_nearestLean_50 rfl ?_
      refine E_getR d_TP_nearestLean_51 gf_TP_10 (by first | exact hG.s (by decide) rfl) (by first | exact hR.o rfl | exact hR.c cr1 rfl | exact hR.m0 ad2 | exact hR.m0 ad209) ?_
      refine E_getR d_TP_nearestLean_54 gf_TP_128 (by first | exact hG.s (by decide) rfl) (by first | exact hR.o rfl | exact hR.c cr1 rfl | exact hR.m0 ad2 | exact hR.m0 ad209) ?_
      refine E_V1 (sp_Mo_copyFrom hG hR ad209 ad2 (by decide)) d_TP_nearestLean_57 ml_TP_206 cb_Mo_copyFrom cv_Mo_copyFrom (by first | exact hG.s (by decide) rfl) ⟨by decide, rfl⟩ ⟨by decide, by decide⟩ rfl (Nat.le_of_ble_eq_true rfl) (Nat.le_of_ble_eq_true rfl) (kV fun M1 hc => ?_)
      obtain ⟨hS2, hcp⟩ := hc
      refine E_bipush (v := nI 9) d_TP_nearestLean_60 (by decide) ?_
      refine E_istore_7 d_TP_nearestLean_62 rfl ?_
      exact L1 _ _ hS1 hS2 hcp
  have K7 : ∀ r, LawV (ruler c) r G M → E 4 0 0 Y_TP_nearestLean 7 [some (.ref 0), some (.int (nI p)), some (.int (nI f)), none, none, none, none, none, none] [oV r] G M (QI G fun r M' => r = wE (moveN c p f) ∧ CM c G M' ∧ Sc SN M M') := by
    intro r hL
    have k := K r hL
    revert k
    cases r with
    | none => intro k; exact E_astoreN_3 d_TP_nearestLean_7 rfl k
    | some la => intro k; exact E_astore_3 d_TP_nearestLean_7 rfl k
  first | refine E_aload_n d_TP_nearestLean_0 rfl ?_ | refine E_aload_nN d_TP_nearestLean_0 rfl ?_
  refine E_getR d_TP_nearestLean_1 gf_TP_10 (by first | exact hG.s (by decide) rfl) (by first | exact hR.o rfl | exact hR.c cr1 rfl | exact hR.m0 ad2 | exact hR.m0 ad209) ?_
  refine E_V0 (sp_Cr_rulingText hC) d_TP_nearestLean_4 ml_TP_186 cb_Cr_rulingText cv_Cr_rulingText (by first | exact hG.s (by decide) rfl) ⟨by decide, rfl⟩ ⟨by decide, by decide⟩ rfl (Nat.le_of_ble_eq_true rfl) (Nat.le_of_ble_eq_true rfl) (kR fun r1 M1 hc => ?_)
  obtain ⟨hL, rfl⟩ := hc
  exact K7 r1 hL
theorem sp_TP_move (hC : CM c G M) (x y : Int32) : E 5 0 0 Y_TP_move 0 [some (.ref 0), some (.int x), some (.int y)] [] G M (QI G fun r M' => r = ans_move c x y ∧ Sc CQ M M') := by
  have hG := hC.G
  have hR := hC.R
  have hm := hC.now
  have hp8 := hC.w.p8
  revert x y
  refine args2 c.now.people (c.now.people + 1) (fun k j hk hx ht hj hy ht2 => ?_) (fun x y hx => ?_) (fun x y hx hy => ?_)
  · have ev : ans_move c (nI k) (nI j) = wE (moveN c k j) := by rw [ans_move, if_pos ⟨hx, hy⟩, ht, ht2]
    first | refine E_aload_n d_TP_move_0 rfl ?_ | refine E_aload_nN d_TP_move_0 rfl ?_
    refine E_getR d_TP_move_1 gf_TP_10 (by first | exact hG.s (by decide) rfl) (by first | exact hR.o rfl | exact hR.c cr1 rfl | exact hR.m0 ad2 | exact hR.m0 ad209) ?_
    refine E_getR d_TP_move_4 gf_TP_128 (by first | exact hG.s (by decide) rfl) (by first | exact hR.o rfl | exact hR.c cr1 rfl | exact hR.m0 ad2 | exact hR.m0 ad209) ?_
    refine E_iload_n d_TP_move_7 rfl ?_
    refine E_V1 (sp_Mo_hasPerson hG ad2 hm hC.w.mo _) d_TP_move_8 ml_TP_163 cb_Mo_hasPerson cv_Mo_hasPerson (by first | exact hG.s (by decide) rfl) ⟨by decide, rfl⟩ ⟨by decide, by decide⟩ rfl (Nat.le_of_ble_eq_true rfl) (Nat.le_of_ble_eq_true rfl) (kI fun r1 M1 hc => ?_)
    obtain ⟨rfl, rfl⟩ := hc
    first | (with_reducible refine E_isP ?_; refine E_if_eq 31 d_TP_move_11 rfl (pb_0 fun h11 => ?_) (pb_1 fun h11 => ?_)) | (with_reducible refine E_isN1 ?_; refine E_if_eq 31 d_TP_move_11 rfl (nz_eq (by omega) fun h11 => ?_) (nz_ne fun h11 => ?_)) | refine E_if_eq 31 d_TP_move_11 rfl (fun h11 => ?_) (fun h11 => ?_)
    · exfalso; exact h11 hx
    first | refine E_aload_n d_TP_move_14 rfl ?_ | refine E_aload_nN d_TP_move_14 rfl ?_
    refine E_iload_n d_TP_move_15 rfl ?_
    refine E_V1 (sp_TP_isFigure hC _) d_TP_move_16 ml_TP_214 cb_TP_isFigure cv_TP_isFigure (by first | exact hG.s (by decide) rfl) ⟨by decide, rfl⟩ ⟨by decide, by decide⟩ rfl (Nat.le_of_ble_eq_true rfl) (Nat.le_of_ble_eq_true rfl) (kI fun r1 M1 hc => ?_)
    obtain ⟨rfl, rfl⟩ := hc
    first | (with_reducible refine E_isP ?_; refine E_if_eq 31 d_TP_move_19 rfl (pb_0 fun h19 => ?_) (pb_1 fun h19 => ?_)) | (with_reducible refine E_isN1 ?_; refine E_if_eq 31 d_TP_move_19 rfl (nz_eq (by omega) fun h19 => ?_) (nz_ne fun h19 => ?_)) | refine E_if_eq 31 d_TP_move_19 rfl (fun h19 => ?_) (fun h19 => ?_)
    · exfalso; exact h19 hy
    first | refine E_aload_n d_TP_move_22 rfl ?_ | refine E_aload_nN d_TP_move_22 rfl ?_
    refine E_iload_n d_TP_move_23 rfl ?_
    refine E_iload_n d_TP_move_24 rfl ?_
    refine E_V2 (sp_TP_nearestLean hC hk (by omega)) d_TP_move_25 ml_TP_287 cb_TP_nearestLean cv_TP_nearestLean (by first | exact hG.s (by decide) rfl) ⟨by decide, rfl⟩ ⟨by decide, by decide⟩ rfl (Nat.le_of_ble_eq_true rfl) (Nat.le_of_ble_eq_true rfl) (kI fun r1 M1 hc => ?_)
    obtain ⟨rfl, hC1, hS1⟩ := hc
    refine E_goto 32 d_TP_move_28 rfl ?_
    refine E_retI d_TP_move_32 rfl ?_
    exact ⟨ev.symm, hS1.wk fun _ => SN.q⟩
  · have ev : ans_move c x y = -1 := by rw [ans_move, if_neg (fun q => hx q.1)]
    first | refine E_aload_n d_TP_move_0 rfl ?_ | refine E_aload_nN d_TP_move_0 rfl ?_
    refine E_getR d_TP_move_1 gf_TP_10 (by first | exact hG.s (by decide) rfl) (by first | exact hR.o rfl | exact hR.c cr1 rfl | exact hR.m0 ad2 | exact hR.m0 ad209) ?_
    refine E_getR d_TP_move_4 gf_TP_128 (by first | exact hG.s (by decide) rfl) (by first | exact hR.o rfl | exact hR.c cr1 rfl | exact hR.m0 ad2 | exact hR.m0 ad209) ?_
    refine E_iload_n d_TP_move_7 rfl ?_
    refine E_V1 (sp_Mo_hasPerson hG ad2 hm hC.w.mo _) d_TP_move_8 ml_TP_163 cb_Mo_hasPerson cv_Mo_hasPerson (by first | exact hG.s (by decide) rfl) ⟨by decide, rfl⟩ ⟨by decide, by decide⟩ rfl (Nat.le_of_ble_eq_true rfl) (Nat.le_of_ble_eq_true rfl) (kI fun r1 M1 hc => ?_)
    obtain ⟨rfl, rfl⟩ := hc
    first | (with_reducible refine E_isP ?_; refine E_if_eq 31 d_TP_move_11 rfl (pb_0 fun h11 => ?_) (pb_1 fun h11 => ?_)) | (with_reducible refine E_isN1 ?_; refine E_if_eq 31 d_TP_move_11 rfl (nz_eq (by omega) fun h11 => ?_) (nz_ne fun h11 => ?_)) | refine E_if_eq 31 d_TP_move_11 rfl (fun h11 => ?_) (fun h11 => ?_)
    rotate_left
    · exfalso; exact hx h11
    refine E_iconst (v := (-1)) d_TP_move_31 rfl ?_
    refine E_retI d_TP_move_32 rfl ?_
    exact ⟨ev.symm, Sc.rf⟩
  · have ev : ans_move c x y = -1 := by rw [ans_move, if_neg (fun q => hy q.2)]
    first | refine E_aload_n d_TP_move_0 rfl ?_ | refine E_aload_nN d_TP_move_0 rfl ?_
    refine E_getR d_TP_move_1 gf_TP_10 (by first | exact hG.s (by decide) rfl) (by first | exact hR.o rfl | exact hR.c cr1 rfl | exact hR.m0 ad2 | exact hR.m0 ad209) ?_
    refine E_getR d_TP_move_4 gf_TP_128 (by first | exact hG.s (by decide) rfl) (by first | exact hR.o rfl | exact hR.c cr1 rfl | exact hR.m0 ad2 | exact hR.m0 ad209) ?_
    refine E_iload_n d_TP_move_7 rfl ?_
    refine E_V1 (sp_Mo_hasPerson hG ad2 hm hC.w.mo _) d_TP_move_8 ml_TP_163 cb_Mo_hasPerson cv_Mo_hasPerson (by first | exact hG.s (by decide) rfl) ⟨by decide, rfl⟩ ⟨by decide, by decide⟩ rfl (Nat.le_of_ble_eq_true rfl) (Nat.le_of_ble_eq_true rfl) (kI fun r1 M1 hc => ?_)
    obtain ⟨rfl, rfl⟩ := hc
    first | (with_reducible refine E_isP ?_; refine E_if_eq 31 d_TP_move_11 rfl (pb_0 fun h11 => ?_) (pb_1 fun h11 => ?_)) | (with_reducible refine E_isN1 ?_; refine E_if_eq 31 d_TP_move_11 rfl (nz_eq (by omega) fun h11 => ?_) (nz_ne fun h11 => ?_)) | refine E_if_eq 31 d_TP_move_11 rfl (fun h11 => ?_) (fun h11 => ?_)
    · exfalso; exact h11 hx
    first | refine E_aload_n d_TP_move_14 rfl ?_ | refine E_aload_nN d_TP_move_14 rfl ?_
    refine E_iload_n d_TP_move_15 rfl ?_
    refine E_V1 (sp_TP_isFigure hC _) d_TP_move_16 ml_TP_214 cb_TP_isFigure cv_TP_isFigure (by first | exact hG.s (by decide) rfl) ⟨by decide, rfl⟩ ⟨by decide, by decide⟩ rfl (Nat.le_of_ble_eq_true rfl) (Nat.le_of_ble_eq_true rfl) (kI fun r1 M1 hc => ?_)
    obtain ⟨rfl, rfl⟩ := hc
    first | (with_reducible refine E_isP ?_; refine E_if_eq 31 d_TP_move_19 rfl (pb_0 fun h19 => ?_) (pb_1 fun h19 => ?_)) | (with_reducible refine E_isN1 ?_; refine E_if_eq 31 d_TP_move_19 rfl (nz_eq (by omega) fun h19 => ?_) (nz_ne fun h19 => ?_)) | refine E_if_eq 31 d_TP_move_19 rfl (fun h19 => ?_) (fun h19 => ?_)
    rotate_left
    · exfalso; exact hy h19
    refine E_iconst (v := (-1)) d_TP_move_31 rfl ?_
    refine E_retI d_TP_move_32 rfl ?_
    exact ⟨ev.symm, Sc.rf⟩
end TPg
