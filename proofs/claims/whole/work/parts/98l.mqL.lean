section MQl
variable {M M0 : Mem} {l : List Nat} {k t s w0 : Nat}
theorem tok00 : TOK c00.t := ⟨⟨by decide, fun k hk => absurd hk (Nat.not_lt_zero k), ⟨fun h => (by cases h), fun ⟨k, hk, _⟩ => absurd hk (Nat.not_lt_zero k)⟩, ⟨fun h => (by cases h), fun ⟨k, hk, _⟩ => absurd hk (Nat.not_lt_zero k)⟩, fun q h => by (have h : (none : Option (Cd × Cd)) = some q := h; cases h), fun q h => by (have h : (none : Option (Cd × Cd)) = some q := h; cases h)⟩, fun q h => absurd h List.not_mem_nil⟩
theorem clR_f6 (k : Nat) (tt : CT) (b : Nat) : (clR (SS l) (VV l) k tt b).f ≤ 6 ∧ ((clR (SS l) (VV l) k tt b).f = 0 → (clR (SS l) (VV l) k tt b).t.cl.length = tt.cl.length + 1) := by
  unfold clR
  by_cases d1 : ¬ (SS l k ≤ 9 ∧ SS l k ≠ 3 ∧ SS l k ≠ 5)
  · rw [if_pos d1]; exact ⟨by show 1 ≤ 6; decide, fun z => absurd z (show ¬ 1 = 0 by decide)⟩
  · rw [if_neg d1]
    by_cases d2 : (SS l k = 0 ∧ tt.sy.isSome = true) ∨ (SS l k = 1 ∧ tt.sw.isSome = true)
    · rw [if_pos d2]; exact ⟨by show 4 ≤ 6; decide, fun z => absurd z (show ¬ 4 = 0 by decide)⟩
    · rw [if_neg d2]
      by_cases d3 : 24 ≤ tt.cl.length
      · rw [if_pos d3]; exact ⟨by show 6 ≤ 6; decide, fun z => absurd z (show ¬ 6 = 0 by decide)⟩
      · rw [if_neg d3]
        have gn := (Gn.rest (S := SS l) (V := VV l) (SS l k) (k + 1) b).1
        unfold cluN
        by_cases q : (restR (SS l) (VV l) (SS l k) (k + 1) b).f ≠ 0
        · rw [if_pos q]; exact ⟨Nat.le_trans gn (by decide), fun z => absurd z q⟩
        · rw [if_neg q]
          by_cases q2 : SS l (restR (SS l) (VV l) (SS l k) (k + 1) b).k ≠ 38
          · rw [if_pos q2]; exact ⟨by show 1 ≤ 6; decide, fun z => absurd z (show ¬ 1 = 0 by decide)⟩
          · rw [if_neg q2]
            refine ⟨Nat.zero_le _, fun _ => ?_⟩
            show (tt.cl ++ [_]).length = tt.cl.length + 1
            rw [List.length_append]
            rfl
theorem allR_nz {c : CR} (h : c.f ≠ 0) : ∀ n, allR (SS l) (VV l) n c = c := fun n => by
  cases n with
  | zero => rfl
  | succ n => rw [allR, if_neg (fun z => h z.1)]
theorem allR_40 {c : CR} (h : SS l c.k = 40) : ∀ n, allR (SS l) (VV l) n c = c := fun n => by
  cases n with
  | zero => rfl
  | succ n => rw [allR, if_neg (fun z => z.2 h)]
theorem allR_f6 : ∀ n (c : CR), c.f ≤ 6 → (allR (SS l) (VV l) n c).f ≤ 6 := by
  intro n
  induction n with
  | zero => exact fun c h => h
  | succ n ih =>
    intro c h
    rw [allR]
    by_cases q : c.f = 0 ∧ SS l c.k ≠ 40
    · rw [if_pos q]; exact ih _ (clR_f6 _ _ _).1
    · rw [if_neg q]; exact h
theorem prs_f6 : (prs l).f ≤ 6 := allR_f6 25 c00 (by decide)
theorem lp_TM_readText : ∀ n (c : CR) (M : Mem) w, c.f = 0 → 25 ≤ n + c.t.cl.length → TS l t M0 c.k c.t w M → ∀ x : Option Value, c1 x = true → E 11 0 0 Y_TM_readText 43 [some (.ref 0), x] [] GM M (QI GM fun r M' => CRo l t M0 (allR (SS l) (VV l) n c) r M') := by
  intro n
  induction n with
  | zero =>
    intro c M w hc hn hS
    have := hS.2.2.2.2.2.2.2.2.2.1
    omega
  | succ n ih =>
    intro c M w hc hn hS x hx
    have hR := hS.1
    have hK := hS.2.2.1
    obtain ⟨-, -, tk, n', w', h9, -, -, hT⟩ := id hK
    have t0 := hT.tk.2.2.2.2.2.2.2.2.2.2.2.2.2.1
    have hlt := hT.2.2.2.1
    clear hT
    by_cases q : SS l c.k = 40
    · rw [allR_40 q]
      have k0 : tk = 0 := t0.mpr q
      have ok : CRo l t M0 c (nI 0) M := ⟨by rw [hc], fun _ => ⟨w, hS⟩, fun z => absurd hc z⟩
      first | refine E_aload_n d_TM_readText_43 rfl ?_ | refine E_aload_nN d_TM_readText_43 rfl ?_
      refine E_getI d_TM_readText_44 gf_TM_94 (by exact ⟨by decide, rfl⟩) (by exact h9) ?_
      first | (with_reducible refine E_isP ?_; refine E_if_eq 64 d_TM_readText_47 rfl (pb_0 fun h47 => ?_) (pb_1 fun h47 => ?_)) | (with_reducible refine E_isN1 ?_; refine E_if_eq 64 d_TM_readText_47 rfl (nz_eq (by omega) fun h47 => ?_) (nz_ne fun h47 => ?_)) | refine E_if_eq 64 d_TM_readText_47 rfl (fun h47 => ?_) (fun h47 => ?_)
      rotate_left
      · exfalso; omega
      refine E_iconst (v := nI 0) d_TM_readText_64 rfl ?_
      refine E_retI d_TM_readText_65 rfl ?_
      exact ok
    · rw [allR, if_pos ⟨hc, q⟩]
      have k0 : tk ≠ 0 := fun z => q (t0.mp z)
      have cl := sp_TM_clause (b := c.b) hS q
      obtain ⟨c6, cL⟩ := clR_f6 (l := l) c.k c.t c.b
      generalize clR (SS l) (VV l) c.k c.t c.b = c2 at *
      by_cases q2 : c2.f = 0
      · have cl1 : E 10 0 0 Y_TM_clause 0 [some (.ref 0), none, none, none, none] [] GM M (QI GM fun r M' => r = nI 0 ∧ ∃ w', TS l t M0 c2.k c2.t w' M') := E_mono cl (fun _ _ _ y => by obtain ⟨a, r, b, z1, z2, z3⟩ := y; exact ⟨a, r, b, by rw [z1, q2], z2 q2⟩)
        first | refine E_aload_n d_TM_readText_43 rfl ?_ | refine E_aload_nN d_TM_readText_43 rfl ?_
        refine E_getI d_TM_readText_44 gf_TM_94 (by exact ⟨by decide, rfl⟩) (by exact h9) ?_
        first | (with_reducible refine E_isP ?_; refine E_if_eq 64 d_TM_readText_47 rfl (pb_0 fun h47 => ?_) (pb_1 fun h47 => ?_)) | (with_reducible refine E_isN1 ?_; refine E_if_eq 64 d_TM_readText_47 rfl (nz_eq (by omega) fun h47 => ?_) (nz_ne fun h47 => ?_)) | refine E_if_eq 64 d_TM_readText_47 rfl (fun h47 => ?_) (fun h47 => ?_)
        · exfalso; omega
        first | refine E_aload_n d_TM_readText_50 rfl ?_ | refine E_aload_nN d_TM_readText_50 rfl ?_
        refine E_V0 (cl1) d_TM_readText_51 ml_TM_237 cb_TM_clause cv_TM_clause (by exact ⟨by decide, rfl⟩) ⟨by decide, rfl⟩ ⟨by decide, by decide⟩ rfl (Nat.le_of_ble_eq_true rfl) (Nat.le_of_ble_eq_true rfl) (kI fun r1 M1 hc => ?_)
        obtain ⟨rfl, w2, hS2⟩ := hc
        refine E_istore_1 d_TM_readText_54 rfl ?_
        refine E_iload_n d_TM_readText_55 rfl ?_
        first | (with_reducible refine E_isP ?_; refine E_if_eq 61 d_TM_readText_56 rfl (pb_0 fun h56 => ?_) (pb_1 fun h56 => ?_)) | (with_reducible refine E_isN1 ?_; refine E_if_eq 61 d_TM_readText_56 rfl (nz_eq (by omega) fun h56 => ?_) (nz_ne fun h56 => ?_)) | refine E_if_eq 61 d_TM_readText_56 rfl (fun h56 => ?_) (fun h56 => ?_)
        rotate_left
        · exfalso; omega
        refine E_goto 43 d_TM_readText_61 rfl ?_
        exact ih c2 _ w2 q2 (by have := cL q2; omega) hS2 _ rfl
      · rw [allR_nz q2]
        have cl1 : E 10 0 0 Y_TM_clause 0 [some (.ref 0), none, none, none, none] [] GM M (QI GM fun r M' => r = nI c2.f ∧ FT l t M0 c2.k M') := E_mono cl (fun _ _ _ y => by obtain ⟨a, r, b, z1, z2, z3⟩ := y; exact ⟨a, r, b, z1, z3 q2⟩)
        first | refine E_aload_n d_TM_readText_43 rfl ?_ | refine E_aload_nN d_TM_readText_43 rfl ?_
        refine E_getI d_TM_readText_44 gf_TM_94 (by exact ⟨by decide, rfl⟩) (by exact h9) ?_
        first | (with_reducible refine E_isP ?_; refine E_if_eq 64 d_TM_readText_47 rfl (pb_0 fun h47 => ?_) (pb_1 fun h47 => ?_)) | (with_reducible refine E_isN1 ?_; refine E_if_eq 64 d_TM_readText_47 rfl (nz_eq (by omega) fun h47 => ?_) (nz_ne fun h47 => ?_)) | refine E_if_eq 64 d_TM_readText_47 rfl (fun h47 => ?_) (fun h47 => ?_)
        · exfalso; omega
        first | refine E_aload_n d_TM_readText_50 rfl ?_ | refine E_aload_nN d_TM_readText_50 rfl ?_
        refine E_V0 (cl1) d_TM_readText_51 ml_TM_237 cb_TM_clause cv_TM_clause (by exact ⟨by decide, rfl⟩) ⟨by decide, rfl⟩ ⟨by decide, by decide⟩ rfl (Nat.le_of_ble_eq_true rfl) (Nat.le_of_ble_eq_true rfl) (kI fun r1 M1 hc => ?_)
        obtain ⟨rfl, hF⟩ := hc
        refine E_istore_1 d_TM_readText_54 rfl ?_
        refine E_iload_n d_TM_readText_55 rfl ?_
        first | (with_reducible refine E_isP ?_; refine E_if_eq 61 d_TM_readText_56 rfl (pb_0 fun h56 => ?_) (pb_1 fun h56 => ?_)) | (with_reducible refine E_isN1 ?_; refine E_if_eq 61 d_TM_readText_56 rfl (nz_eq (by omega) fun h56 => ?_) (nz_ne fun h56 => ?_)) | refine E_if_eq 61 d_TM_readText_56 rfl (fun h56 => ?_) (fun h56 => ?_)
        · exfalso; omega
        refine E_iload_n d_TM_readText_59 rfl ?_
        refine E_retI d_TM_readText_60 rfl ?_
        exact ⟨rfl, fun z => absurd z q2, fun _ => hF⟩
def NW (M : Mem) : Prop := ∃ N W, N ≤ 1000000 ∧ W ≤ 1152921504606846976 ∧ mI M 0 10 = nI N ∧ mL M 0 11 = lN W
theorem TKM.nw (h : TKM l k M) : NW M := by
  obtain ⟨-, -, tk, n, w, -, h10, h11, hT⟩ := h
  exact ⟨n, w, hT.2.2.2.2.1, hT.2.2.2.2.2, h10, h11⟩
def rtM (t : Nat) (M : Mem) : Mem := wI (wI (wI (wI (wI M 0 12 (nI (681 * t))) 3 (681 * t) (nI 0)) 0 13 (nI 0)) 0 19 (nI 0)) 0 7 (nI 0)
theorem rtM_f (t : Nat) (M : Mem) : mI (rtM t M) 0 7 = nI 0 ∧ mI (rtM t M) 0 12 = nI (681 * t) ∧ mI (rtM t M) 0 13 = nI 0 ∧ mI (rtM t M) 0 19 = nI 0 ∧ mI (rtM t M) 0 10 = mI M 0 10 ∧ mL (rtM t M) = mL M ∧ (∀ i, mI (rtM t M) 3 i = if i = 681 * t then nI 0 else mI M 3 i) ∧ Fo 0 (fun j => j = 7 ∨ j = 12 ∨ j = 13 ∨ j = 19) A3' M (rtM t M) := by
  unfold rtM
  refine ⟨by rw [mI_wa, if_pos rfl], ?_, ?_, ?_, ?_, rfl, fun i => ?_, (((((Fo.rf (o := 0) (J := fun j => j = 7 ∨ j = 12 ∨ j = 13 ∨ j = 19) (A := A3')).wI (by decide)).wJ (b := 3) (by decide) rfl).wI (by decide)).wI (by decide)).wI (by decide)⟩
  · simp [mI_wI]
  · simp [mI_wI]
  · simp [mI_wI]
  · simp [mI_wI]
  · rw [mI_wx (by decide), mI_wx (by decide), mI_wx (by decide), mI_wa, mI_wx (by decide)]
theorem sp_TM_readText (hR : MR M) (hT : TapeM l M) (ht : t ≤ 3) (h1 : mI M 1 1 = nI t) (hN : NW M) : E 11 0 0 Y_TM_readText 0 [some (.ref 0), none] [] GM M (QI GM fun r M' => CRo l t M (prs l) r M') := by
  obtain ⟨N, W, n1, n2, n3, n4⟩ := hN
  obtain ⟨f7, f12, f13, f19, f10, fL, f3, fX⟩ := rtM_f t M
  have hR5 : MR (rtM t M) := hR.fx fX.fx
  have hT5 : TapeM l (rtM t M) := hT.fx fX.fx (by decide) (by decide)
  have nx : E 1 0 0 Y_TM_nextToken 0 [some (.ref 0), none] [] GM (rtM t M) (QV GM fun M' => TKM l 0 M' ∧ Fx Jn An (rtM t M) M') := sp_TM_next0 (k := 0) hR5 hT5 n1 n2 (f10.trans n3) (by rw [fL]; exact n4) _ 0 (rtM t M) rfl (Nat.zero_le _) rfl Fx.rf f7 (f10.trans n3) (by rw [fL]; exact n4)
  have st : ∀ M6, TKM l 0 M6 ∧ Fx Jn An (rtM t M) M6 → TS l t M c00.k c00.t 0 M6 := fun M6 hc => by
    have xx : Fx JT AP M M6 := (fX.fx.wk (fun j z => by unfold JT JP; omega) (fun a z => Or.inl z)).tr (hc.2.wk (fun j z => Or.inl (Or.inl z)) (fun a z => absurd z (fun y => y)))
    have e3 : mI M6 3 = mI (rtM t M) 3 := hc.2.2.1 3 (by decide) (fun z => z)
    have ej : ∀ j, ¬ Jn j → mI M6 0 j = mI (rtM t M) 0 j := fun j hj => hc.2.2.2.1 j hj
    refine ⟨hR5.fx hc.2, hT5.fx hc.2 (by unfold Jn; omega) (fun z => z), hc.1, vk0 l, (ej 12 (by unfold Jn; omega)).trans f12, (ej 13 (by unfold Jn; omega)).trans f13, Nat.le_refl _, (ej 19 (by unfold Jn; omega)).trans f19, by rw [e3, f3, if_pos rfl]; rfl, by decide, fun i hi => absurd hi (Nat.not_lt_zero i), fun i hi => by rw [e3, f3, if_neg (by omega)], xx, tok00, ht⟩
  have lp := fun M6 hc x hx => lp_TM_readText (l := l) (t := t) (M0 := M) 25 c00 M6 0 rfl (by decide) (st M6 hc) x hx
  first | refine E_aload_n d_TM_readText_0 rfl ?_ | refine E_aload_nN d_TM_readText_0 rfl ?_
  refine E_sipush (v := nI 681) d_TM_readText_1 (by decide) ?_
  first | refine E_aload_n d_TM_readText_4 rfl ?_ | refine E_aload_nN d_TM_readText_4 rfl ?_
  refine E_getR (q := 1) d_TM_readText_5 gf_TM_7 (by exact ⟨by decide, rfl⟩) (by exact hR _ rfl) ?_
  refine E_iconst (v := nI 1) d_TM_readText_8 rfl ?_
  refine E_iald d_TM_readText_9 (by exact ⟨by decide, rfl⟩) (by exact ⟨by with_reducible rfl, by omega, by decide⟩) (by exact h1) ?_
  first | (with_reducible refine E_isN2 ?_; refine E_imulN d_TM_readText_10 ?_) | refine E_imul d_TM_readText_10 ?_
  refine E_putI d_TM_readText_11 gf_TM_132 (by exact ⟨by decide, rfl⟩) rfl rfl ?_
  first | refine E_aload_n d_TM_readText_14 rfl ?_ | refine E_aload_nN d_TM_readText_14 rfl ?_
  refine E_getR (q := 3) d_TM_readText_15 gf_TM_16 (by exact ⟨by decide, rfl⟩) (by exact hR _ rfl) ?_
  first | refine E_aload_n d_TM_readText_18 rfl ?_ | refine E_aload_nN d_TM_readText_18 rfl ?_
  refine E_getI d_TM_readText_19 gf_TM_132 (by exact ⟨by decide, rfl⟩) (by rw [mI_wa, if_pos rfl]) ?_
  refine E_iconst (v := nI 0) d_TM_readText_22 rfl ?_
  refine E_iast d_TM_readText_23 (by exact ⟨by decide, rfl⟩) (by exact ⟨by with_reducible rfl, by omega, by decide⟩) ?_
  first | refine E_aload_n d_TM_readText_24 rfl ?_ | refine E_aload_nN d_TM_readText_24 rfl ?_
  refine E_iconst (v := nI 0) d_TM_readText_25 rfl ?_
  refine E_putI d_TM_readText_26 gf_TM_135 (by exact ⟨by decide, rfl⟩) rfl rfl ?_
  first | refine E_aload_n d_TM_readText_29 rfl ?_ | refine E_aload_nN d_TM_readText_29 rfl ?_
  refine E_iconst (v := nI 0) d_TM_readText_30 rfl ?_
  refine E_putI d_TM_readText_31 gf_TM_226 (by exact ⟨by decide, rfl⟩) rfl rfl ?_
  first | refine E_aload_n d_TM_readText_34 rfl ?_ | refine E_aload_nN d_TM_readText_34 rfl ?_
  refine E_iconst (v := nI 0) d_TM_readText_35 rfl ?_
  refine E_putI d_TM_readText_36 gf_TM_84 (by exact ⟨by decide, rfl⟩) rfl rfl ?_
  first | refine E_aload_n d_TM_readText_39 rfl ?_ | refine E_aload_nN d_TM_readText_39 rfl ?_
  refine E_V0 (nx) d_TM_readText_40 ml_TM_165 cb_TM_nextToken cv_TM_nextToken (by exact ⟨by decide, rfl⟩) ⟨by decide, rfl⟩ ⟨by decide, by decide⟩ rfl (Nat.le_of_ble_eq_true rfl) (Nat.le_of_ble_eq_true rfl) (kV fun M1 hc => ?_)
  skip
  exact lp _ hc _ rfl
end MQl
