section MQi
variable {M M0 : Mem} {l : List Nat} {k t s w0 : Nat}
def BP (l : List Nat) (t s x w : Nat) (r : RR) (M M' : Mem) : Prop :=
  TKM l r.k M' ∧ Fx JP AP M M' ∧ (∀ i, i ≠ x + 1 → i ≠ x + 2 → (i < 681 * t + 73 + 2 * w ∨ 681 * t + 681 ≤ i) → mI M' 3 i = mI M 3 i) ∧ ∃ w', mI M' 0 13 = nI w' ∧ w' ≤ r.k ∧
    (r.f = 0 → (s ≤ 1 → ∃ q, r.q = some q ∧ w' = w + q.1.length ∧ mI M' 3 (x + 1) = nI w ∧ mI M' 3 (x + 2) = nI w' ∧ RepCode q.1 (mI M' 3) (681 * t + 73 + 2 * w)) ∧ (2 ≤ s → w' = w ∧ mI M' 3 (x + 1) = nI r.a ∧ (s ≤ 4 → mI M' 3 (x + 2) = nI r.b)))
theorem BQ.p {x w : Nat} {r : RR} {M' : Mem} (h : BQ l t s x w r M M') : BP l t s x w r M M' := ⟨h.1, h.2.1.wk (fun j z => z) (fun a z => Or.inl z), h.2.2⟩
theorem sp_TM_body (hR : MR M) (hT : TapeM l M) (hK : TKM l k M) (hv : vk l k) {x w : Nat} (ht : t ≤ 3) (hx : 681 * t ≤ x) (hx2 : x + 2 < 681 * t + 73) (hs : s ≤ 9 ∧ s ≠ 3 ∧ s ≠ 5) (h12 : mI M 0 12 = nI (681 * t)) (h14 : mI M 0 14 = nI (kdS s)) (hw : mI M 0 13 = nI w) (hwk : w ≤ k) (b : Nat) :
    E 9 0 0 Y_TM_body 0 [some (.ref 0), some (.int (nI (kdS s))), some (.int (nI x))] [] GM M (QI GM fun r M' => r = nI (restR (SS l) (VV l) s k b).f ∧ BP l t s x w (restR (SS l) (VV l) s k b) M M') := by
  have lw : s ≤ 1 → kdS s = s ∧ E 8 0 0 Y_TM_lawClause 0 [some (.ref 0), some (.int (nI x)), none] [] GM M (QI GM fun r M' => r = nI (restR (SS l) (VV l) s k b).f ∧ BP l t s x w (restR (SS l) (VV l) s k b) M M') := fun h => by
    have e : kdS s = s := by unfold kdS; rw [if_pos (by omega)]
    have er : restR (SS l) (VV l) s k b = lawN (SS l) (VV l) s k b := by unfold restR; rw [if_pos h]
    rw [er]
    refine ⟨e, E_mono (sp_TM_lawClause hR hT hK hv ht hx hx2 h h12 (by rw [h14, e]) hw hwk b) (fun _ _ _ y => ?_)⟩
    obtain ⟨a, r, b', z1, z2, z3, z4, w', z5, z6, z7⟩ := y
    exact ⟨a, r, b', z1, z2, z3, z4, w', z5, z6, fun q => ⟨fun _ => z7 q, fun y => by omega⟩⟩
  have two : ∀ {top wj z top2 : Nat}, 2 ≤ s → top ≤ 60 → top2 ≤ 60 → wj < 26 → z = kwN.getD wj 0 → z < 9223372036854775808 → restR (SS l) (VV l) s k b = twoN (SS l) (VV l) top wj top2 k → E 3 0 0 Y_TM_twoNumbers 0 [some (.ref 0), some (.int (nI x)), some (.int (nI top)), some (.long (lN z)), none, some (.int (nI top2)), none] [] GM M (QI GM fun r M' => r = nI (restR (SS l) (VV l) s k b).f ∧ BP l t s x w (restR (SS l) (VV l) s k b) M M') := fun h1 h2 h3 h4 h5 h6 e => by
    rw [e]
    exact E_mono (sp_TM_twoNumbers (t := t) (s := s) hR hT hK (by omega) h1 h2 h3 hw hwk h4 h5 h6) (fun _ _ _ y => by
      obtain ⟨a, r, b', z1, z2⟩ := y
      exact ⟨a, r, b', z1, z2.p⟩)
  have one : ∀ {lo hi : Nat}, 5 ≤ s → lo ≤ hi → hi ≤ 60 → restR (SS l) (VV l) s k b = oneN (SS l) (VV l) lo hi k → E 2 0 0 Y_TM_figure 0 [some (.ref 0), some (.int (nI (x + 1))), some (.int (nI lo)), some (.int (nI hi))] [] GM M (QI GM fun r M' => r = nI (restR (SS l) (VV l) s k b).f ∧ BP l t s x w (restR (SS l) (VV l) s k b) M M') := fun h1 h2 h3 e => by
    rw [e]
    exact E_mono (sp_TM_figure hR hT hK (by omega) h2 h3) (fun _ _ _ y => by
      obtain ⟨a, r, b', z⟩ := y
      obtain ⟨z1, z2⟩ := bq_one (t := t) h1 hw hwk hK z
      exact ⟨a, r, b', z1, z2.p⟩)
  rcases (show s = 0 ∨ s = 1 ∨ s = 2 ∨ s = 4 ∨ s = 6 ∨ s = 7 ∨ s = 8 ∨ s = 9 by omega) with rfl | rfl | rfl | rfl | rfl | rfl | rfl | rfl
  · have lw := (lw (by decide)).2
    generalize restR (SS l) (VV l) 0 k b = r at *
    refine E_iload_n d_TM_body_0 rfl ?_
    refine E_tableOut 125 d_TM_body_1 (by decide) rfl ?_
    first | refine E_aload_n d_TM_body_125 rfl ?_ | refine E_aload_nN d_TM_body_125 rfl ?_
    refine E_iload_n d_TM_body_126 rfl ?_
    refine E_V1 (lw) d_TM_body_127 ml_TM_220 cb_TM_lawClause cv_TM_lawClause (by exact ⟨by decide, rfl⟩) ⟨by decide, rfl⟩ ⟨by decide, by decide⟩ rfl (Nat.le_of_ble_eq_true rfl) (Nat.le_of_ble_eq_true rfl) (kI fun r1 M1 hc => ?_)
    skip
    refine E_retI d_TM_body_130 rfl ?_
    exact hc
  · have lw := (lw (by decide)).2
    generalize restR (SS l) (VV l) 1 k b = r at *
    refine E_iload_n d_TM_body_0 rfl ?_
    refine E_tableOut 125 d_TM_body_1 (by decide) rfl ?_
    first | refine E_aload_n d_TM_body_125 rfl ?_ | refine E_aload_nN d_TM_body_125 rfl ?_
    refine E_iload_n d_TM_body_126 rfl ?_
    refine E_V1 (lw) d_TM_body_127 ml_TM_220 cb_TM_lawClause cv_TM_lawClause (by exact ⟨by decide, rfl⟩) ⟨by decide, rfl⟩ ⟨by decide, by decide⟩ rfl (Nat.le_of_ble_eq_true rfl) (Nat.le_of_ble_eq_true rfl) (kI fun r1 M1 hc => ?_)
    skip
    refine E_retI d_TM_body_130 rfl ?_
    exact hc
  · have tw := two (top := 9) (wj := 3) (z := 1936683636) (top2 := 3) (by decide) (by decide) (by decide) (by decide) rfl (by decide) rfl
    generalize restR (SS l) (VV l) 2 k b = r at *
    refine E_iload_n d_TM_body_0 rfl ?_
    refine E_tableIn 40 d_TM_body_1 (by decide) (by decide) (by first | rfl | decide) rfl ?_
    first | refine E_aload_n d_TM_body_40 rfl ?_ | refine E_aload_nN d_TM_body_40 rfl ?_
    refine E_iload_n d_TM_body_41 rfl ?_
    refine E_bipush (v := nI 9) d_TM_body_42 (by decide) ?_
    refine E_bipush (v := nI 115) d_TM_body_44 (by decide) ?_
    refine E_bipush (v := nI 111) d_TM_body_46 (by decide) ?_
    refine E_bipush (v := nI 114) d_TM_body_48 (by decide) ?_
    refine E_bipush (v := nI 116) d_TM_body_50 (by decide) ?_
    refine E_S4 (sp_TM_w4 115 111 114 116 1936683636 (by decide) (by decide)) d_TM_body_52 ml_TM_124 cb_TM_w4 cs_TM_w4 ⟨by decide, by decide⟩ rfl (Nat.le_of_ble_eq_true rfl) (Nat.le_of_ble_eq_true rfl) (kL fun r1 M1 hc => ?_)
    obtain ⟨rfl, rfl⟩ := hc
    refine E_iconst (v := nI 3) d_TM_body_55 rfl ?_
    refine E_V4 (tw) d_TM_body_56 ml_TM_216 cb_TM_twoNumbers cv_TM_twoNumbers (by exact ⟨by decide, rfl⟩) ⟨by decide, rfl⟩ ⟨by decide, by decide⟩ rfl (Nat.le_of_ble_eq_true rfl) (Nat.le_of_ble_eq_true rfl) (kI fun r1 M1 hc => ?_)
    skip
    refine E_retI d_TM_body_59 rfl ?_
    exact hc
  · have tw := two (top := 7) (wj := 5) (z := 1718775661) (top2 := 7) (by decide) (by decide) (by decide) (by decide) rfl (by decide) rfl
    generalize restR (SS l) (VV l) 4 k b = r at *
    refine E_iload_n d_TM_body_0 rfl ?_
    refine E_tableIn 60 d_TM_body_1 (by decide) (by decide) (by first | rfl | decide) rfl ?_
    first | refine E_aload_n d_TM_body_60 rfl ?_ | refine E_aload_nN d_TM_body_60 rfl ?_
    refine E_iload_n d_TM_body_61 rfl ?_
    refine E_bipush (v := nI 7) d_TM_body_62 (by decide) ?_
    refine E_bipush (v := nI 102) d_TM_body_64 (by decide) ?_
    refine E_bipush (v := nI 114) d_TM_body_66 (by decide) ?_
    refine E_bipush (v := nI 111) d_TM_body_68 (by decide) ?_
    refine E_bipush (v := nI 109) d_TM_body_70 (by decide) ?_
    refine E_S4 (sp_TM_w4 102 114 111 109 1718775661 (by decide) (by decide)) d_TM_body_72 ml_TM_124 cb_TM_w4 cs_TM_w4 ⟨by decide, by decide⟩ rfl (Nat.le_of_ble_eq_true rfl) (Nat.le_of_ble_eq_true rfl) (kL fun r1 M1 hc => ?_)
    obtain ⟨rfl, rfl⟩ := hc
    refine E_bipush (v := nI 7) d_TM_body_75 (by decide) ?_
    refine E_V4 (tw) d_TM_body_77 ml_TM_216 cb_TM_twoNumbers cv_TM_twoNumbers (by exact ⟨by decide, rfl⟩) ⟨by decide, rfl⟩ ⟨by decide, by decide⟩ rfl (Nat.le_of_ble_eq_true rfl) (Nat.le_of_ble_eq_true rfl) (kI fun r1 M1 hc => ?_)
    skip
    refine E_retI d_TM_body_80 rfl ?_
    exact hc
  · have on := one (lo := 0) (hi := 8) (by decide) (by decide) (by decide) rfl
    generalize restR (SS l) (VV l) 6 k b = r at *
    refine E_iload_n d_TM_body_0 rfl ?_
    refine E_tableIn 81 d_TM_body_1 (by decide) (by decide) (by first | rfl | decide) rfl ?_
    first | refine E_aload_n d_TM_body_81 rfl ?_ | refine E_aload_nN d_TM_body_81 rfl ?_
    refine E_iload_n d_TM_body_82 rfl ?_
    refine E_iconst (v := nI 1) d_TM_body_83 rfl ?_
    first | (with_reducible refine E_isN2 ?_; refine E_iaddN d_TM_body_84 ?_) | refine E_iadd d_TM_body_84 ?_
    refine E_iconst (v := nI 0) d_TM_body_85 rfl ?_
    refine E_bipush (v := nI 8) d_TM_body_86 (by decide) ?_
    refine E_V3 (on) d_TM_body_88 ml_TM_212 cb_TM_figure cv_TM_figure (by exact ⟨by decide, rfl⟩) ⟨by decide, rfl⟩ ⟨by decide, by decide⟩ rfl (Nat.le_of_ble_eq_true rfl) (Nat.le_of_ble_eq_true rfl) (kI fun r1 M1 hc => ?_)
    skip
    refine E_retI d_TM_body_91 rfl ?_
    exact hc
  · have on := one (lo := 0) (hi := 7) (by decide) (by decide) (by decide) rfl
    generalize restR (SS l) (VV l) 7 k b = r at *
    refine E_iload_n d_TM_body_0 rfl ?_
    refine E_tableIn 92 d_TM_body_1 (by decide) (by decide) (by first | rfl | decide) rfl ?_
    first | refine E_aload_n d_TM_body_92 rfl ?_ | refine E_aload_nN d_TM_body_92 rfl ?_
    refine E_iload_n d_TM_body_93 rfl ?_
    refine E_iconst (v := nI 1) d_TM_body_94 rfl ?_
    first | (with_reducible refine E_isN2 ?_; refine E_iaddN d_TM_body_95 ?_) | refine E_iadd d_TM_body_95 ?_
    refine E_iconst (v := nI 0) d_TM_body_96 rfl ?_
    refine E_bipush (v := nI 7) d_TM_body_97 (by decide) ?_
    refine E_V3 (on) d_TM_body_99 ml_TM_212 cb_TM_figure cv_TM_figure (by exact ⟨by decide, rfl⟩) ⟨by decide, rfl⟩ ⟨by decide, by decide⟩ rfl (Nat.le_of_ble_eq_true rfl) (Nat.le_of_ble_eq_true rfl) (kI fun r1 M1 hc => ?_)
    skip
    refine E_retI d_TM_body_102 rfl ?_
    exact hc
  · have on := one (lo := 0) (hi := 7) (by decide) (by decide) (by decide) rfl
    generalize restR (SS l) (VV l) 8 k b = r at *
    refine E_iload_n d_TM_body_0 rfl ?_
    refine E_tableIn 103 d_TM_body_1 (by decide) (by decide) (by first | rfl | decide) rfl ?_
    first | refine E_aload_n d_TM_body_103 rfl ?_ | refine E_aload_nN d_TM_body_103 rfl ?_
    refine E_iload_n d_TM_body_104 rfl ?_
    refine E_iconst (v := nI 1) d_TM_body_105 rfl ?_
    first | (with_reducible refine E_isN2 ?_; refine E_iaddN d_TM_body_106 ?_) | refine E_iadd d_TM_body_106 ?_
    refine E_iconst (v := nI 0) d_TM_body_107 rfl ?_
    refine E_bipush (v := nI 7) d_TM_body_108 (by decide) ?_
    refine E_V3 (on) d_TM_body_110 ml_TM_212 cb_TM_figure cv_TM_figure (by exact ⟨by decide, rfl⟩) ⟨by decide, rfl⟩ ⟨by decide, by decide⟩ rfl (Nat.le_of_ble_eq_true rfl) (Nat.le_of_ble_eq_true rfl) (kI fun r1 M1 hc => ?_)
    skip
    refine E_retI d_TM_body_113 rfl ?_
    exact hc
  · have on := one (lo := 1) (hi := 60) (by decide) (by decide) (by decide) rfl
    generalize restR (SS l) (VV l) 9 k b = r at *
    refine E_iload_n d_TM_body_0 rfl ?_
    refine E_tableIn 114 d_TM_body_1 (by decide) (by decide) (by first | rfl | decide) rfl ?_
    first | refine E_aload_n d_TM_body_114 rfl ?_ | refine E_aload_nN d_TM_body_114 rfl ?_
    refine E_iload_n d_TM_body_115 rfl ?_
    refine E_iconst (v := nI 1) d_TM_body_116 rfl ?_
    first | (with_reducible refine E_isN2 ?_; refine E_iaddN d_TM_body_117 ?_) | refine E_iadd d_TM_body_117 ?_
    refine E_iconst (v := nI 1) d_TM_body_118 rfl ?_
    refine E_bipush (v := nI 60) d_TM_body_119 (by decide) ?_
    refine E_V3 (on) d_TM_body_121 ml_TM_212 cb_TM_figure cv_TM_figure (by exact ⟨by decide, rfl⟩) ⟨by decide, rfl⟩ ⟨by decide, by decide⟩ rfl (Nat.le_of_ble_eq_true rfl) (Nat.le_of_ble_eq_true rfl) (kI fun r1 M1 hc => ?_)
    skip
    refine E_retI d_TM_body_124 rfl ?_
    exact hc
def lwM (q : Option (Cd × Cd)) (t x w : Nat) (g : Nat → Int32) : Prop := ∃ r i0, q = some r ∧ g (x + 1) = nI i0 ∧ g (x + 2) = nI (i0 + r.1.length) ∧ i0 + r.1.length ≤ w ∧ RepCode r.1 g (681 * t + 73 + 2 * i0)
def clM (tt : CT) (t w : Nat) (g : Nat → Int32) : Prop := ∀ i, i < tt.cl.length → g (681 * t + 1 + 3 * i) = nI (tt.cl.getD i (0, 0, 0)).1 ∧ ((tt.cl.getD i (0, 0, 0)).1 = 0 → lwM tt.sy t (681 * t + 1 + 3 * i) w g) ∧ ((tt.cl.getD i (0, 0, 0)).1 = 1 → lwM tt.sw t (681 * t + 1 + 3 * i) w g) ∧
  (2 ≤ (tt.cl.getD i (0, 0, 0)).1 → g (681 * t + 1 + 3 * i + 1) = nI (tt.cl.getD i (0, 0, 0)).2.1 ∧ ((tt.cl.getD i (0, 0, 0)).1 ≤ 3 → g (681 * t + 1 + 3 * i + 2) = nI (tt.cl.getD i (0, 0, 0)).2.2))
def onN (tt : CT) : Nat := (if tt.sy.isSome = true then 1 else 0) + (if tt.sw.isSome = true then 2 else 0)
def JT (j : Nat) : Prop := JP j ∨ j = 12 ∨ j = 14 ∨ j = 19
def TS (l : List Nat) (t : Nat) (M0 : Mem) (k : Nat) (tt : CT) (w : Nat) (M : Mem) : Prop :=
  MR M ∧ TapeM l M ∧ TKM l k M ∧ vk l k ∧ mI M 0 12 = nI (681 * t) ∧ mI M 0 13 = nI w ∧ w ≤ k ∧ mI M 0 19 = nI (onN tt) ∧ mI M 3 (681 * t) = nI tt.cl.length ∧ tt.cl.length ≤ 24 ∧ clM tt t w (mI M 3) ∧ (∀ i, i < 681 * t ∨ 681 * t + 681 ≤ i → mI M 3 i = mI M0 3 i) ∧ Fx JT AP M0 M ∧ TOK tt ∧ t ≤ 3
def FT (l : List Nat) (t : Nat) (M0 : Mem) (k : Nat) (M : Mem) : Prop := TKM l k M ∧ (∀ i, i < 681 * t ∨ 681 * t + 681 ≤ i → mI M 3 i = mI M0 3 i) ∧ Fx JT AP M0 M
theorem lwM.cg {q : Option (Cd × Cd)} {t x w w' : Nat} {g g' : Nat → Int32} (h : lwM q t x w g) (hw : w ≤ w') (h1 : g' (x + 1) = g (x + 1)) (h2 : g' (x + 2) = g (x + 2)) (hc : ∀ i, 681 * t + 73 ≤ i → i < 681 * t + 73 + 2 * w → g' i = g i) : lwM q t x w' g' := by
  obtain ⟨r, i0, a, b, c, d, e⟩ := h
  refine ⟨r, i0, a, h1.trans b, h2.trans c, by omega, fun i hi => ?_⟩
  have := e i hi
  exact ⟨(hc _ (by omega) (by omega)).trans this.1, (hc _ (by omega) (by omega)).trans this.2⟩
/-- the memory ahead of a clause's body -/
def PC (l : List Nat) (t s w k n : Nat) (M M4 : Mem) : Prop := MR M4 ∧ TapeM l M4 ∧ TKM l (k + 1) M4 ∧ mI M4 0 12 = nI (681 * t) ∧ mI M4 0 13 = nI w ∧ mI M4 0 14 = nI (kdS s) ∧ Fx JT AP M M4 ∧ (∀ i, mI M4 3 i = if i = 681 * t + 1 + 3 * n then nI (kdS s) else mI M 3 i)
theorem onN_s {tt : CT} {s : Nat} {q : Cd × Cd} {a : Nat × Nat × Nat} (hs : s ≤ 1) (h : ¬ ((s = 0 ∧ tt.sy.isSome = true) ∨ (s = 1 ∧ tt.sw.isSome = true))) : onN (tt.cl ++ [a], if s = 0 then some q else tt.sy, if s = 1 then some q else tt.sw) = onN tt ||| 2 ^ s := by
  show (if (if s = 0 then some q else tt.sy).isSome = true then 1 else 0) + (if (if s = 1 then some q else tt.sw).isSome = true then 2 else 0) = _
  unfold onN
  rcases (show s = 0 ∨ s = 1 by omega) with rfl | rfl
  · have h1 : ¬ tt.sy.isSome = true := fun z => h (Or.inl ⟨rfl, z⟩)
    show (if (some q).isSome = true then 1 else 0) + (if tt.sw.isSome = true then 2 else 0) = _
    rw [if_pos (show (some q).isSome = true from rfl), if_neg h1]
    by_cases c : tt.sw.isSome = true
    · rw [if_pos c]; decide
    · rw [if_neg c]; decide
  · have h1 : ¬ tt.sw.isSome = true := fun z => h (Or.inr ⟨rfl, z⟩)
    show (if tt.sy.isSome = true then 1 else 0) + (if (some q).isSome = true then 2 else 0) = _
    rw [if_pos (show (some q).isSome = true from rfl), if_neg h1]
    by_cases c : tt.sy.isSome = true
    · rw [if_pos c]; decide
    · rw [if_neg c]; decide
theorem onN_b (tt : CT) : ((onN tt).testBit 0 = true ↔ tt.sy.isSome = true) ∧ ((onN tt).testBit 1 = true ↔ tt.sw.isSome = true) ∧ onN tt < 4 := by
  unfold onN
  by_cases c1 : tt.sy.isSome = true
  · by_cases c2 : tt.sw.isSome = true
    · rw [if_pos c1, if_pos c2, c1, c2]; decide
    · have c2' : tt.sw.isSome = false := by cases h : tt.sw.isSome with | false => rfl | true => exact absurd h c2
      rw [if_pos c1, if_neg c2, c1, c2']; decide
  · have c1' : tt.sy.isSome = false := by cases h : tt.sy.isSome with | false => rfl | true => exact absurd h c1
    by_cases c2 : tt.sw.isSome = true
    · rw [if_neg c1, if_pos c2, c1', c2]; decide
    · have c2' : tt.sw.isSome = false := by cases h : tt.sw.isSome with | false => rfl | true => exact absurd h c2
      rw [if_neg c1, if_neg c2, c1', c2']; decide
theorem FT_of {M1 : Mem} (hS : ∀ i, i < 681 * t ∨ 681 * t + 681 ≤ i → mI M 3 i = mI M0 3 i) (hX : Fx JT AP M0 M) (hK : TKM l k M1) (h3 : ∀ i, i < 681 * t ∨ 681 * t + 681 ≤ i → mI M1 3 i = mI M 3 i) (x : Fx JT AP M M1) : FT l t M0 k M1 := ⟨hK, fun i hi => (h3 i hi).trans (hS i hi), hX.tr x⟩
end MQi
