section RDk
variable {G : Geo} {M : Mem} {l : List Nat}
def cluA (CL : List (Nat × Nat × Nat)) (M : Mem) : Prop := ∀ i, i < CL.length → mI M 226 i = nI (kmC (CL.getD i (0, 0, 0)).1) ∧ (2 ≤ (CL.getD i (0, 0, 0)).1 → mI M 227 i = nI (CL.getD i (0, 0, 0)).2.1 ∧ ((CL.getD i (0, 0, 0)).1 ≤ 3 → mI M 228 i = nI (CL.getD i (0, 0, 0)).2.2))
def lwA (q : Option (Cd × Cd)) (s b : Nat) (M : Mem) : Prop := match q with
  | none => mI M 225 s = -1
  | some q => ∃ b0, mI M 225 s = nI b0 ∧ mI M 225 (s + 1) = nI (b0 + q.2.length) ∧ b0 + q.2.length ≤ b ∧ VC q.1 q.2 b0 64 ∧ cdAt q.2 b0 M
theorem lwA.cg {q : Option (Cd × Cd)} {s b b' : Nat} {M1 : Mem} (h : lwA q s b M) (e : mI M1 225 s = mI M 225 s) (e1 : mI M1 225 (s + 1) = mI M 225 (s + 1)) (hk : kpB b M M1) (hb : b ≤ b') : lwA q s b' M1 := by
  cases q with
  | none => exact e.trans h
  | some q =>
    obtain ⟨b0, h1, h2, h4, h5, h6⟩ := h
    exact ⟨b0, e.trans h1, e1.trans h2, by omega, h5, h6.kp hk h4⟩
theorem lwA.m1 {q : Option (Cd × Cd)} {s b : Nat} (h : lwA q s b M) (hb : b < 2147483648) : (mI M 225 s = -1 → q.isSome = false) ∧ (¬ mI M 225 s = -1 → q.isSome = true) := by
  cases q with
  | none => exact ⟨fun _ => rfl, fun e => absurd h e⟩
  | some q =>
    obtain ⟨b0, h1, -, h4, -⟩ := h
    exact ⟨fun e => absurd (h1.symm.trans e) (nI_nm1 (by omega)), fun _ => rfl⟩
def CuSt (l : List Nat) (t : CT) (k b : Nat) (M : Mem) : Prop := (∃ sw, RS l sw k b M) ∧ mI M 225 6 = nI t.cl.length ∧ t.cl.length ≤ 24 ∧ b ≤ k ∧ cluA t.cl M ∧ lwA t.sy 8 b M ∧ lwA t.sw 10 b M
theorem VV_0 (l : List Nat) (k : Nat) (h : SS l k ≠ 39) : VV l k = 0 := by
  unfold SS at h
  unfold VV
  unfold tkE at h ⊢
  by_cases q : PP l k < l.length
  · rw [if_pos q] at h ⊢
    by_cases h1 : isL (l.getD (PP l k) 0) = true
    · rw [if_pos h1]
    · rw [if_neg h1] at h ⊢
      by_cases h2 : isD (l.getD (PP l k) 0) = true
      · rw [if_pos h2] at h; exact absurd rfl h
      · rw [if_neg h2]
        split <;> rfl
  · rw [if_neg q]
theorem kd_km {s : Nat} (hs : s ≤ 9 ∧ s ≠ 3 ∧ s ≠ 5) : kmC (kdS s) = s ∧ (2 ≤ kdS s → 2 ≤ s) ∧ (kdS s ≤ 3 → s ≤ 4) ∧ kdS s ≤ 7 := by
  rcases (show s = 0 ∨ s = 1 ∨ s = 2 ∨ s = 4 ∨ s = 6 ∨ s = 7 ∨ s = 8 ∨ s = 9 by omega) with rfl | rfl | rfl | rfl | rfl | rfl | rfl | rfl <;> decide
theorem law_vc {s k b : Nat} {q : Cd × Cd} (hs : s ≤ 1) (h0 : (restR (SS l) (VV l) s k b).f = 0) (hq : (restR (SS l) (VV l) s k b).q = some q) : VC q.1 q.2 b 64 ∧ qlen (restR (SS l) (VV l) s k b).q = q.2.length := by
  have e : restR (SS l) (VV l) s k b = lawN (SS l) (VV l) s k b := by unfold restR; rw [if_pos hs]
  rw [e] at h0 hq ⊢
  have e2 : q = ((sumR (SS l) (RDF (SS l) (VV l) s 8).1 k b).cm, (sumR (SS l) (RDF (SS l) (VV l) s 8).1 k b).cc) := (Option.some.inj hq).symm
  rw [e2]
  exact ⟨VC.rd (VV_0 l) h0, rfl⟩
theorem lawN_some {s k b : Nat} (hs : s ≤ 1) : ∃ q, (restR (SS l) (VV l) s k b).q = some q := by
  have e : restR (SS l) (VV l) s k b = lawN (SS l) (VV l) s k b := by unfold restR; rw [if_pos hs]
  rw [e]
  exact ⟨_, rfl⟩
theorem rest_none {s k b : Nat} (hs : 2 ≤ s) : qlen (restR (SS l) (VV l) s k b).q = 0 := by
  unfold restR oneN twoN
  rw [if_neg (by omega)]
  repeat' split
  all_goals rfl
theorem rest_len {s k b : Nat} (h0 : (restR (SS l) (VV l) s k b).f = 0) : k < (restR (SS l) (VV l) s k b).k ∧ qlen (restR (SS l) (VV l) s k b).q ≤ (restR (SS l) (VV l) s k b).k - k := by
  obtain ⟨a1, -, -, a4⟩ := (Gn.rest (S := SS l) (V := VV l) s k b).2.2.2 h0
  refine ⟨a1, ?_⟩
  generalize (restR (SS l) (VV l) s k b).q = q at a4 ⊢
  cases q with
  | none => exact Nat.zero_le _
  | some q => exact (a4 q rfl).2
theorem cl_fin {t : CT} {k b s : Nat} {M2 M3 M4 M5 : Mem} (hC : CuSt l t k b M) (hs : s ≤ 9 ∧ s ≠ 3 ∧ s ≠ 5) (hk : SS l k = s) (h24 : t.cl.length < 24) (e2 : M2 = wI (wI M 225 12 (nI s)) 226 t.cl.length (nI s)) (x3 : Fo 225 J1 An M2 M3) {r : RR} (hr : restR (SS l) (VV l) s (k + 1) b = r) (hQ : RQ l s b t.cl.length r M3 M4) (h0 : r.f = 0) (h38 : SS l r.k = 38) (hA : RS l s (r.k + 1) (b + qlen r.q) M5) (x5 : Fo 225 (fun j => 13 ≤ j ∧ j ≤ 17) An M4 M5) :
    mI M5 225 6 = nI t.cl.length ∧ CuSt l (t.cl ++ [(kdS s, r.a, r.b)], if s = 0 then r.q else t.sy, if s = 1 then r.q else t.sw) (r.k + 1) (b + qlen r.q) (wI M5 225 6 (nI (t.cl.length + 1))) := by
  obtain ⟨-, hn, -, hbk, hcl, hl8, hl10⟩ := hC
  obtain ⟨-, -, hq⟩ := hQ
  obtain ⟨q1, q2, q3, q4, q5, q6, q7, q8, q9, q10⟩ := hq h0
  have hrl := rest_len (l := l) (s := s) (k := k + 1) (b := b)
  rw [hr] at hrl
  obtain ⟨hk1, hk2⟩ := hrl h0
  subst e2
  have f5 : ∀ j, j < 13 → mI M5 225 j = mI M4 225 j := fun j hj => x5.2.2.1 j (by show ¬ (13 ≤ j ∧ j ≤ 17); omega)
  have f3 : ∀ j, j < 12 → mI M3 225 j = mI M 225 j := fun j hj => by rw [x3.2.2.1 j (by unfold J1; omega), mI_wx (by decide), mI_wa, if_neg (by omega)]
  have a5 : ∀ a, a ≠ 225 → mI M5 a = mI M4 a := fun a ha => x5.2.1 a ha (fun z => z)
  have a3 : ∀ a, a ≠ 225 → a ≠ 226 → mI M3 a = mI M a := fun a ha hb => by rw [x3.2.1 a ha (fun z => z), mI_ne hb, mI_ne ha]
  have a6 : ∀ a, a ≠ 225 → mI (wI M5 225 6 (nI (t.cl.length + 1))) a = mI M4 a := fun a ha => by rw [mI_ne ha, a5 a ha]
  have g6 : ∀ j, j ≠ 6 → j < 13 → mI (wI M5 225 6 (nI (t.cl.length + 1))) 225 j = mI M4 225 j := fun j h1 h2 => by rw [mI_wa, if_neg h1, f5 j h2]
  have k5 : kpB b M (wI M5 225 6 (nI (t.cl.length + 1))) := fun i hi => by
    rw [a6 229 (by decide), a6 230 (by decide), (q5 i hi).1, (q5 i hi).2, a3 229 (by decide) (by decide), a3 230 (by decide) (by decide)]
    exact ⟨rfl, rfl⟩
  have v226 : ∀ i, mI (wI M5 225 6 (nI (t.cl.length + 1))) 226 i = if i = t.cl.length then nI s else mI M 226 i := fun i => by rw [a6 226 (by decide), q3, x3.2.1 226 (by decide) (fun z => z), mI_wa, mI_wx (by decide)]
  obtain ⟨m1, m2, m3, m4⟩ := kd_km hs
  have hX6 : Fo 225 (fun j => j = 6) An M5 (wI M5 225 6 (nI (t.cl.length + 1))) := Fo.rf.wI rfl
  have hRS : RS l s (r.k + 1) (b + qlen r.q) (wI M5 225 6 (nI (t.cl.length + 1))) := by
    have e : ∀ j, j ≠ 6 → mI (wI M5 225 6 (nI (t.cl.length + 1))) 225 j = mI M5 225 j := fun j hj => by rw [mI_wa, if_neg hj]
    exact ⟨hA.R.fo hX6, hA.T.fo hX6 (by decide) (fun _ => An.o), hA.v, (e 13 (by decide)).trans hA.n, (e 14 (by decide)).trans hA.s, (e 15 (by decide)).trans hA.w, (e 16 (by decide)).trans hA.f, (e 7 (by decide)).trans hA.z, (e 12 (by decide)).trans hA.law, (e 17 (by decide)).trans hA.p⟩
  refine ⟨by rw [f5 6 (by decide), q2, f3 6 (by decide)]; exact hn, ⟨s, hRS⟩, ?_, ?_, by omega, fun i hi => ?_, ?_, ?_⟩
  · show _ = nI (t.cl ++ [(kdS s, r.a, r.b)]).length
    rw [mI_wa, if_pos rfl, List.length_append]
    rfl
  · show (t.cl ++ [(kdS s, r.a, r.b)]).length ≤ 24
    rw [List.length_append]
    show t.cl.length + 1 ≤ 24
    omega
  · have hi2 : i < t.cl.length + 1 := by
      have hi : i < (t.cl ++ [(kdS s, r.a, r.b)]).length := hi
      rw [List.length_append] at hi
      exact hi
    show _ = nI (kmC ((t.cl ++ [(kdS s, r.a, r.b)]).getD i (0, 0, 0)).1) ∧ (2 ≤ ((t.cl ++ [(kdS s, r.a, r.b)]).getD i (0, 0, 0)).1 → _ = nI ((t.cl ++ [(kdS s, r.a, r.b)]).getD i (0, 0, 0)).2.1 ∧ (((t.cl ++ [(kdS s, r.a, r.b)]).getD i (0, 0, 0)).1 ≤ 3 → _ = nI ((t.cl ++ [(kdS s, r.a, r.b)]).getD i (0, 0, 0)).2.2))
    rw [v226, getD_snoc, a6 227 (by decide), a6 228 (by decide)]
    by_cases q : i < t.cl.length
    · rw [if_pos q, if_neg (by omega), (q4 i (by omega)).1, (q4 i (by omega)).2, a3 227 (by decide) (by decide), a3 228 (by decide) (by decide)]
      exact hcl i q
    · have e : i = t.cl.length := by omega
      rw [if_neg q, if_pos e, if_pos e, e]
      exact ⟨by rw [m1], fun z => ⟨(q6 (m2 z)).1, fun z2 => (q6 (m2 z)).2 (m3 z2)⟩⟩
  · show lwA (if s = 0 then r.q else t.sy) 8 (b + qlen r.q) _
    by_cases e : s = 0
    · rw [if_pos e]
      obtain ⟨q, hq⟩ := lawN_some (l := l) (s := s) (k := k + 1) (b := b) (by omega)
      rw [hr] at hq
      obtain ⟨y1, y2, y3⟩ := q9 e
      have lv := law_vc (l := l) (s := s) (k := k + 1) (b := b) (q := q) (by omega) (by rw [hr]; exact h0) (by rw [hr]; exact hq)
      rw [hr] at lv
      rw [hq] at y2 ⊢
      have yc := y3 q hq
      exact ⟨b, (g6 8 (by decide) (by decide)).trans y1, (g6 9 (by decide) (by decide)).trans y2, Nat.le_refl _, lv.1, fun i hi => by rw [a6 229 (by decide), a6 230 (by decide)]; exact yc i hi⟩
    · rw [if_neg e]
      have := q7 e
      exact hl8.cg ((g6 8 (by decide) (by decide)).trans (this.1.trans (f3 8 (by decide)))) ((g6 9 (by decide) (by decide)).trans (this.2.trans (f3 9 (by decide)))) k5 (Nat.le_add_right _ _)
  · show lwA (if s = 1 then r.q else t.sw) 10 (b + qlen r.q) _
    by_cases e : s = 1
    · rw [if_pos e]
      obtain ⟨q, hq⟩ := lawN_some (l := l) (s := s) (k := k + 1) (b := b) (by omega)
      rw [hr] at hq
      obtain ⟨y1, y2, y3⟩ := q10 e
      have lv := law_vc (l := l) (s := s) (k := k + 1) (b := b) (q := q) (by omega) (by rw [hr]; exact h0) (by rw [hr]; exact hq)
      rw [hr] at lv
      rw [hq] at y2 ⊢
      have yc := y3 q hq
      exact ⟨b, (g6 10 (by decide) (by decide)).trans y1, (g6 11 (by decide) (by decide)).trans y2, Nat.le_refl _, lv.1, fun i hi => by rw [a6 229 (by decide), a6 230 (by decide)]; exact yc i hi⟩
    · rw [if_neg e]
      have := q8 e
      exact hl10.cg ((g6 10 (by decide) (by decide)).trans (this.1.trans (f3 10 (by decide)))) ((g6 11 (by decide) (by decide)).trans (this.2.trans (f3 11 (by decide)))) k5 (Nat.le_add_right _ _)
def CP (l : List Nat) (c : CR) (M M' : Mem) : Prop := Fo 225 JC AC M M' ∧ (c.f = 0 → CuSt l c.t c.k c.b M') ∧ (c.f ≠ 0 → FS l c.f c.k M')
theorem CP.fl {f k : Nat} {t : CT} {b : Nat} {M1 : Mem} (h : FS l f k M1) (hX : Fo 225 JC AC M M1) : CP l (f, k, t, b) M M1 := ⟨hX, fun q => absurd q h.2.2.2.2.1, fun _ => h⟩
theorem sp_Re_readClause (hG : GC G) (h3 : l.length ≤ 300) {t : CT} {k b : Nat} (hC : CuSt l t k b M) (h40 : SS l k ≠ 40) : E 214 0 0 Y_Re_readClause 0 [some (.ref 225), none, none] [] G M (QV G fun M' => CP l (clR (SS l) (VV l) k t b) M M') := by
  obtain ⟨⟨sw0, h⟩, hn, hn24, hbk, hcl, hl8, hl10⟩ := id hC
  have hR := h.R
  have hsr := SS_rg l k
  have hvl := h.v.le
  obtain ⟨b8, c8⟩ := hl8.m1 (by omega)
  obtain ⟨b10, c10⟩ := hl10.m1 (by omega)
  have K36 : ∀ x2 : Nat, ((x2 = 1 ∧ ((SS l k = 0 ∧ t.sy.isSome = true) ∨ (SS l k = 1 ∧ t.sw.isSome = true))) ∨ (x2 = 0 ∧ ¬ ((SS l k = 0 ∧ t.sy.isSome = true) ∨ (SS l k = 1 ∧ t.sw.isSome = true)))) → E 214 0 0 Y_Re_readClause 36 [some (.ref 225), some (.int (nI (SS l k))), some (.int (nI x2))] [] G M (QV G fun M' => CP l (clR (SS l) (VV l) k t b) M M') := by
    intro x2 hx
    unfold clR
    by_cases d1 : ¬ (SS l k ≤ 9 ∧ SS l k ≠ 3 ∧ SS l k ≠ 5)
    · rw [if_pos d1]
      refine E_iload_n d_Re_readClause_36 rfl ?_
      refine E_S1 (sp_Sg_beginsClause hsr) d_Re_readClause_37 ml_Re_112 cb_Sg_beginsClause cs_Sg_beginsClause ⟨by omega, by decide⟩ rfl (Nat.le_of_ble_eq_true rfl) (Nat.le_of_ble_eq_true rfl) (kI fun r1 M1 hc => ?_)
      obtain ⟨rfl, rfl⟩ := hc
      first | (with_reducible refine E_isP ?_; refine E_if_ne 51 d_Re_readClause_40 rfl (pb_1 fun h40 => ?_) (pb_0 fun h40 => ?_)) | (with_reducible refine E_isN1 ?_; refine E_if_ne 51 d_Re_readClause_40 rfl (nz_ne fun h40 => ?_) (nz_eq (by omega) fun h40 => ?_)) | refine E_if_ne 51 d_Re_readClause_40 rfl (fun h40 => ?_) (fun h40 => ?_)
      · exfalso; exact d1 h40
      first | refine E_aload_n d_Re_readClause_43 rfl ?_ | refine E_aload_nN d_Re_readClause_43 rfl ?_
      refine E_iconst (v := nI 1) d_Re_readClause_44 rfl ?_
      refine E_V1 (sp_Re_fail (f := 1) hG h h3 (by decide) (by decide)) d_Re_readClause_45 ml_Re_108 cb_Re_fail cv_Re_fail (by exact hG.s (by decide) rfl) ⟨by decide, rfl⟩ ⟨by omega, by decide⟩ rfl (Nat.le_of_ble_eq_true rfl) (Nat.le_of_ble_eq_true rfl) (kV fun M1 hc => ?_)
      skip
      refine E_goto 123 d_Re_readClause_48 rfl ?_
      refine E_retV d_Re_readClause_123 rfl ?_
      exact CP.fl hc.1 hc.2.j2.jc
    · rw [if_neg d1]
      have d1 := Decidable.not_not.mp d1
      by_cases d2 : (SS l k = 0 ∧ t.sy.isSome = true) ∨ (SS l k = 1 ∧ t.sw.isSome = true)
      · rw [if_pos d2]
        have ex : x2 = 1 := by rcases hx with q | q; exact q.1; exact absurd d2 q.2
        subst ex
        refine E_iload_n d_Re_readClause_36 rfl ?_
        refine E_S1 (sp_Sg_beginsClause hsr) d_Re_readClause_37 ml_Re_112 cb_Sg_beginsClause cs_Sg_beginsClause ⟨by omega, by decide⟩ rfl (Nat.le_of_ble_eq_true rfl) (Nat.le_of_ble_eq_true rfl) (kI fun r1 M1 hc => ?_)
        obtain ⟨rfl, rfl⟩ := hc
        first | (with_reducible refine E_isP ?_; refine E_if_ne 51 d_Re_readClause_40 rfl (pb_1 fun h40 => ?_) (pb_0 fun h40 => ?_)) | (with_reducible refine E_isN1 ?_; refine E_if_ne 51 d_Re_readClause_40 rfl (nz_ne fun h40 => ?_) (nz_eq (by omega) fun h40 => ?_)) | refine E_if_ne 51 d_Re_readClause_40 rfl (fun h40 => ?_) (fun h40 => ?_)
        rotate_left
        · exfalso; exact h40 d1
        refine E_iload_n d_Re_readClause_51 rfl ?_
        first | (with_reducible refine E_isP ?_; refine E_if_eq 63 d_Re_readClause_52 rfl (pb_0 fun h52 => ?_) (pb_1 fun h52 => ?_)) | (with_reducible refine E_isN1 ?_; refine E_if_eq 63 d_Re_readClause_52 rfl (nz_eq (by omega) fun h52 => ?_) (nz_ne fun h52 => ?_)) | refine E_if_eq 63 d_Re_readClause_52 rfl (fun h52 => ?_) (fun h52 => ?_)
        · exfalso; omega
        first | refine E_aload_n d_Re_readClause_55 rfl ?_ | refine E_aload_nN d_Re_readClause_55 rfl ?_
        refine E_iconst (v := nI 4) d_Re_readClause_56 rfl ?_
        refine E_V1 (sp_Re_fail (f := 4) hG h h3 (by decide) (by decide)) d_Re_readClause_57 ml_Re_108 cb_Re_fail cv_Re_fail (by exact hG.s (by decide) rfl) ⟨by decide, rfl⟩ ⟨by omega, by decide⟩ rfl (Nat.le_of_ble_eq_true rfl) (Nat.le_of_ble_eq_true rfl) (kV fun M1 hc => ?_)
        skip
        refine E_goto 123 d_Re_readClause_60 rfl ?_
        refine E_retV d_Re_readClause_123 rfl ?_
        exact CP.fl hc.1 hc.2.j2.jc
      · rw [if_neg d2]
        have ex : x2 = 0 := by rcases hx with q | q; exact absurd q.2 d2; exact q.1
        subst ex
        by_cases d3 : 24 ≤ t.cl.length
        · rw [if_pos d3]
          refine E_iload_n d_Re_readClause_36 rfl ?_
          refine E_S1 (sp_Sg_beginsClause hsr) d_Re_readClause_37 ml_Re_112 cb_Sg_beginsClause cs_Sg_beginsClause ⟨by omega, by decide⟩ rfl (Nat.le_of_ble_eq_true rfl) (Nat.le_of_ble_eq_true rfl) (kI fun r1 M1 hc => ?_)
          obtain ⟨rfl, rfl⟩ := hc
          first | (with_reducible refine E_isP ?_; refine E_if_ne 51 d_Re_readClause_40 rfl (pb_1 fun h40 => ?_) (pb_0 fun h40 => ?_)) | (with_reducible refine E_isN1 ?_; refine E_if_ne 51 d_Re_readClause_40 rfl (nz_ne fun h40 => ?_) (nz_eq (by omega) fun h40 => ?_)) | refine E_if_ne 51 d_Re_readClause_40 rfl (fun h40 => ?_) (fun h40 => ?_)
          rotate_left
          · exfalso; exact h40 d1
          refine E_iload_n d_Re_readClause_51 rfl ?_
          first | (with_reducible refine E_isP ?_; refine E_if_eq 63 d_Re_readClause_52 rfl (pb_0 fun h52 => ?_) (pb_1 fun h52 => ?_)) | (with_reducible refine E_isN1 ?_; refine E_if_eq 63 d_Re_readClause_52 rfl (nz_eq (by omega) fun h52 => ?_) (nz_ne fun h52 => ?_)) | refine E_if_eq 63 d_Re_readClause_52 rfl (fun h52 => ?_) (fun h52 => ?_)
          rotate_left
          · exfalso; omega
          first | refine E_aload_n d_Re_readClause_63 rfl ?_ | refine E_aload_nN d_Re_readClause_63 rfl ?_
          refine E_getI d_Re_readClause_64 gf_Re_31 (by exact hG.s (by decide) rfl) (by exact hn) ?_
          refine E_bipush (v := nI 24) d_Re_readClause_67 (by decide) ?_
          first | (with_reducible refine E_isN2 ?_; refine E_icmp_lt 81 d_Re_readClause_69 rfl (nb_lt (by omega) (by omega) fun h69 => ?_) (nb_nlt (by omega) (by omega) fun h69 => ?_)) | refine E_icmp_lt 81 d_Re_readClause_69 rfl (fun h69 => ?_) (fun h69 => ?_)
          · exfalso; omega
          first | refine E_aload_n d_Re_readClause_72 rfl ?_ | refine E_aload_nN d_Re_readClause_72 rfl ?_
          refine E_bipush (v := nI 6) d_Re_readClause_73 (by decide) ?_
          refine E_V1 (sp_Re_fail (f := 6) hG h h3 (by decide) (by decide)) d_Re_readClause_75 ml_Re_108 cb_Re_fail cv_Re_fail (by exact hG.s (by decide) rfl) ⟨by decide, rfl⟩ ⟨by omega, by decide⟩ rfl (Nat.le_of_ble_eq_true rfl) (Nat.le_of_ble_eq_true rfl) (kV fun M1 hc => ?_)
          skip
          refine E_goto 123 d_Re_readClause_78 rfl ?_
          refine E_retV d_Re_readClause_123 rfl ?_
          exact CP.fl hc.1 hc.2.j2.jc
        · rw [if_neg d3]
          generalize hsv : SS l k = s at *
          have hX1 : Fo 225 JC AC M (wI (wI M 225 12 (nI s)) 226 t.cl.length (nI s)) := (Fo.rf.wI (by unfold JC; omega)).wJ (by decide) (by unfold AC; omega)
          have e1 : ∀ j, j ≠ 12 → mI (wI (wI M 225 12 (nI s)) 226 t.cl.length (nI s)) 225 j = mI M 225 j := fun j hj => by rw [mI_wx (by decide), mI_wa, if_neg hj]
          have hs1 : RS l s k b (wI (wI M 225 12 (nI s)) 226 t.cl.length (nI s)) := ⟨hR.fo hX1, h.T.fo hX1 (by decide) (fun _ => AC.o), h.v, (e1 13 (by decide)).trans h.n, (e1 14 (by decide)).trans h.s, (e1 15 (by decide)).trans h.w, (e1 16 (by decide)).trans h.f, (e1 7 (by decide)).trans h.z, by rw [mI_wx (by decide), mI_wa, if_pos rfl], (e1 17 (by decide)).trans h.p⟩
          have n12 : mI (wI M 225 12 (nI s)) 225 6 = nI t.cl.length := by rw [mI_wa, if_neg (by decide)]; exact hn
          have n6 : ∀ M3, Fo 225 J1 An (wI (wI M 225 12 (nI s)) 226 t.cl.length (nI s)) M3 → mI M3 225 6 = nI t.cl.length := fun M3 x3 => by rw [x3.2.2.1 6 (by unfold J1; omega), e1 6 (by decide)]; exact hn
          have fin := fun M3 M4 M5 => cl_fin (M2 := wI (wI M 225 12 (nI s)) 226 t.cl.length (nI s)) (M3 := M3) (M4 := M4) (M5 := M5) hC d1 hsv (by omega) rfl
          have rr := fun M3 (y : RS l s (k + 1) b M3) (x3 : Fo 225 J1 An (wI (wI M 225 12 (nI s)) 226 t.cl.length (nI s)) M3) => sp_Re_readRest hG h3 (n := t.cl.length) y (by omega) (n6 M3 x3) (by omega) d1
          generalize hr : restR (SS l) (VV l) s (k + 1) b = r at *
          have K107 : ∀ M3 M4, Fo 225 J1 An (wI (wI M 225 12 (nI s)) 226 t.cl.length (nI s)) M3 → RQ l s b t.cl.length r M3 M4 → E 214 0 0 Y_Re_readClause 107 [some (.ref 225), some (.int (nI s)), some (.int (nI 0))] [] G M4 (QV G fun M' => CP l (cluN (SS l) s r t b) M M') := by
            intro M3 M4 x3 hQ
            have X4 : Fo 225 JC AC M M4 := (hX1.tr x3.j1.jc).tr hQ.1
            have fl6 : ∀ {f k'} {M5 : Mem} {v : Int32}, FS l f k' M5 → FS l f k' (wI M5 225 6 v) := fun {f k' M5 v} hf => hf.fo (J := fun j => j = 6) (A := An) (Fo.rf.wI rfl) (by decide) (by decide) (fun _ => An.o)
            unfold cluN
            by_cases g0 : r.f ≠ 0
            · rw [if_pos g0]
              have hF := hQ.2.1 g0
              have hR := hF.1
              first | refine E_aload_n d_Re_readClause_107 rfl ?_ | refine E_aload_nN d_Re_readClause_107 rfl ?_
              refine E_bipush (v := nI 38) d_Re_readClause_108 (by decide) ?_
              refine E_V1 (sp_Re_takeF hG hF) d_Re_readClause_110 ml_Re_126 cb_Re_take cv_Re_take (by exact hG.s (by decide) rfl) ⟨by decide, rfl⟩ ⟨by omega, by decide⟩ rfl (Nat.le_of_ble_eq_true rfl) (Nat.le_of_ble_eq_true rfl) (kV fun M1 hc => ?_)
              subst hc
              first | refine E_aload_n d_Re_readClause_113 rfl ?_ | refine E_aload_nN d_Re_readClause_113 rfl ?_
              refine E_dup d_Re_readClause_114 rfl ?_
              refine E_getI d_Re_readClause_115 gf_Re_31 (by exact hG.s (by decide) rfl) (by rfl) ?_
              refine E_iconst (v := nI 1) d_Re_readClause_118 rfl ?_
              first | (with_reducible refine E_isN2 ?_; refine E_iaddN d_Re_readClause_119 ?_) | refine E_iadd d_Re_readClause_119 ?_
              refine E_putI d_Re_readClause_120 gf_Re_31 (by exact hG.s (by decide) rfl) rfl rfl ?_
              refine E_retV d_Re_readClause_123 rfl ?_
              exact CP.fl (fl6 hF) (X4.wI (by unfold JC; omega))
            · rw [if_neg g0]
              have g0 := Decidable.not_not.mp g0
              have y := (hQ.2.2 g0).1
              have tk := sp_Re_take (s := 38) hG y h3 (by decide) (by decide)
              by_cases g1 : SS l r.k ≠ 38
              · rw [if_pos g1]
                first | refine E_aload_n d_Re_readClause_107 rfl ?_ | refine E_aload_nN d_Re_readClause_107 rfl ?_
                refine E_bipush (v := nI 38) d_Re_readClause_108 (by decide) ?_
                refine E_V1 (tk) d_Re_readClause_110 ml_Re_126 cb_Re_take cv_Re_take (by exact hG.s (by decide) rfl) ⟨by decide, rfl⟩ ⟨by omega, by decide⟩ rfl (Nat.le_of_ble_eq_true rfl) (Nat.le_of_ble_eq_true rfl) (kV fun M1 hc => ?_)
                skip
                first | refine E_aload_n d_Re_readClause_113 rfl ?_ | refine E_aload_nN d_Re_readClause_113 rfl ?_
                refine E_dup d_Re_readClause_114 rfl ?_
                refine E_getI d_Re_readClause_115 gf_Re_31 (by exact hG.s (by decide) rfl) (by rfl) ?_
                refine E_iconst (v := nI 1) d_Re_readClause_118 rfl ?_
                first | (with_reducible refine E_isN2 ?_; refine E_iaddN d_Re_readClause_119 ?_) | refine E_iadd d_Re_readClause_119 ?_
                refine E_putI d_Re_readClause_120 gf_Re_31 (by exact hG.s (by decide) rfl) rfl rfl ?_
                refine E_retV d_Re_readClause_123 rfl ?_
                exact CP.fl (fl6 (hc.2.1 g1)) ((X4.tr hc.2.2.tk).wI (by unfold JC; omega))
              · rw [if_neg g1]
                have g1 := Decidable.not_not.mp g1
                first | refine E_aload_n d_Re_readClause_107 rfl ?_ | refine E_aload_nN d_Re_readClause_107 rfl ?_
                refine E_bipush (v := nI 38) d_Re_readClause_108 (by decide) ?_
                refine E_V1 (tk) d_Re_readClause_110 ml_Re_126 cb_Re_take cv_Re_take (by exact hG.s (by decide) rfl) ⟨by decide, rfl⟩ ⟨by omega, by decide⟩ rfl (Nat.le_of_ble_eq_true rfl) (Nat.le_of_ble_eq_true rfl) (kV fun M1 hc => ?_)
                obtain ⟨z1, z2⟩ := fin _ _ _ x3 rfl hQ g0 g1 (hc.1 g1) hc.2.2
                first | refine E_aload_n d_Re_readClause_113 rfl ?_ | refine E_aload_nN d_Re_readClause_113 rfl ?_
                refine E_dup d_Re_readClause_114 rfl ?_
                refine E_getI d_Re_readClause_115 gf_Re_31 (by exact hG.s (by decide) rfl) (by exact z1) ?_
                refine E_iconst (v := nI 1) d_Re_readClause_118 rfl ?_
                first | (with_reducible refine E_isN2 ?_; refine E_iaddN d_Re_readClause_119 ?_) | refine E_iadd d_Re_readClause_119 ?_
                refine E_putI d_Re_readClause_120 gf_Re_31 (by exact hG.s (by decide) rfl) rfl rfl ?_
                refine E_retV d_Re_readClause_123 rfl ?_
                exact ⟨(X4.tr hc.2.2.tk).wI (by unfold JC; omega), fun _ => z2, fun q => absurd rfl q⟩
          refine E_iload_n d_Re_readClause_36 rfl ?_
          refine E_S1 (sp_Sg_beginsClause hsr) d_Re_readClause_37 ml_Re_112 cb_Sg_beginsClause cs_Sg_beginsClause ⟨by omega, by decide⟩ rfl (Nat.le_of_ble_eq_true rfl) (Nat.le_of_ble_eq_true rfl) (kI fun r1 M1 hc => ?_)
          obtain ⟨rfl, rfl⟩ := hc
          first | (with_reducible refine E_isP ?_; refine E_if_ne 51 d_Re_readClause_40 rfl (pb_1 fun h40 => ?_) (pb_0 fun h40 => ?_)) | (with_reducible refine E_isN1 ?_; refine E_if_ne 51 d_Re_readClause_40 rfl (nz_ne fun h40 => ?_) (nz_eq (by omega) fun h40 => ?_)) | refine E_if_ne 51 d_Re_readClause_40 rfl (fun h40 => ?_) (fun h40 => ?_)
          rotate_left
          · exfalso; exact h40 d1
          refine E_iload_n d_Re_readClause_51 rfl ?_
          first | (with_reducible refine E_isP ?_; refine E_if_eq 63 d_Re_readClause_52 rfl (pb_0 fun h52 => ?_) (pb_1 fun h52 => ?_)) | (with_reducible refine E_isN1 ?_; refine E_if_eq 63 d_Re_readClause_52 rfl (nz_eq (by omega) fun h52 => ?_) (nz_ne fun h52 => ?_)) | refine E_if_eq 63 d_Re_readClause_52 rfl (fun h52 => ?_) (fun h52 => ?_)
          rotate_left
          · exfalso; omega
          first | refine E_aload_n d_Re_readClause_63 rfl ?_ | refine E_aload_nN d_Re_readClause_63 rfl ?_
          refine E_getI d_Re_readClause_64 gf_Re_31 (by exact hG.s (by decide) rfl) (by exact hn) ?_
          refine E_bipush (v := nI 24) d_Re_readClause_67 (by decide) ?_
          first | (with_reducible refine E_isN2 ?_; refine E_icmp_lt 81 d_Re_readClause_69 rfl (nb_lt (by omega) (by omega) fun h69 => ?_) (nb_nlt (by omega) (by omega) fun h69 => ?_)) | refine E_icmp_lt 81 d_Re_readClause_69 rfl (fun h69 => ?_) (fun h69 => ?_)
          rotate_left
          · exfalso; omega
          first | refine E_aload_n d_Re_readClause_81 rfl ?_ | refine E_aload_nN d_Re_readClause_81 rfl ?_
          refine E_iload_n d_Re_readClause_82 rfl ?_
          refine E_putI d_Re_readClause_83 gf_Re_116 (by exact hG.s (by decide) rfl) rfl rfl ?_
          first | refine E_aload_n d_Re_readClause_86 rfl ?_ | refine E_aload_nN d_Re_readClause_86 rfl ?_
          refine E_getR d_Re_readClause_87 gf_Re_9 (by exact hG.s (by decide) rfl) (by exact hR.o rfl) ?_
          first | refine E_aload_n d_Re_readClause_90 rfl ?_ | refine E_aload_nN d_Re_readClause_90 rfl ?_
          refine E_getI d_Re_readClause_91 gf_Re_31 (by exact hG.s (by decide) rfl) (by exact n12) ?_
          refine E_iload_n d_Re_readClause_94 rfl ?_
          refine E_SN3 (sp_TP_put (hG.s (k := 226) (by decide) rfl) (by decide) (by omega)) d_Re_readClause_95 nl_Re_119 cb_TP_put cs_TP_put ⟨by omega, by decide⟩ rfl (Nat.le_of_ble_eq_true rfl) (Nat.le_of_ble_eq_true rfl) (kV fun M1 hc => ?_)
          subst hc
          first | refine E_aload_n d_Re_readClause_98 rfl ?_ | refine E_aload_nN d_Re_readClause_98 rfl ?_
          refine E_V0 (sp_Re_advance hG hs1 h3 (by omega)) d_Re_readClause_99 ml_Re_58 cb_Re_advance cv_Re_advance (by exact hG.s (by decide) rfl) ⟨by decide, rfl⟩ ⟨by omega, by decide⟩ rfl (Nat.le_of_ble_eq_true rfl) (Nat.le_of_ble_eq_true rfl) (kV fun M1 hc => ?_)
          have p6 := hc
          first | refine E_aload_n d_Re_readClause_102 rfl ?_ | refine E_aload_nN d_Re_readClause_102 rfl ?_
          refine E_iload_n d_Re_readClause_103 rfl ?_
          refine E_V1 (rr _ p6.1 p6.2) d_Re_readClause_104 ml_Re_123 cb_Re_readRest cv_Re_readRest (by exact hG.s (by decide) rfl) ⟨by decide, rfl⟩ ⟨by omega, by decide⟩ rfl (Nat.le_of_ble_eq_true rfl) (Nat.le_of_ble_eq_true rfl) (kV fun M1 hc => ?_)
          skip
          exact K107 _ _ p6.2 hc
  have KT : ((SS l k = 0 ∧ t.sy.isSome = true) ∨ (SS l k = 1 ∧ t.sw.isSome = true)) → E 214 0 0 Y_Re_readClause 36 [some (.ref 225), some (.int (nI (SS l k))), some (.int (nI 1))] [] G M (QV G fun M' => CP l (clR (SS l) (VV l) k t b) M M') := fun q => K36 1 (Or.inl ⟨rfl, q⟩)
  have KF : ¬ ((SS l k = 0 ∧ t.sy.isSome = true) ∨ (SS l k = 1 ∧ t.sw.isSome = true)) → E 214 0 0 Y_Re_readClause 36 [some (.ref 225), some (.int (nI (SS l k))), some (.int (nI 0))] [] G M (QV G fun M' => CP l (clR (SS l) (VV l) k t b) M M') := fun q => K36 0 (Or.inr ⟨rfl, q⟩)
  have T1 := fun (a : SS l k = 0) (c : ¬ mI M 225 8 = -1) => KT (Or.inl ⟨a, c8 c⟩)
  have T2 := fun (a : SS l k = 1) (c : ¬ mI M 225 10 = -1) => KT (Or.inr ⟨a, c10 c⟩)
  have F1 := fun (a : mI M 225 8 = -1) (c : SS l k ≠ 1) => KF (fun q => by rcases q with q | q; rw [b8 a] at q; cases q.2; exact c q.1)
  have F2 := fun (a : SS l k ≠ 0) (c : SS l k ≠ 1) => KF (fun q => by rcases q with q | q; exact a q.1; exact c q.1)
  have F3 := fun (a : SS l k = 1) (c : mI M 225 10 = -1) => KF (fun q => by rcases q with q | q; rw [a] at q; cases q.1; rw [b10 c] at q; cases q.2)
  first | refine E_aload_n d_Re_readClause_0 rfl ?_ | refine E_aload_nN d_Re_readClause_0 rfl ?_
  refine E_getI d_Re_readClause_1 gf_Re_61 (by exact hG.s (by decide) rfl) (by exact h.s) ?_
  refine E_istore_1 d_Re_readClause_4 rfl ?_
  refine E_iload_n d_Re_readClause_5 rfl ?_
  first | (with_reducible refine E_isP ?_; refine E_if_ne 17 d_Re_readClause_6 rfl (pb_1 fun h6 => ?_) (pb_0 fun h6 => ?_)) | (with_reducible refine E_isN1 ?_; refine E_if_ne 17 d_Re_readClause_6 rfl (nz_ne fun h6 => ?_) (nz_eq (by omega) fun h6 => ?_)) | refine E_if_ne 17 d_Re_readClause_6 rfl (fun h6 => ?_) (fun h6 => ?_)
  · refine E_iload_n d_Re_readClause_17 rfl ?_
    refine E_iconst (v := nI 1) d_Re_readClause_18 rfl ?_
    first | (with_reducible refine E_isN2 ?_; refine E_icmp_ne 34 d_Re_readClause_19 rfl (nb_ne fun h19 => ?_) (nb_eq (by omega) (by omega) fun h19 => ?_)) | refine E_icmp_ne 34 d_Re_readClause_19 rfl (fun h19 => ?_) (fun h19 => ?_)
    · refine E_iconst (v := nI 0) d_Re_readClause_34 rfl ?_
      refine E_istore_2 d_Re_readClause_35 rfl ?_
      first | exact T1 h6 h14 | exact T2 h19 h27 | exact F3 h19 h27 | exact F1 h14 h19 | exact F2 h6 h19
    · first | refine E_aload_n d_Re_readClause_22 rfl ?_ | refine E_aload_nN d_Re_readClause_22 rfl ?_
      refine E_getI d_Re_readClause_23 gf_Re_41 (by exact hG.s (by decide) rfl) (by rfl) ?_
      refine E_iconst (v := (-1)) d_Re_readClause_26 rfl ?_
      first | (with_reducible refine E_isN2 ?_; refine E_icmp_eq 34 d_Re_readClause_27 rfl (nb_eq (by omega) (by omega) fun h27 => ?_) (nb_ne fun h27 => ?_)) | refine E_icmp_eq 34 d_Re_readClause_27 rfl (fun h27 => ?_) (fun h27 => ?_)
      · refine E_iconst (v := nI 0) d_Re_readClause_34 rfl ?_
        refine E_istore_2 d_Re_readClause_35 rfl ?_
        first | exact T1 h6 h14 | exact T2 h19 h27 | exact F3 h19 h27 | exact F1 h14 h19 | exact F2 h6 h19
      · refine E_iconst (v := nI 1) d_Re_readClause_30 rfl ?_
        refine E_goto 35 d_Re_readClause_31 rfl ?_
        refine E_istore_2 d_Re_readClause_35 rfl ?_
        first | exact T1 h6 h14 | exact T2 h19 h27 | exact F3 h19 h27 | exact F1 h14 h19 | exact F2 h6 h19
  · first | refine E_aload_n d_Re_readClause_9 rfl ?_ | refine E_aload_nN d_Re_readClause_9 rfl ?_
    refine E_getI d_Re_readClause_10 gf_Re_38 (by exact hG.s (by decide) rfl) (by rfl) ?_
    refine E_iconst (v := (-1)) d_Re_readClause_13 rfl ?_
    first | (with_reducible refine E_isN2 ?_; refine E_icmp_ne 30 d_Re_readClause_14 rfl (nb_ne fun h14 => ?_) (nb_eq (by omega) (by omega) fun h14 => ?_)) | refine E_icmp_ne 30 d_Re_readClause_14 rfl (fun h14 => ?_) (fun h14 => ?_)
    · refine E_iconst (v := nI 1) d_Re_readClause_30 rfl ?_
      refine E_goto 35 d_Re_readClause_31 rfl ?_
      refine E_istore_2 d_Re_readClause_35 rfl ?_
      first | exact T1 h6 h14 | exact T2 h19 h27 | exact F3 h19 h27 | exact F1 h14 h19 | exact F2 h6 h19
    · refine E_iload_n d_Re_readClause_17 rfl ?_
      refine E_iconst (v := nI 1) d_Re_readClause_18 rfl ?_
      first | (with_reducible refine E_isN2 ?_; refine E_icmp_ne 34 d_Re_readClause_19 rfl (nb_ne fun h19 => ?_) (nb_eq (by omega) (by omega) fun h19 => ?_)) | refine E_icmp_ne 34 d_Re_readClause_19 rfl (fun h19 => ?_) (fun h19 => ?_)
      · refine E_iconst (v := nI 0) d_Re_readClause_34 rfl ?_
        refine E_istore_2 d_Re_readClause_35 rfl ?_
        first | exact T1 h6 h14 | exact T2 h19 h27 | exact F3 h19 h27 | exact F1 h14 h19 | exact F2 h6 h19
      · first | refine E_aload_n d_Re_readClause_22 rfl ?_ | refine E_aload_nN d_Re_readClause_22 rfl ?_
        refine E_getI d_Re_readClause_23 gf_Re_41 (by exact hG.s (by decide) rfl) (by rfl) ?_
        refine E_iconst (v := (-1)) d_Re_readClause_26 rfl ?_
        first | (with_reducible refine E_isN2 ?_; refine E_icmp_eq 34 d_Re_readClause_27 rfl (nb_eq (by omega) (by omega) fun h27 => ?_) (nb_ne fun h27 => ?_)) | refine E_icmp_eq 34 d_Re_readClause_27 rfl (fun h27 => ?_) (fun h27 => ?_)
        · refine E_iconst (v := nI 0) d_Re_readClause_34 rfl ?_
          refine E_istore_2 d_Re_readClause_35 rfl ?_
          first | exact T1 h6 h14 | exact T2 h19 h27 | exact F3 h19 h27 | exact F1 h14 h19 | exact F2 h6 h19
        · refine E_iconst (v := nI 1) d_Re_readClause_30 rfl ?_
          refine E_goto 35 d_Re_readClause_31 rfl ?_
          refine E_istore_2 d_Re_readClause_35 rfl ?_
          first | exact T1 h6 h14 | exact T2 h19 h27 | exact F3 h19 h27 | exact F1 h14 h19 | exact F2 h6 h19
end RDk
