section MQj
variable {M M0 : Mem} {l : List Nat} {k t s w0 : Nat}
theorem JP.jt {A : Nat → Prop} {M1 : Mem} (h : Fx JP A M M1) : Fx JT A M M1 := h.wk (fun j z => Or.inl z) (fun a z => z)
/-- the clause is read: the text is one longer -/
theorem cl_finM {tt : CT} {k w s b : Nat} {r : RR} {M4 M5 M7 : Mem} (hS : TS l t M0 k tt w M) (hs : s ≤ 9 ∧ s ≠ 3 ∧ s ≠ 5) (hk : SS l k = s) (h24 : tt.cl.length < 24) (h2 : ¬ ((s = 0 ∧ tt.sy.isSome = true) ∨ (s = 1 ∧ tt.sw.isSome = true)))
    (hr : restR (SS l) (VV l) s (k + 1) b = r) (hP : PC l t s w k tt.cl.length M M4) (h19 : mI M4 0 19 = nI (if s ≤ 1 then onN tt ||| 2 ^ s else onN tt)) (hB : BP l t s (681 * t + 1 + 3 * tt.cl.length) w r M4 M5) (h0 : r.f = 0) (h38 : SS l r.k = 38)
    (hK : TKM l (r.k + 1) M7) (hX : Fx Jn An (wI M5 3 (681 * t) (nI (tt.cl.length + 1))) M7) : ∃ w', TS l t M0 (r.k + 1) (tt.cl ++ [(kdS s, r.a, r.b)], if s = 0 then r.q else tt.sy, if s = 1 then r.q else tt.sw) w' M7 := by
  obtain ⟨-, hT, -, hv, h12, h13, hwk, h19', hn, -, hC, hF, hX0, hTK, ht⟩ := hS
  obtain ⟨p1, p2, p3, p4, p5, p6, p7, p8⟩ := hP
  obtain ⟨b1, b2, b3, w', b4, b5, b6⟩ := hB
  obtain ⟨b7, b8⟩ := b6 h0
  have tok : TOK (tt.cl ++ [(kdS s, r.a, r.b)], if s = 0 then r.q else tt.sy, if s = 1 then r.q else tt.sw) := by
    have e : clR (SS l) (VV l) k tt b = (0, r.k + 1, (tt.cl ++ [(kdS s, r.a, r.b)], if s = 0 then r.q else tt.sy, if s = 1 then r.q else tt.sw), b + qlen r.q) := by
      unfold clR cluN
      rw [hk, hr, if_neg (fun z => z hs), if_neg h2, if_neg (by omega), if_neg (fun z => z h0), if_neg (fun z => z h38)]
    have := TOK.clR (l := l) (k := k) (b := b) hTK (by rw [e]; rfl)
    rw [e] at this
    exact this
  have hww : w ≤ w' := by
    rcases (show s ≤ 1 ∨ 2 ≤ s by omega) with z | z
    · obtain ⟨q, -, y, -⟩ := b7 z; omega
    · rw [(b8 z).1]; exact Nat.le_refl _
  obtain ⟨m1, m2, m3, m4⟩ := kd_km hs
  obtain ⟨z0, z1⟩ := kdS_01 hs
  have hl : (tt.cl ++ [(kdS s, r.a, r.b)]).length = tt.cl.length + 1 := by rw [List.length_append]; rfl
  have x5 : Fo 0 (fun _ => False) A3' M5 (wI M5 3 (681 * t) (nI (tt.cl.length + 1))) := (Fo.rf (o := 0)).wJ (b := 3) (by decide) rfl
  have e7 : ∀ i, mI M7 3 i = if i = 681 * t then nI (tt.cl.length + 1) else mI M5 3 i := fun i => by rw [hX.2.1 3 (by decide) (fun z => z), mI_wa]
  have f7 : ∀ j, ¬ Jn j → mI M7 0 j = mI M5 0 j := fun j hj => by rw [hX.2.2.1 j hj, mI_wx (by decide)]
  have e5 : ∀ i, i ≠ 681 * t + 1 + 3 * tt.cl.length → i ≠ 681 * t + 1 + 3 * tt.cl.length + 1 → i ≠ 681 * t + 1 + 3 * tt.cl.length + 2 → (i < 681 * t + 73 + 2 * w ∨ 681 * t + 681 ≤ i) → mI M5 3 i = mI M 3 i := fun i i0 i1 i2 hi => by rw [b3 i i1 i2 hi, p8, if_neg i0]
  have ek : mI M5 3 (681 * t + 1 + 3 * tt.cl.length) = nI (kdS s) := by rw [b3 _ (by omega) (by omega) (by omega), p8, if_pos rfl]
  have xM : Fx JT AP M M7 := ((p7.tr (JP.jt b2)).tr (x5.fx.wk (fun j z => absurd z (fun y => y)) (fun a z => Or.inl z))).tr (hX.wk (fun j z => Or.inl (Or.inl z)) (fun a z => absurd z (fun y => y)))
  refine ⟨w', p1.fx (b2.tr ((x5.fx.wk (fun j z => absurd z (fun y => y)) (fun a z => Or.inl z)).tr (hX.wk (fun j z => Or.inl z) (fun a z => absurd z (fun y => y))))), hT.fx xM (by unfold JT JP; omega) (by unfold AP; omega), hK, ?_, ?_, (f7 13 (by unfold Jn; omega)).trans b4, by omega, ?_, ?_, by show (tt.cl ++ [(kdS s, r.a, r.b)]).length ≤ 24; omega, ?_, fun i hi => ?_, hX0.tr xM, tok, ht⟩
  · have gn := Gn.rest (S := SS l) (V := VV l) s (k + 1) b
    rw [hr] at gn
    intro j hj
    have h40 : SS l j ≠ 40 := by
      by_cases q : j < k
      · have := hv j q
        exact fun z => by have := (SS_40 l j).mp z; omega
      · by_cases q2 : j = k
        · rw [q2, hk]; omega
        · by_cases q3 : j = r.k
          · rw [q3, h38]; decide
          · exact gn.2.2.1 j (by omega) (by omega)
    have := mt (SS_40 l j).mpr h40
    have := PP_le l j
    omega
  · rw [f7 12 (by unfold Jn; omega), b2.2.2.1 12 (by unfold JP; omega)]; exact p4
  · rw [f7 19 (by unfold Jn; omega), b2.2.2.1 19 (by unfold JP; omega), h19]
    by_cases c : s ≤ 1
    · obtain ⟨q, hq, -⟩ := b7 c
      rw [if_pos c, hq, onN_s c h2]
    · rw [if_neg c, if_neg (by omega), if_neg (by omega)]
      rfl
  · rw [e7, if_pos rfl]
    show nI (tt.cl.length + 1) = nI (tt.cl ++ [(kdS s, r.a, r.b)]).length
    rw [hl]
  · intro i hi
    have hi : i < (tt.cl ++ [(kdS s, r.a, r.b)]).length := hi
    rw [hl] at hi
    have eg : CT.cl (tt.cl ++ [(kdS s, r.a, r.b)], if s = 0 then r.q else tt.sy, if s = 1 then r.q else tt.sw) = tt.cl ++ [(kdS s, r.a, r.b)] := rfl
    rw [eg, getD_snoc]
    by_cases c : i < tt.cl.length
    · rw [if_pos c]
      obtain ⟨c1, c2, c3, c4⟩ := hC i c
      have g7 : ∀ j, 681 * t < j → j < 681 * t + 1 + 3 * tt.cl.length → mI M7 3 j = mI M 3 j := fun j j1 j2 => by rw [e7, if_neg (by omega), e5 _ (by omega) (by omega) (by omega) (by omega)]
      have lc : ∀ q, lwM q t (681 * t + 1 + 3 * i) w (mI M 3) → lwM q t (681 * t + 1 + 3 * i) w' (mI M7 3) := fun q h => h.cg hww (g7 _ (by omega) (by omega)) (g7 _ (by omega) (by omega)) (fun j j1 j2 => by rw [e7, if_neg (by omega), e5 _ (by omega) (by omega) (by omega) (Or.inl j2)])
      refine ⟨(g7 _ (by omega) (by omega)).trans c1, fun z => ?_, fun z => ?_, fun z => ⟨(g7 _ (by omega) (by omega)).trans (c4 z).1, fun y => (g7 _ (by omega) (by omega)).trans ((c4 z).2 y)⟩⟩
      · have hsome : tt.sy.isSome = true := hTK.1.2.2.1.mpr ⟨i, c, z⟩
        have n0 : s ≠ 0 := fun y => h2 (Or.inl ⟨y, hsome⟩)
        show lwM (if s = 0 then r.q else tt.sy) t _ w' _
        rw [if_neg n0]
        exact lc _ (c2 z)
      · have hsome : tt.sw.isSome = true := hTK.1.2.2.2.1.mpr ⟨i, c, z⟩
        have n0 : s ≠ 1 := fun y => h2 (Or.inr ⟨y, hsome⟩)
        show lwM (if s = 1 then r.q else tt.sw) t _ w' _
        rw [if_neg n0]
        exact lc _ (c3 z)
    · have ei : i = tt.cl.length := by omega
      subst ei
      rw [if_neg c, if_pos (rfl : tt.cl.length = tt.cl.length)]
      have g7 : ∀ j, 681 * t < j → mI M7 3 j = mI M5 3 j := fun j j1 => by rw [e7, if_neg (by omega)]
      have ll : s ≤ 1 → lwM r.q t (681 * t + 1 + 3 * tt.cl.length) w' (mI M7 3) := fun z => by
        obtain ⟨q, y1, y2, y3, y4, y5⟩ := b7 z
        refine ⟨q, w, y1, by rw [e7, if_neg (by omega)]; exact y3, by rw [e7, if_neg (by omega), ← y2]; exact y4, by omega, fun i hi => ?_⟩
        rw [e7, if_neg (by omega), e7, if_neg (by omega)]
        exact y5 i hi
      refine ⟨(g7 _ (by omega)).trans ek, fun z => ?_, fun z => ?_, fun z => ⟨(g7 _ (by omega)).trans (b8 (m2 z)).2.1, fun y => (g7 _ (by omega)).trans ((b8 (m2 z)).2.2 (m3 y))⟩⟩
      · have e0 : s = 0 := z0.mp z
        show lwM (if s = 0 then r.q else tt.sy) t _ w' _
        rw [if_pos e0]
        exact ll (by omega)
      · have e1 : s = 1 := z1.mp z
        show lwM (if s = 1 then r.q else tt.sw) t _ w' _
        rw [if_pos e1]
        exact ll (by omega)
  · rw [e7, if_neg (by omega), e5 _ (by omega) (by omega) (by omega) (by omega)]
    exact hF i hi
end MQj
