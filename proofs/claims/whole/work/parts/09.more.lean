section EMore
variable {d b bs : Nat} {Y : MI} {pc : Nat} {ls : List (Option Value)} {st : List Value} {G : Geo} {M : Mem} {Q : Option Value → Geo → Mem → Prop}
theorem nI_nn {k : Nat} (h : k < 2 ^ 31) : (nI k).toInt = (((nI k).toNatClampNeg : Nat) : Int) := by
  rw [nI_toInt h, nI_clamp h]
theorem E_copy {idx a0 a n0 n1 sp dp k : Nat} {x y z : Int32} (hd : decode Y.2.1 pc = .ok (.invokestatic idx, 3)) (hl : Cond.methodLink Y.1.cls idx arraycopyName ∈ TB) (hdp : 1 ≤ d) (hroom : (st.map fun v => v.category).sum ≤ 8)
    (hs0 : Sh G a0 (1, n0)) (hs1 : Sh G a (1, n1)) (hx : x = nI sp) (hy : y = nI dp) (hz : z = nI k) (h4 : sp + k ≤ n0) (h5 : dp + k ≤ n1) (hn0 : n0 < 2147483648) (hn1 : n1 < 2147483648)
    (kk : E d b bs Y (pc + 3) ls st G (wA M a (va_cpy (mI M a0) (mI M a) sp dp k)) Q) : E d b bs Y pc ls (.int z :: .int y :: .ref a :: .int x :: .ref a0 :: st) G M Q := by
  intro p l e s m args below meth c X A mc ms cells slots H locs la h
  subst hx; subst hy; subst hz
  have c1 : (nI sp).toNatClampNeg = sp := nI_clamp (by omega)
  have c2 : (nI dp).toNatClampNeg = dp := nI_clamp (by omega)
  have c3 : (nI k).toNatClampNeg = k := nI_clamp (by omega)
  have p1 : ¬ nI sp < 0 := nI_pos (by omega)
  have p2 : ¬ nI dp < 0 := nI_pos (by omega)
  have p3 : ¬ nI k < 0 := nI_pos (by omega)
  have hc0 : H[X.2.2 a0]? = some (vp_cell (X.2.1 0) (n0, .inl (mI M a0))) := h.P a0 _ (wl_sh X G M hs0)
  have hc1 : H[X.2.2 a]? = some (vp_cell (X.2.1 0) (n1, .inl (mI M a))) := h.P a _ (wl_sh X G M hs1)
  obtain ⟨-, k0, hk0, cm0, hkk0⟩ := (h.K.2 0 _ rfl).1 n0 (fun j => .int (mI M a0 j))
  obtain ⟨-, k1, hk1, cm1, hkk1⟩ := (h.K.2 0 _ rfl).1 n1 (fun j => .int (mI M a j))
  have hfw : nativeFrameWords "java/lang/System" "arraycopy" 5 ≤ 60 := by decide
  have hsum := sum_cv X st
  intro T hT XX
  obtain ⟨vm', X', step⟩ := XX.arraycopy h.hx h.own (h.ts _ hl) (h.ts _ jm_copy.1) (h.ts _ jm_copy.2.1) (h.ts _ jm_copy.2.2) (src := X.2.2 a0) (dst := X.2.2 a) (cs := vp_cell (X.2.1 0) (n0, .inl (mI M a0))) (cd := vp_cell (X.2.1 0) (n1, .inl (mI M a))) (srcPos := nI sp) (destPos := nI dp) (n := nI k) (by rw [hT]; exact hc0) (by rw [hT]; exact hc1)
    (fun _ h => by cases h) (fun _ h => by cases h) (fun h => by cases h) (fun h => by cases h) hk0 hk1 hkk0 hkk1 (by simp [refKind]) p1 p2 p3
    (by rw [nI_toInt (by omega), nI_toInt (by omega)]; show ¬ _ > ((arrV (X.2.1 0) n0 (fun j => .int (mI M a0 j))).slots.size : Int); rw [arrV_size]; omega)
    (by rw [nI_toInt (by omega), nI_toInt (by omega)]; show ¬ _ > ((arrV (X.2.1 0) n1 (fun j => .int (mI M a j))).slots.size : Int); rw [arrV_size]; omega)
    (fun vm₁ _ i hi => by
      rw [c3] at hi
      have e : (vp_cell (X.2.1 0) (n0, .inl (mI M a0))).slots.getD ((nI sp).toNatClampNeg + i) .null = .int (mI M a0 (sp + i)) := by
        show (arrV (X.2.1 0) n0 (fun j => .int (mI M a0 j))).slots.getD _ _ = _
        rw [c1, Array.getD_eq_getD_getElem?, arrV_read _ _ (by omega)]
        rfl
      refine ⟨?_, ?_⟩
      · rw [e]
        rfl
      · rw [e]
        exact trivial)
    (g := F0 m pc la (.int (nI k) :: .int (nI dp) :: .ref (X.2.2 a) :: .int (nI sp) :: .ref (X.2.2 a0) :: st.map (cv X))) rfl (h.lv.1.trans h.hml.symm) (rest := st.map (cv X)) rfl (by rw [h.hb]; exact hd) hdp (by show 2 * 0 + _ + _ ≤ 60 * d + 100; omega)
  have e1 : copied (vp_cell (X.2.1 0) (n0, .inl (mI M a0))) (vp_cell (X.2.1 0) (n1, .inl (mI M a))) (nI sp) (nI dp) (nI k) = vp_cell (X.2.1 0) (n1, .inl (va_cpy (mI M a0) (mI M a) (nI sp).toNatClampNeg (nI dp).toNatClampNeg (nI k).toNatClampNeg)) := va_copied (fun z => .int z) (X.2.1 0) (X.2.1 0) (mI M a0) (mI M a) (by rw [c1, c3]; exact h4)
  rw [c1, c2, c3] at e1
  rw [e1] at X' step
  have hl : X.2.2 a < H.size := (Array.getElem?_eq_some_iff.mp hc1).1
  generalize hH1 : H.setIfInBounds (X.2.2 a) (vp_cell (X.2.1 0) (n1, .inl (va_cpy (mI M a0) (mI M a) sp dp k))) = H1
  have hheap : ((T.setVm vm').setCell (X.2.2 a) (vp_cell (X.2.1 0) (n1, .inl (va_cpy (mI M a0) (mI M a) sp dp k)))).heap = H1 := by rw [← hH1, ← hT]; rfl
  have oq : ∀ q : Nat, q ≠ X.2.2 a → H1[q]? = H[q]? := fun q hq => by rw [← hH1]; simp [Array.getElem?_setIfInBounds, Ne.symm hq]
  have hz : H1.size = H.size := by rw [← hH1]; simp
  obtain ⟨w1, w2⟩ := Wd_upd (M' := wA M a (va_cpy (mI M a0) (mI M a) sp dp k)) (H1 := H1) h.P h.D hs1 (by
    show H1[X.2.2 a]? = some (vp_cell (X.2.1 0) (n1, .inl (mI (wA M a (va_cpy (mI M a0) (mI M a) sp dp k)) a)))
    rw [← hH1, show mI (wA M a (va_cpy (mI M a0) (mI M a) sp dp k)) a = va_cpy (mI M a0) (mI M a) sp dp k from upda_at _]
    simp [Array.getElem?_setIfInBounds, hl]) ec_wA oq
  obtain ⟨t, a1, b1⟩ := kk p l e s m args below meth c X A mc ms cells slots H1 _ la (h.mem w1 w2 ⟨by rw [hz]; exact h.S.1, fun q g1 g2 => by
      rw [oq q (fun e => g2 (by rw [e]; exact wl_in h.D hs1))]
      exact h.S.2.1 q g1 g2, fun q hq => by
      rcases List.mem_append.mp hq with h9 | h9
      · exact h.S.2.2 q h9
      · obtain ⟨z, -, hz⟩ := List.mem_map.mp h9
        rw [← hz]
        exact wl_in h.D hs1⟩ hz) _ hheap X'
  exact ⟨t, step t a1, b1⟩
theorem E_clone {idx a n : Nat} (hd : decode Y.2.1 pc = .ok (.invokevirtual idx, 3)) (hl : Cond.methodLink Y.1.cls idx ⟨"[I", "clone", "()Ljava/lang/Object;"⟩ ∈ TB) (hdp : 1 ≤ d) (hroom : (st.map fun v => v.category).sum ≤ 8) (hs : Sh G a (1, n)) (hG : G.1 < 1000000)
    (kk : E d b bs Y (pc + 3) ls (.ref G.1 :: st) (ga G (1, n)) (wA (cN M G.1) G.1 (mI M a)) Q) : E d (b + 1) (bs + n) Y pc ls (.ref a :: st) G M Q := by
  intro p l e s m args below meth c X A mc ms cells slots H locs la h
  have hnn : X.2.2 G.1 = H.size := by rw [h.fr.2 G.1 (Nat.le_refl _) hG, Nat.sub_self]; rfl
  have hcell : H[X.2.2 a]? = some (vp_cell (X.2.1 0) (n, .inl (mI M a))) := h.P a _ (wl_sh X G M hs)
  have hsz : (vp_cell (X.2.1 0) (n, .inl (mI M a))).slots.size = n := arrV_size _ _ _
  have hcellE : ({ cls := (vp_cell (X.2.1 0) (n, .inl (mI M a))).cls, slots := (vp_cell (X.2.1 0) (n, .inl (mI M a))).slots } : Cell) = vp_cell (X.2.1 0) (n, .inl (mI M a)) := rfl
  have hnm : s.vm.findClass "[I" = some (X.2.1 0) := (h.K.2 0 _ rfl).2
  obtain ⟨c0, t0', f1, f2, f3⟩ := Cond.castable_spec (va_Nw.use (A := args) rfl h.ks.2.2.2.1)
  cases hnm.symm.trans f1
  have hsum := sum_cv X st
  intro T hT XX
  have hcellT : T.heap[X.2.2 a]? = some (vp_cell (X.2.1 0) (n, .inl (mI M a))) := by rw [hT]; exact hcell
  obtain ⟨-, kA, hkA, comp, hkind⟩ := State.isArrayOf_alike XX.warmed.alike ((h.K.2 0 _ rfl).1 0 (fun _ => .null))
  obtain ⟨-, kS, hkS, compS, hkindS⟩ := (h.K.2 0 _ rfl).1 0 (fun _ => .null)
  obtain ⟨vm', X', step⟩ := XX.cloneArray h.hx h.own (h.ts _ hl) (h.ts _ jm_clone.1) (h.ts _ jm_clone.2.1) (h.ts _ jm_clone.2.2.1) (h.ts _ jm_clone.2.2.2) (a := X.2.2 a) (cell := vp_cell (X.2.1 0) (n, .inl (mI M a))) hcellT (fun k h => by cases h) (fun h => by cases h) hnm f2 f3
    (fun i v hv => by
      have hk' : T.vm.classes[X.2.1 0]? = some kA := hkA
      have hv2 : ∃ z, v = .int z := by
        have h1 := (Array.getElem?_eq_some_iff.mp hv)
        obtain ⟨h1, h2⟩ := h1
        have h3 : i < n := by rw [hsz] at h1; exact h1
        have h4 := arrV_read (X.2.1 0) (fun j => Value.int (mI M a j)) h3
        exact ⟨mI M a i, Option.some.inj (hv.symm.trans h4)⟩
      obtain ⟨z, rfl⟩ := hv2
      have e9 : (vp_cell (X.2.1 0) (n, .inl (mI M a))).cls = X.2.1 0 := rfl
      rw [e9]
      simp [State.fitsSlot, State.slotType?, hk', hkind, fits])
    (g := F0 m pc la (.ref (X.2.2 a) :: st.map (cv X))) rfl (h.lv.1.trans h.hml.symm) rfl (by rw [h.hb]; exact hd) hdp (by show 2 * 0 + _ + 14 ≤ 60 * d + 100; omega) (by have := h.cl; show _ ≤ mc; omega) (by rw [hsz]; have := h.sl; show _ ≤ ms; omega) (hloader := Vm.clonesLoader_of_array hkS hkindS)
  rw [hcellE, hsz] at X'
  generalize hH1 : H.push (vp_cell (X.2.1 0) (n, .inl (mI M a))) = H1
  have z1 : H1.size = H.size + 1 := by rw [← hH1, Array.size_push]
  have e1 : H1[H.size]? = some (vp_cell (X.2.1 0) (n, .inl (mI M a))) := by rw [← hH1, Array.getElem?_push_size]
  have o1 : ∀ q : Nat, q < H.size → H1[q]? = H[q]? := fun q hq => by rw [← hH1, Array.getElem?_push, if_neg (Nat.ne_of_lt hq)]
  have hwl : wl X (ga G (1, n)) (wA (cN M G.1) G.1 (mI M a)) = wl X G M ++ [(X.2.2 G.1, ecell X (wA (cN M G.1) G.1 (mI M a)) (1, n) G.1)] := by
    have h1 := wl_ga X G M (1, n)
    have h2 := wl_set (X := X) (G := ga G (1, n)) (M := cN M G.1) (M' := wA (cN M G.1) G.1 (mI M a)) (Sh_new G (1, n)) rfl ec_wA
    rw [← h2, h1]
    have hlen : (wl X G M).length = G.1 := by simp [wl]
    rw [List.set_append_right _ _ (by omega), hlen, Nat.sub_self]
    rfl
  have hkp : ∀ (k : Nat) (x : Nat × va_E), (wl X G M)[k]? = some x → H1[x.1]? = H[x.1]? := fun k x hx => o1 x.1 ((h.P k x hx).lt)
  have hC : Cc b bs Y ls (ga G (1, n)) (wA (cN M G.1) G.1 (mI M a)) p s m args meth c X A mc ms (cells + 1) (slots + n) H1 locs la := by
    refine ⟨h.1, h.K, h.ks, ⟨?_, ?_⟩, ⟨Nat.le_trans h.S.1 (by omega), fun x h1 h2 => (o1 x (Nat.lt_of_lt_of_le h1 h.S.1)).trans (h.S.2.1 x h1 h2), h.S.2.2⟩, h.hA, ⟨hG, fun k h1 h2 => ?_⟩, h.lv, by have := h.cl; omega, by have := h.sl; omega⟩
    · rw [hwl]
      refine (h.P.kept hkp).app (fun k y hy => ?_)
      have hz : k < 1 := (List.getElem?_eq_some_iff.mp hy).1
      rw [show k = 0 by omega] at hy
      cases hy
      show H1[X.2.2 G.1]? = some (vp_cell (X.2.1 0) (n, .inl (mI (wA (cN M G.1) G.1 (mI M a)) G.1)))
      rw [hnn, show mI (wA (cN M G.1) G.1 (mI M a)) G.1 = mI M a from upda_at _]
      exact e1
    · rw [hwl]
      exact h.D.push h.P hnn (h.hA _ (by rw [hnn]; exact h.S.1))
    · have h1' : G.1 + 1 ≤ k := h1
      rw [h.fr.2 k (by omega) h2, z1]
      show _ = H.size + 1 + (k - (G.1 + 1))
      omega
  obtain ⟨t, b1, b2⟩ := kk p l e s m args below meth c X A mc ms (cells + 1) (slots + n) H1 locs la hC ((T.setVm vm').pushCell (vp_cell (X.2.1 0) (n, .inl (mI M a)))) (by rw [← hH1, ← hT]; rfl) X'
  refine ⟨t, step t ?_, b2⟩
  rw [hcellE, hT]
  rw [List.map_cons] at b1
  rw [← hnn]
  exact b1
theorem E_castA {idx a n : Nat} (hd : decode Y.2.1 pc = .ok (.checkcast idx, 3)) (hl : Cond.classLink Y.1.cls idx "[I" ∈ TB) (hs : Sh G a (1, n)) (kk : E d b bs Y (pc + 3) ls (.ref a :: st) G M Q) : E d b bs Y pc ls (.ref a :: st) G M Q := by
  intro p l e s m args below meth c X A mc ms cells slots H locs la h
  exact va_castA h.hx h.hb h.own (h.ts _ hl) h.P a (wl_sh X G M hs) (h.K.2 0 _ rfl).2 hd (kk p l e s m args below meth c X A mc ms cells slots H locs la h)
def strA (i : Nat) : Value := .ref (1000000 + i)
def strV (i : Nat) : Value := .ref (2000000 + i)
theorem E_ldcS {idx i : Nat} (hd : decode Y.2.1 pc = .ok (.ldc idx, 2)) (hY : Y.1.cls = "TruePoll$Tape") (hi : (idx = 76 ∧ i = 0) ∨ (idx = 93 ∧ i = 1)) (kk : E d b bs Y (pc + 2) ls (.ref (1000000 + i) :: st) G M Q) : E d b bs Y pc ls st G M Q := by
  intro p l e s m args below meth c X A mc ms cells slots H locs la h
  have ho := h.own
  rw [hY] at ho
  rcases hi with ⟨rfl, rfl⟩ | ⟨rfl, rfl⟩
  · exact va_ldcS h.hx h.hb ho h.ks.2.2.2.2.1 hd (kk p l e s m args below meth c X A mc ms cells slots H locs la h)
  · exact va_ldcS h.hx h.hb ho h.ks.2.2.2.2.2.1 hd (kk p l e s m args below meth c X A mc ms cells slots H locs la h)
theorem E_strV {idx i : Nat} (hi : i < 2) (hd : decode Y.2.1 pc = .ok (.getfield idx, 3)) (hl : Cond.fieldLink Y.1.cls idx "java/lang/String" "value" "[B" ∈ TB) (kk : E d b bs Y (pc + 3) ls (.ref (2000000 + i) :: st) G M Q) : E d b bs Y pc ls (.ref (1000000 + i) :: st) G M Q := by
  intro p l e s m args below meth c X A mc ms cells slots H locs la h
  exact vk_getf h.hx h.hb (h.ks.2.2.2.2.2.2.1.1 i hi).2.2.1 h.S h.own (h.ts _ hl) (fun _ q => q) hd (kk p l e s m args below meth c X A mc ms cells slots H locs la h)
theorem E_strC {idx i : Nat} (hi : i < 2) (hd : decode Y.2.1 pc = .ok (.getfield idx, 3)) (hl : Cond.fieldLink Y.1.cls idx "java/lang/String" "coder" "B" ∈ TB) (kk : E d b bs Y (pc + 3) ls (.int 0 :: st) G M Q) : E d b bs Y pc ls (.ref (1000000 + i) :: st) G M Q := by
  intro p l e s m args below meth c X A mc ms cells slots H locs la h
  exact vk_getf h.hx h.hb (h.ks.2.2.2.2.2.2.1.1 i hi).2.1 h.S h.own (h.ts _ hl) (fun _ q => q) hd (kk p l e s m args below meth c X A mc ms cells slots H locs la h)
theorem E_getsC {idx : Nat} (hd : decode Y.2.1 pc = .ok (.getstatic idx, 3)) (hl : Cond.fieldLink Y.1.cls idx "java/lang/String" "COMPACT_STRINGS" "Z" ∈ TB) (kk : E d b bs Y (pc + 3) ls (.int 1 :: st) G M Q) : E d b bs Y pc ls st G M Q := by
  intro p l e s m args below meth c X A mc ms cells slots H locs la h
  exact va_gets h.hx h.hb h.ks.2.2.2.2.2.2.2.1 h.S h.own (h.ts _ hl) (fun _ q => q) hd (kk p l e s m args below meth c X A mc ms cells slots H locs la h)
theorem E_getsF {idx : Nat} (hd : decode Y.2.1 pc = .ok (.getstatic idx, 3)) (hl : Cond.fieldLink Y.1.cls idx "jdk/internal/util/Preconditions" "SIOOBE_FORMATTER" "Ljava/util/function/BiFunction;" ∈ TB) (kk : ∀ v, (v = .null ∨ v = .ref 3000000) → E d b bs Y (pc + 3) ls (v :: st) G M Q) : E d b bs Y pc ls st G M Q := by
  intro p l e s m args below meth c X A mc ms cells slots H locs la h
  obtain ⟨v, hv, hZ⟩ := h.ks.2.2.2.2.2.2.2.2
  exact va_gets h.hx h.hb hZ h.S h.own (h.ts _ hl) (fun _ q => q) hd (kk v hv p l e s m args below meth c X A mc ms cells slots H locs la h)
theorem E_strL {i : Nat} {v : Int32} (hi : i < 2) (hd : decode Y.2.1 pc = .ok (.arraylength, 1)) (hv : Int32.ofNat (strN.getD i 0) = v) (kk : E d b bs Y (pc + 1) ls (.int v :: st) G M Q) : E d b bs Y pc ls (.ref (2000000 + i) :: st) G M Q := by
  intro p l e s m args below meth c X A mc ms cells slots H locs la h
  exact va_tlen h.hx h.hb (h.ks.2.2.2.2.2.2.1.1 i hi).2.2.2 h.S hv hd (kk p l e s m args below meth c X A mc ms cells slots H locs la h)
theorem E_strB {i j : Nat} {x v : Int32} (hi : i < 2) (hd : decode Y.2.1 pc = .ok (.baload, 1)) (hj : inA x j (strN.getD i 0)) (hv : (strB.getD i []).getD j 0 = v) (kk : E d b bs Y (pc + 1) ls (.int v :: st) G M Q) : E d b bs Y pc ls (.int x :: .ref (2000000 + i) :: st) G M Q := by
  intro p l e s m args below meth c X A mc ms cells slots H locs la h
  exact va_tb h.hx h.hb (h.ks.2.2.2.2.2.2.1.1 i hi).2.2.2 h.S hj.vp (show Value.int ((strB.getD i []).getD x.toNatClampNeg 0) = .int v by rw [hj.cl, hv]) hd (kk p l e s m args below meth c X A mc ms cells slots H locs la h)
theorem E_callVS {idx i n d' b' bs' b2 bs2 : Nat} {Y' : MI} {As rest : List Value} {ls' : List (Option Value)} {Q' : Option Value → Geo → Mem → Prop} (hi : i < 2)
    (hd : decode Y.2.1 pc = .ok (.invokevirtual idx, 3)) (hl : Cond.methodLink Y.1.cls idx Y'.1 ∈ TB) (cb : CB Y' n) (ct : CVt Y') (hci : Y'.1.cls = "java/lang/String") (hn : As.length = n) (hr : rmok d d' Y'.2.2.1)
    (hls : el Y'.2.2.1 (.ref (1000000 + i) :: As) = ls') (hlen : ((Value.ref (1000000 + i) :: As).flatMap el1).length ≤ Y'.2.2.1) (hst : st = As.reverse ++ .ref (1000000 + i) :: rest) (hroom : (rest.map fun v => v.category).sum ≤ 8) (hb : b' + b2 ≤ b) (hbs : bs' + bs2 ≤ bs)
    (spec : E d' b' bs' Y' 0 ls' [] G M Q') (kk : ∀ v G' M', Q' v G' M' → E d b2 bs2 Y (pc + 3) ls (v.toList ++ rest) G' M' Q) : E d b bs Y pc ls st G M Q := by
  intro p l e s m args below meth c X A mc ms cells slots H locs la h
  have hcall : CallW (Rm d mc ms) s args Y.1.cls Y'.1.cls idx Y'.1 Y'.2.1 Y'.2.2.1 Y'.2.2.2 (Cond.code Y'.1 Y'.2.1 Y'.2.2.1 Y'.2.2.2 :: TB) (Rm d' b' bs') b' bs' n :=
    ⟨callB_of n h.ts (TB_goodIn Y' cb.1) rfl rfl rfl (h.ts _ cb.2.1) (h.ts _ hl) ⟨cb.2.2.2.1, cb.2.2.2.2.1, cb.2.2.2.2.2⟩ hr.r, h.ts _ ct.1, h.ts _ ct.2⟩
  have hrecv := vk_recv h.ks.2.2.2.2.2.2.1 hi h.S
  rw [← hci] at hrecv
  refine E_ofRun (rest := rest) h (va_runV (As := As.map (cv X)) (rest := rest.map (cv X)) (b := X.2.2 (1000000 + i)) ⟨h.hx, h.hb, h.hml, h.own, h.ts⟩ (E_met cb hls hlen spec l X H.size) hcall ⟨PcE_blind X G M H.size _, hrecv, fun U hU hW => h.pre (.ref (1000000 + i) :: As) U hU hW⟩ rfl (by rw [List.length_map]; exact hn) h.lv.1 ?_ (st_room hroom) hd ⟨by have := h.cl; show _ ≤ mc; omega, by have := h.sl; show _ ≤ ms; omega⟩) hb hbs kk
  rw [hst, List.map_append, List.map_reverse]
  rfl
end EMore
