theorem TBn_warm : ∀ w ∈ TBn, ∀ s U : State, s.WarmedH U.vm → va_Nw w s → va_Nw w U := by
  unfold TBn
  repeat (refine List.forall_mem_cons.mpr ⟨fun s U hW h => va_Nw.warmM hW h, ?_⟩)
  exact fun _ h => absurd h List.not_mem_nil
theorem TBn_same : ∀ w ∈ TBn, ∀ s U : State, s.vm = U.vm → va_Nw w s → va_Nw w U := by
  unfold TBn
  repeat (refine List.forall_mem_cons.mpr ⟨fun s U hW h => va_Nw.same rfl hW h, ?_⟩)
  exact fun _ h => absurd h List.not_mem_nil
theorem KS.warm {X : WX} {A B : Nat → Prop} {s U : State} {H : Heap} (h : KS X A s) (hW : s.WarmedH U.vm) (hH : U.heap = H) (hk : ∀ a : Nat, a < s.heap.size → ¬ A a → H[a]? = s.heap[a]?) (hAB : ∀ q, B q → A q) : KS X B U := by
  obtain ⟨h1, h2, h3, h4, h5, h6, h7, h8, v, hv, h9⟩ := h
  subst hH
  exact ⟨fun w hw => TBn_warm w hw s U hW (h1 w hw), h2.moved hW.alike, h3.moved hW.alike, va_Nw.warmC hW h4, vk_R.warm hW h5, vk_R.warm hW h6, ((vk_S.moved hW.alike h7).kept hk).narrow hAB, ((va_Z.moved hW.alike h8).kept hk).narrow hAB, v, hv, ((va_Z.moved hW.alike h9).kept hk).narrow hAB⟩
theorem KS.same {X : WX} {A : Nat → Prop} {s U : State} (h : KS X A s) (hv : s.vm = U.vm) (hH : U.heap = s.heap) : KS X A U := by
  obtain ⟨h1, h2, h3, h4, h5, h6, h7, h8, v, hv9, h9⟩ := h
  have ha : s.vm.Alike U.vm := by rw [hv]; exact Vm.Alike.refl _
  exact ⟨fun w hw => TBn_same w hw s U hv (h1 w hw), h2.moved ha, h3.moved ha, va_Nw.same rfl hv h4, vk_R.same hv.symm h5, vk_R.same hv.symm h6, by rw [hH]; exact vk_S.moved ha h7, by rw [hH]; exact va_Z.moved ha h8, v, hv9, by rw [hH]; exact va_Z.moved ha h9⟩
def el1 (v : Value) : List (Option Value) := if v.category = 2 then [some v, none] else [some v]
def el (nL : Nat) (As : List Value) : List (Option Value) := As.flatMap el1 ++ List.replicate (nL - (As.flatMap el1).length) none
theorem lg_len (X : WX) (As : List Value) : (lg_sl (As.map (cv X))).length = (As.flatMap el1).length := by
  induction As with
  | nil => rfl
  | cons v As ih =>
    simp only [lg_sl, List.map_cons, List.flatMap_cons, List.length_append] at ih ⊢
    rw [ih, cat_cv2]
    unfold el1
    split <;> rfl
theorem lg_at (X : WX) (As : List Value) : ∀ (k : Nat) (v : Value), (As.flatMap el1)[k]? = some (some v) → (lg_sl (As.map (cv X)))[k]? = some (.val (cv X v)) := by
  induction As with
  | nil => intro k v h; simp at h
  | cons u As ih =>
    intro k v h
    rw [List.flatMap_cons] at h
    have e : lg_sl ((u :: As).map (cv X)) = (if u.category = 2 then [.val (cv X u), .second] else [.val (cv X u)]) ++ lg_sl (As.map (cv X)) := by
      simp only [lg_sl, List.map_cons, List.flatMap_cons, cat_cv2]
    rw [e]
    by_cases hc : u.category = 2
    · rw [show el1 u = [some u, none] from if_pos hc] at h
      rw [if_pos hc]
      match k with
      | 0 => simp at h ⊢; rw [h]
      | 1 => simp at h
      | k + 2 => exact ih k v (by simpa using h)
    · rw [show el1 u = [some u] from if_neg hc] at h
      rw [if_neg hc]
      match k with
      | 0 => simp at h ⊢; rw [h]
      | k + 1 => exact ih k v (by simpa using h)
theorem Lv_entry (X : WX) (As : List Value) (nL : Nat) (h : (As.flatMap el1).length ≤ nL) : Lv X ((lg_sl (As.map (cv X)) ++ List.replicate (nL - (lg_sl (As.map (cv X))).length) Slot.unset).toArray) nL (el nL As) := by
  have h0 := lv_entry (As.map (cv X)) (n := nL) (by rw [lg_len]; exact h)
  refine ⟨h0.1, h0.2.1, by unfold el; rw [List.length_append, List.length_replicate]; omega, fun k v hk => ?_⟩
  unfold el at hk
  by_cases hlt : k < (As.flatMap el1).length
  · rw [List.getElem?_append_left hlt] at hk
    rw [List.getElem?_toArray, List.getElem?_append_left (by rw [lg_len]; exact hlt)]
    exact lg_at X As k v hk
  · rw [List.getElem?_append_right (by omega), List.getElem?_replicate] at hk
    split at hk <;> cases hk
theorem wl_va (X : WX) (G : Geo) (M : Mem) (sz : Nat) {A : Nat → Prop} (hD : va_D A (wl X G M)) (hA : ∀ q, sz ≤ q → A q) : ∀ q, va_A (wl X G M) sz q → A q := by
  intro q hq
  rcases hq with ⟨k, e, h⟩ | h
  · exact hD.2 k _ h
  · exact hA q h
theorem TB_goodIn (Y : MI) (h : Cond.code Y.1 Y.2.1 Y.2.2.1 Y.2.2.2 ∈ TB) : GoodIn TB (Cond.code Y.1 Y.2.1 Y.2.2.1 Y.2.2.2 :: TB) := by
  intro w hw
  rcases List.mem_cons.mp hw with rfl | hw
  · exact ⟨h, TB_good h⟩
  · exact ⟨hw, TB_good hw⟩
def PcE (X : WX) (G : Geo) (M : Mem) (sz : Nat) (As : List Value) : Array Value → State → Prop := va_Pc (As.map (cv X)) (fun U => U.heap.size = sz ∧ Wd X G M (fun _ => True) U.heap ∧ va_K X.1 classes (tys X) U ∧ KS X (va_A (wl X G M) sz) U ∧ Fr X G U.heap)
theorem PcE_blind (X : WX) (G : Geo) (M : Mem) (sz : Nat) (As : List Value) : FrameBlind (PcE X G M sz As) := by
  intro a U g mk q
  obtain ⟨q0, q1, q2, q3, q4, q5⟩ := q
  exact ⟨q0, q1, q2, va_K.moved (u := U) (U := U.calling g mk a) (Vm.Alike.refl U.vm) q3, q4.same rfl rfl, q5⟩
theorem E_met {d b bs n : Nat} {Y : MI} {G : Geo} {M : Mem} {As : List Value} {ls : List (Option Value)} {Q : Option Value → Geo → Mem → Prop} (cb : CB Y n) (hls : el Y.2.2.1 As = ls) (hlen : (As.flatMap el1).length ≤ Y.2.2.1) (spec : E d b bs Y 0 ls [] G M Q) (l : Launch) (X : WX) (sz : Nat) :
    Met l Y.1 (Cond.code Y.1 Y.2.1 Y.2.2.1 Y.2.2.2 :: TB) (Rm d b bs) (PcE X G M sz As) (QE X (va_A (wl X G M) sz) Q) b bs (va_A (wl X G M) sz) := by
  subst hls
  refine Met.ofW (cc := Y.2.1) (maxL := Y.2.2.1) (ret := Y.2.2.2) cb.2.2.1 rfl ?_
  intro p e s m args below meth c s₁ B hml hv
  obtain ⟨hargs, hsz, hW, hK, hKS, hFr⟩ := hv
  subst hargs
  subst hsz
  have hts := atoms_spec (ws := Cond.code Y.1 Y.2.1 Y.2.2.1 Y.2.2.2 :: TB) B.pre
  rw [lg_entry_eq]
  refine spec p l e s m _ below meth c X (va_A (wl X G M) s.heap.size) b bs 0 0 s.heap [] _ ⟨⟨B.exec, B.bytes, B.returns, hml, fun w hw => hts w (List.mem_cons_of_mem _ hw), findClass_of_methodNamed B.named, B.notSynchronized, (name_of_methodNamed B.named B.method).1⟩, hK, hKS, ⟨hW.1, hW.2.self⟩, va_S.rf, fun q h => Or.inr h, hFr, Lv_entry X As Y.2.2.1 hlen, by omega, by omega⟩
section ECall
variable {d b bs : Nat} {Y : MI} {pc : Nat} {ls : List (Option Value)} {st : List Value} {G : Geo} {M : Mem} {Q : Option Value → Geo → Mem → Prop}
theorem E_ofRun {b' bs' b2 bs2 : Nat} {rest : List Value} {Q' : Option Value → Geo → Mem → Prop}
    {p : Program} {l : Launch} {e : Env} {s : State} {m : MethodId} {args : Array Value} {below : List Frame} {meth : Method} {c : Code} {X : WX} {A : Nat → Prop} {mc ms cells slots : Nat} {H : Heap} {locs : List Loc} {la : Array Slot} {av : Array Value} {st0 : List Value}
    (h : Cc b bs Y ls G M p s m args meth c X A mc ms cells slots H locs la)
    (hrun : va_Run p l e (Rm d mc ms) s m args below meth c H locs cells slots b' bs' (F0 m pc la st0) (rest.map (cv X)) (QE X (va_A (wl X G M) H.size) Q' av) (va_A (wl X G M) H.size))
    (hb : b' + b2 ≤ b) (hbs : bs' + bs2 ≤ bs)
    (kk : ∀ v G' M', Q' v G' M' → E d b2 bs2 Y (pc + 3) ls (v.toList ++ rest) G' M' Q) :
    W p l e (Rm d mc ms) s m args below meth c H locs cells slots (MQ below (QE X A Q) args s mc ms A) (F0 m pc la st0) := by
  intro T hT XX
  obtain ⟨v, st₀, t, T', L, h0, X', hL, e1, e2, ⟨v', G', M', hv, hq, hw, hfr, hF⟩, st⟩ := hrun T hT XX
  cases hv
  have hA2 := wl_va X G M H.size h.D (fun q hq => h.hA q (Nat.le_trans h.S.1 hq))
  obtain ⟨hz, hk⟩ := hF
  rw [h0] at hz hk
  have hS2 : va_S A s.heap T'.heap (locs ++ L) := ⟨Nat.le_trans h.S.1 (by rw [e1]; exact hz), fun q h1 h2 => by rw [e1, hk q (Nat.lt_of_lt_of_le h1 h.S.1) (fun z => h2 (hA2 q z))]; exact h.S.2.1 q h1 h2, fun q hq => by
      rcases List.mem_append.mp hq with z | z
      · exact h.S.2.2 q z
      · exact hA2 _ (hL q z)⟩
  obtain ⟨t2, a1, b1⟩ := kk v' G' M' hq p l e s m args below meth c X A mc ms (cells + b') (slots + bs') T'.heap (locs ++ L) la ⟨h.1, h.K, h.ks, ⟨by rw [e1]; exact hw.1, hw.2.weaken (fun _ q _ z => hA2 q.1 z)⟩, hS2, h.hA, by rw [e1]; exact hfr, h.lv, by have := h.cl; omega, by have := h.sl; omega⟩ T' rfl X'
  refine ⟨t2, st t2 ?_, b1⟩
  have e3 : (v'.map (cv X)).toList ++ rest.map (cv X) = (v'.toList ++ rest).map (cv X) := by cases v' <;> rfl
  rw [e3]
  exact a1
theorem Cc.pre {p : Program} {s : State} {m : MethodId} {args : Array Value} {meth : Method} {c : Code} {X : WX} {A : Nat → Prop} {mc ms cells slots : Nat} {H : Heap} {locs : List Loc} {la : Array Slot} (h : Cc b bs Y ls G M p s m args meth c X A mc ms cells slots H locs la) (As : List Value) (U : State) (hU : U.heap = H) (hW : s.WarmedH U.vm) : PcE X G M H.size As (As.map (cv X)).toArray U := by
  have hA2 := wl_va X G M H.size h.D (fun q hq => h.hA q (Nat.le_trans h.S.1 hq))
  exact ⟨rfl, by rw [hU], ⟨by rw [hU]; exact h.P, h.D.weaken (fun _ _ _ _ => trivial)⟩, va_K.moved hW.alike h.K, h.ks.warm hW hU (fun a h1 h2 => h.S.2.1 a h1 h2) hA2, by rw [hU]; exact h.fr⟩
def rmok (d d' nL : Nat) : Prop := d' + 1 ≤ d ∧ nL ≤ 40
theorem rmok.r {d d' nL mc ms b' bs' : Nat} (h : rmok d d' nL) : (Rm d' b' bs').frames + 1 ≤ (Rm d mc ms).frames ∧ 8 + (nL + 11) + (Rm d' b' bs').locals ≤ (Rm d mc ms).locals := by
  have h1 := h.1
  have h2 := h.2
  refine ⟨h1, ?_⟩
  show 8 + (nL + 11) + (60 * d' + 100) ≤ 60 * d + 100
  omega
theorem st_room {X : WX} {pc : Nat} {la : Array Slot} {m : MethodId} {rest : List Value} {r0 : List Value} (h : (rest.map fun v => v.category).sum ≤ 8) : 2 * (F0 m pc la r0).monitorRoom + ((rest.map (cv X)).map fun v => v.category).sum ≤ 8 := by
  have e : ((rest.map (cv X)).map fun v => v.category) = rest.map fun v => v.category := by
    rw [List.map_map]
    exact List.map_congr_left fun v _ => cat_cv2 X v
  exact lv_room (by rw [e]; exact h)
theorem E_callV {idx ci a n d' b' bs' b2 bs2 : Nat} {Y' : MI} {As rest : List Value} {ls' : List (Option Value)} {Q' : Option Value → Geo → Mem → Prop}
    (hd : decode Y.2.1 pc = .ok (.invokevirtual idx, 3)) (hl : Cond.methodLink Y.1.cls idx Y'.1 ∈ TB) (cb : CB Y' n) (ct : CVt Y') (hs : Sh G a (0, ci)) (hci : ci < NC ∧ clC ci = Y'.1.cls) (hn : As.length = n) (hr : rmok d d' Y'.2.2.1)
    (hls : el Y'.2.2.1 (.ref a :: As) = ls') (hlen : ((Value.ref a :: As).flatMap el1).length ≤ Y'.2.2.1) (hst : st = As.reverse ++ .ref a :: rest) (hroom : (rest.map fun v => v.category).sum ≤ 8) (hb : b' + b2 ≤ b) (hbs : bs' + bs2 ≤ bs)
    (spec : E d' b' bs' Y' 0 ls' [] G M Q') (kk : ∀ v G' M', Q' v G' M' → E d b2 bs2 Y (pc + 3) ls (v.toList ++ rest) G' M' Q) : E d b bs Y pc ls st G M Q := by
  intro p l e s m args below meth c X A mc ms cells slots H locs la h
  have hcall : CallW (Rm d mc ms) s args Y.1.cls Y'.1.cls idx Y'.1 Y'.2.1 Y'.2.2.1 Y'.2.2.2 (Cond.code Y'.1 Y'.2.1 Y'.2.2.1 Y'.2.2.2 :: TB) (Rm d' b' bs') b' bs' n :=
    ⟨callB_of n h.ts (TB_goodIn Y' cb.1) rfl rfl rfl (h.ts _ cb.2.1) (h.ts _ hl) ⟨cb.2.2.2.1, cb.2.2.2.2.1, cb.2.2.2.2.2⟩ hr.r, h.ts _ ct.1, h.ts _ ct.2⟩
  have hrecv := va_recv h.K h.P (cl_at ci hci.1) (wl_sh X G M hs)
  rw [show (clC ci, clT ci, clN ci).1 = Y'.1.cls from hci.2] at hrecv
  refine E_ofRun (rest := rest) h (va_runV (As := As.map (cv X)) (rest := rest.map (cv X)) (b := X.2.2 a) ⟨h.hx, h.hb, h.hml, h.own, h.ts⟩ (E_met cb hls hlen spec l X H.size) hcall ⟨PcE_blind X G M H.size _, hrecv, fun U hU hW => h.pre (.ref a :: As) U hU hW⟩ rfl (by rw [List.length_map]; exact hn) h.lv.1 ?_ (st_room hroom) hd ⟨by have := h.cl; show _ ≤ mc; omega, by have := h.sl; show _ ≤ ms; omega⟩) hb hbs kk
  rw [hst, List.map_append, List.map_reverse]
  rfl
theorem E_callS {idx n d' b' bs' b2 bs2 : Nat} {Y' : MI} {As rest : List Value} {ls' : List (Option Value)} {Q' : Option Value → Geo → Mem → Prop}
    (hd : decode Y.2.1 pc = .ok (.invokestatic idx, 3)) (hl : Cond.methodLink Y.1.cls idx Y'.1 ∈ TB) (cb : CB Y' n) (ct : CSt Y') (hn : As.length = n) (hr : rmok d d' Y'.2.2.1)
    (hls : el Y'.2.2.1 As = ls') (hlen : (As.flatMap el1).length ≤ Y'.2.2.1) (hst : st = As.reverse ++ rest) (hroom : (rest.map fun v => v.category).sum ≤ 8) (hb : b' + b2 ≤ b) (hbs : bs' + bs2 ≤ bs)
    (spec : E d' b' bs' Y' 0 ls' [] G M Q') (kk : ∀ v G' M', Q' v G' M' → E d b2 bs2 Y (pc + 3) ls (v.toList ++ rest) G' M' Q) : E d b bs Y pc ls st G M Q := by
  intro p l e s m args below meth c X A mc ms cells slots H locs la h
  have hcall : CallB (Rm d mc ms) s args Y.1.cls idx Y'.1 Y'.2.1 Y'.2.2.1 Y'.2.2.2 (Cond.code Y'.1 Y'.2.1 Y'.2.2.1 Y'.2.2.2 :: TB) (Rm d' b' bs') b' bs' n ∧ (Cond.static Y'.1).before args s = true :=
    ⟨callB_of n h.ts (TB_goodIn Y' cb.1) rfl rfl rfl (h.ts _ cb.2.1) (h.ts _ hl) ⟨cb.2.2.2.1, cb.2.2.2.2.1, cb.2.2.2.2.2⟩ hr.r, h.ts _ ct⟩
  refine E_ofRun (rest := rest) h (va_runS (As := As.map (cv X)) (rest := rest.map (cv X)) ⟨h.hx, h.hb, h.hml, h.own, h.ts⟩ (E_met cb hls hlen spec l X H.size) hcall ⟨PcE_blind X G M H.size _, fun U hU hW => h.pre As U hU hW⟩ rfl (by rw [List.length_map]; exact hn) h.lv.1 ?_ (st_room hroom) hd ⟨by have := h.cl; show _ ≤ mc; omega, by have := h.sl; show _ ≤ ms; omega⟩) hb hbs kk
  rw [hst, List.map_append, List.map_reverse]
theorem E_callSN {idx n d' b' bs' b2 bs2 : Nat} {host : String} {Y' : MI} {As rest : List Value} {ls' : List (Option Value)} {Q' : Option Value → Geo → Mem → Prop}
    (hd : decode Y.2.1 pc = .ok (.invokestatic idx, 3)) (hl : Cond.methodLinkNest Y.1.cls idx Y'.1 host ∈ TBn) (cb : CB Y' n) (ct : CSt Y') (hn : As.length = n) (hr : rmok d d' Y'.2.2.1)
    (hls : el Y'.2.2.1 As = ls') (hlen : (As.flatMap el1).length ≤ Y'.2.2.1) (hst : st = As.reverse ++ rest) (hroom : (rest.map fun v => v.category).sum ≤ 8) (hb : b' + b2 ≤ b) (hbs : bs' + bs2 ≤ bs)
    (spec : E d' b' bs' Y' 0 ls' [] G M Q') (kk : ∀ v G' M', Q' v G' M' → E d b2 bs2 Y (pc + 3) ls (v.toList ++ rest) G' M' Q) : E d b bs Y pc ls st G M Q := by
  intro p l e s m args below meth c X A mc ms cells slots H locs la h
  refine E_ofRun (rest := rest) h (va_runSN (host := host) (As := As.map (cv X)) (rest := rest.map (cv X)) ⟨h.hx, h.hb, h.hml, h.own, h.ts⟩ (E_met cb hls hlen spec l X H.size) ⟨va_cnB n h.ts (TB_goodIn Y' cb.1) rfl rfl rfl (h.ks.1 _ hl) (h.ts _ cb.2.1) ⟨cb.2.2.2.1, cb.2.2.2.2.1, cb.2.2.2.2.2⟩ hr.r, h.ts _ ct, trivial⟩ ⟨PcE_blind X G M H.size _, fun U hU hW => h.pre As U hU hW⟩ rfl (by rw [List.length_map]; exact hn) h.lv.1 ?_ (st_room hroom) hd ⟨by have := h.cl; show _ ≤ mc; omega, by have := h.sl; show _ ≤ ms; omega⟩) hb hbs kk
  rw [hst, List.map_append, List.map_reverse]
theorem E_callI {idx a n d' b' bs' b2 bs2 : Nat} {y' : MethodName} {bt : ByteArray} {mL : Nat} {As rest : List Value} {ls' : List (Option Value)} {Q' : Option Value → Geo → Mem → Prop}
    (hd : decode Y.2.1 pc = .ok (.invokespecial idx, 3)) (hl : Cond.methodLink Y.1.cls idx y' ∈ TB) (cb : CB (y', bt, mL, none) n) (ct : CIt (y', bt, mL, none)) (hn : As.length = n) (hr : rmok d d' mL)
    (hls : el mL (.ref a :: As) = ls') (hlen : ((Value.ref a :: As).flatMap el1).length ≤ mL) (hst : st = As.reverse ++ .ref a :: rest) (hroom : (rest.map fun v => v.category).sum ≤ 8) (hb : b' + b2 ≤ b) (hbs : bs' + bs2 ≤ bs)
    (spec : E d' b' bs' (y', bt, mL, none) 0 ls' [] G M Q') (kk : ∀ v G' M', Q' v G' M' → E d b2 bs2 Y (pc + 3) ls (v.toList ++ rest) G' M' Q) : E d b bs Y pc ls st G M Q := by
  intro p l e s m args below meth c X A mc ms cells slots H locs la h
  refine E_ofRun (rest := rest) h (va_runI (As := As.map (cv X)) (rest := rest.map (cv X)) (b := X.2.2 a) ⟨h.hx, h.hb, h.hml, h.own, h.ts⟩ (E_met cb hls hlen spec l X H.size) ⟨callB_of n h.ts (TB_goodIn (y', bt, mL, none) cb.1) rfl rfl rfl (h.ts _ cb.2.1) (h.ts _ hl) ⟨cb.2.2.2.1, cb.2.2.2.2.1, cb.2.2.2.2.2⟩ hr.r, ct.2, h.ts _ ct.1⟩ ⟨PcE_blind X G M H.size _, fun U hU hW => h.pre (.ref a :: As) U hU hW⟩ rfl (by rw [List.length_map]; exact hn) h.lv.1 ?_ (st_room hroom) hd ⟨by have := h.cl; show _ ≤ mc; omega, by have := h.sl; show _ ≤ ms; omega⟩) hb hbs kk
  rw [hst, List.map_append, List.map_reverse]
  rfl
theorem E_callIN {idx a n d' b' bs' b2 bs2 : Nat} {host : String} {y' : MethodName} {bt : ByteArray} {mL : Nat} {As rest : List Value} {ls' : List (Option Value)} {Q' : Option Value → Geo → Mem → Prop}
    (hd : decode Y.2.1 pc = .ok (.invokespecial idx, 3)) (hl : Cond.methodLinkNest Y.1.cls idx y' host ∈ TBn) (cb : CB (y', bt, mL, none) n) (ct : CIt (y', bt, mL, none)) (hn : As.length = n) (hr : rmok d d' mL)
    (hls : el mL (.ref a :: As) = ls') (hlen : ((Value.ref a :: As).flatMap el1).length ≤ mL) (hst : st = As.reverse ++ .ref a :: rest) (hroom : (rest.map fun v => v.category).sum ≤ 8) (hb : b' + b2 ≤ b) (hbs : bs' + bs2 ≤ bs)
    (spec : E d' b' bs' (y', bt, mL, none) 0 ls' [] G M Q') (kk : ∀ v G' M', Q' v G' M' → E d b2 bs2 Y (pc + 3) ls (v.toList ++ rest) G' M' Q) : E d b bs Y pc ls st G M Q := by
  intro p l e s m args below meth c X A mc ms cells slots H locs la h
  refine E_ofRun (rest := rest) h (va_runIN (host := host) (As := As.map (cv X)) (rest := rest.map (cv X)) (b := X.2.2 a) ⟨h.hx, h.hb, h.hml, h.own, h.ts⟩ (E_met cb hls hlen spec l X H.size) ⟨va_cnB n h.ts (TB_goodIn (y', bt, mL, none) cb.1) rfl rfl rfl (h.ks.1 _ hl) (h.ts _ cb.2.1) ⟨cb.2.2.2.1, cb.2.2.2.2.1, cb.2.2.2.2.2⟩ hr.r, ct.2, h.ts _ ct.1⟩ ⟨PcE_blind X G M H.size _, fun U hU hW => h.pre (.ref a :: As) U hU hW⟩ rfl (by rw [List.length_map]; exact hn) h.lv.1 ?_ (st_room hroom) hd ⟨by have := h.cl; show _ ≤ mc; omega, by have := h.sl; show _ ≤ ms; omega⟩) hb hbs kk
  rw [hst, List.map_append, List.map_reverse]
  rfl
end ECall
