def R_law : String := "TruePollLaw"
def lw_P (b : Addr) (xs : List Int32) (args : Array Value) (s : State) : Prop := args = #[.ref b] ∧ s.IntsAt b xs ∧ xs.length ≤ 3072 ∧ (Jvm.Cond.and given_1 narrow_1).before args s = true
def lw_Q (_ : Array Value) (s : State) (o : Outcome) (t : State) : Prop := o = .returned (some (.int 1)) ∧ Framed s o t [] 600000 7302250
def lw_Z (below : List Frame) (a : Array Value) (s : State) : State → Prop := fun t => ∃ o, t.status = .running ∧ Ended t below o ∧ lw_Q a s o t
/-- the law's own end, with 1 on the stack, nothing written that was there before, its room as the claim has it -/
theorem lw_ret {p : Program} {l : Launch} {e : Env} {s : State} {m : MethodId} {below : List Frame} {meth : Method} {c : Code} {b : Nat} (hx : p.tables.exec = Jvm.exec) (hb : c.code = code) (hr : meth.sig.returnType = ret) (hlocks : meth.locks = false) {pc : Nat} {H : Heap} {ls : Array Slot} (hdg : decode code pc = .ok (.ireturn, 1)) : W p l e room_1 s m #[Value.ref b] below meth c H [] 600000 7302250 (lw_Z below #[Value.ref b] s) (F0 m pc ls [.int 1]) := by
  intro T hT X
  obtain ⟨fs, hret, hrun, hended, hW, hframe⟩ := X.leave (v := some (.int 1)) (hlocks := hlocks) (fun h => by rw [hr] at h; cases h)
  have hmeth' : T.vm.method? m = some meth := X.method'
  refine ⟨T.setFrames fs, ?_, .returned (some (.int 1)), hrun, hended, rfl, ⟨_, rfl⟩, hW, hframe⟩
  jvm_step X.here [X.here.top, hx, hb, hdg, hmeth', hr, ret, narrow_b1]
  (try refine ⟨rfl, ?_⟩); (try refine ⟨rfl, ?_⟩)
  first | (intro acts; rw [hret _ acts rfl rfl rfl]) | rw [hret _ _ rfl rfl rfl]
  exact Steps.refl _
/-- what holds at the law's entry: the machine, the code, the tables' words (any of lw_tbl by 'hts w (by decide +kernel)'), the script of L ints xs at the cell b, what the Statement gives of the start (any of its parts by flat_of_before) -/
def lw_At (p : Program) (s : State) (m : MethodId) (meth : Method) (c : Code) (b L : Nat) (xs : Nat → Int32) : Prop :=
  p.tables.exec = Jvm.exec ∧ c.code = code ∧ meth.sig.returnType = ret ∧ c.maxLocals = 4 ∧ s.vm.findClass R_law = some m.cls ∧ (∀ w ∈ lw_tbl, w.before #[Value.ref b] s = true) ∧ va_X b L xs s s.heap ∧ b < s.heap.size ∧ meth.locks = false ∧ (Jvm.Cond.and given_1 narrow_1).before #[Value.ref b] s = true
def LA (s : State) : Nat → Prop := fun q => s.heap.size ≤ q
/-- the law's two worlds: the class's (its cells may grow) and the model's -/
def LSt (s : State) (X1 X2 : WX) (G1 : Geo) (M1 M2 : Mem) (H : Heap) (locs : List Loc) : Prop :=
  (va_K X1.1 classes (tys X1) s ∧ KS X1 (LA s) s ∧ Wd X1 G1 M1 (LA s) H ∧ Fr X1 G1 H) ∧ (va_K X2.1 classes (tys X2) s ∧ KS X2 (LA s) s ∧ Wd X2 GM M2 (LA s) H) ∧
  (∀ k k', k < G1.1 → k' < 15 → X1.2.2 k ≠ X2.2.2 k') ∧ va_S (LA s) s.heap H locs
section LAW
variable {p : Program} {l : Launch} {e : Env} {s : State} {m : MethodId} {below : List Frame} {meth : Method} {c : Code} {bq L : Nat} {xs : Nat → Int32} {X1 X2 : WX} {G1 : Geo} {M1 M2 : Mem} {H : Heap} {locs : List Loc} {cells slots : Nat} {la : Array Slot} {pc : Nat} {st : List Value} {QF : State → Prop}
theorem lwTB (C0 : lw_At p s m meth c bq L xs) : ∀ w ∈ TB, w.before #[Value.ref bq] s = true := fun w hw => C0.2.2.2.2.2.1 w ((List.mem_filter.mp hw).1)
theorem lw_fix (C0 : lw_At p s m meth c bq L xs) : CallFix p m c code 4 s #[Value.ref bq] TB R_law := ⟨C0.1, C0.2.1, C0.2.2.2.1, C0.2.2.2.2.1, lwTB C0⟩
theorem wl_lt {X : WX} {G : Geo} {M : Mem} (h : va_P X.1 classes (wl X G M) H) {k : Nat} (hk : k < G.1) : X.2.2 k < H.size := (h k _ (wl_at X G M hk)).lt
theorem wl_in2 {X : WX} {G : Geo} {M : Mem} {sz q : Nat} (h : va_A (wl X G M) sz q) (hq : q < sz) : ∃ k, k < G.1 ∧ X.2.2 k = q := by
  rcases h with ⟨k, e, h⟩ | h
  · have hk : k < G.1 := by
      have := (List.getElem?_eq_some_iff.mp h).1
      simpa [wl] using this
    rw [wl_at X G M hk] at h
    exact ⟨k, hk, congrArg Prod.fst (Option.some.inj h)⟩
  · omega
/-- a call of the class's method out of the law -/
theorem L_cls (C0 : lw_At p s m meth c bq L xs) (hS : LSt s X1 X2 G1 M1 M2 H locs) {idx n d' b' bs' : Nat} {Y' : MI} {As : List Value} {rest : List Value} {ls' : List (Option Value)} {Q' : Option Value → Geo → Mem → Prop}
    (spec : E d' b' bs' Y' 0 ls' [] G1 M1 Q') (hd : decode code pc = .ok (.invokevirtual idx, 3)) (hl : Cond.methodLink R_law idx Y'.1 ∈ TB) (cb : CB Y' n) (ct : CVt Y') (hci : clC 8 = Y'.1.cls) (hsh : Sh G1 0 (0, 8)) (hn : As.length = n) (hr : d' ≤ 300 ∧ Y'.2.2.1 ≤ 40)
    (hls : el Y'.2.2.1 (.ref 0 :: As) = ls') (hlen : ((Value.ref 0 :: As).flatMap el1).length ≤ Y'.2.2.1) (hst : st = (As.map (cv X1)).reverse ++ .ref (X1.2.2 0) :: rest) (hroom : (rest.map fun v => v.category).sum ≤ 8) (hsz : la.size = 4) (hb : cells + b' ≤ 600000 ∧ slots + bs' ≤ 7302250)
    (kk : ∀ v G' M' H' locs', Q' v G' M' → LSt s X1 X2 G' M' M2 H' locs' → W p l e room_1 s m #[Value.ref bq] below meth c H' locs' (cells + b') (slots + bs') QF (F0 m (pc + 3) la ((v.map (cv X1)).toList ++ rest))) : W p l e room_1 s m #[Value.ref bq] below meth c H locs cells slots QF (F0 m pc la st) := by
  obtain ⟨⟨k1, k2, k3, k4⟩, ⟨m1, m2, m3⟩, hdj, hSS⟩ := hS
  have hts := lwTB C0
  have hcall : CallW room_1 s #[Value.ref bq] R_law Y'.1.cls idx Y'.1 Y'.2.1 Y'.2.2.1 Y'.2.2.2 (Cond.code Y'.1 Y'.2.1 Y'.2.2.1 Y'.2.2.2 :: TB) (Rm d' b' bs') b' bs' n := by
    refine ⟨callB_of n hts (TB_goodIn Y' cb.1) rfl rfl rfl (hts _ cb.2.1) (hts _ hl) ⟨cb.2.2.2.1, cb.2.2.2.2.1, cb.2.2.2.2.2⟩ ⟨?_, ?_⟩, hts _ ct.1, hts _ ct.2⟩
    · show d' + 1 ≤ 2048; omega
    · show 8 + (Y'.2.2.1 + 11) + (60 * d' + 100) ≤ 84000; omega
  have hrecv := va_recv k1 k3.1 (cl_at 8 (by decide)) (wl_sh X1 G1 M1 hsh)
  rw [show (clC 8, clT 8, clN 8).1 = Y'.1.cls from hci] at hrecv
  have hA2 : ∀ q, va_A (wl X1 G1 M1) H.size q → LA s q := wl_va X1 G1 M1 H.size k3.2 (fun q hq => Nat.le_trans hSS.1 hq)
  have hrun := va_runV (As := As.map (cv X1)) (rest := rest) (b := X1.2.2 0) (l := l) (e := e) (below := below) (meth := meth) (cells := cells) (slots := slots) (locs := locs) (R := room_1) (g := F0 m pc la st) (H := H) (lw_fix C0) (E_met cb hls hlen spec l X1 H.size) hcall ⟨PcE_blind X1 G1 M1 H.size _, hrecv, fun U hU hW => ?_⟩ rfl (by rw [List.length_map]; exact hn) hsz hst (lv_room hroom) hd hb
  · intro T hT XX
    obtain ⟨v, st₀, t, T', Lo, h0, X', hL, e1, e2, ⟨v', G', M', hv, hq, hw, hfr, hF⟩, stp⟩ := hrun T hT XX
    cases hv
    obtain ⟨hz, hk⟩ := hF
    rw [h0] at hz hk
    have hS2 : va_S (LA s) s.heap T'.heap (locs ++ Lo) := ⟨Nat.le_trans hSS.1 (by rw [e1]; exact hz), fun q h1 h2 => by rw [e1, hk q (Nat.lt_of_lt_of_le h1 hSS.1) (fun z => h2 (hA2 q z))]; exact hSS.2.1 q h1 h2, fun q hq => by
      rcases List.mem_append.mp hq with z | z
      · exact hSS.2.2 q z
      · exact hA2 _ (hL q z)⟩
    have keep : ∀ (k : Nat) (x : Nat × va_E), (wl X2 GM M2)[k]? = some x → T'.heap[x.1]? = H[x.1]? := fun k x hx => by
      have hlt := (m3.1 k x hx).lt
      rw [e1]
      refine hk x.1 hlt (fun z => ?_)
      obtain ⟨j, hj, hje⟩ := wl_in2 z hlt
      have hk15 : k < 15 := by
        have := (List.getElem?_eq_some_iff.mp hx).1
        simpa [wl, GM] using this
      rw [wl_at X2 GM M2 (show k < GM.1 from hk15)] at hx
      exact hdj j k hj hk15 (hje.trans (congrArg Prod.fst (Option.some.inj hx)).symm)
    have hAq : ∀ q, va_A (wl X1 G1 M1) H.size q → LA s q := hA2
    have nS : LSt s X1 X2 G' M' M2 T'.heap (locs ++ Lo) := by
      refine ⟨⟨k1, k2, ⟨by rw [e1]; exact hw.1, hw.2.weaken (fun _ q _ z => hA2 q.1 z)⟩, by rw [e1]; exact hfr⟩, ⟨m1, m2, ⟨m3.1.kept keep, m3.2⟩⟩, fun k k' hk1 hk2 z => ?_, hS2⟩
      have hin := hw.2.2 k _ (wl_at X1 G' M' hk1)
      have hlt := wl_lt m3.1 (show k' < GM.1 from hk2)
      rcases Nat.lt_or_ge (X1.2.2 k) H.size with y | y
      · obtain ⟨j, hj, hje⟩ := wl_in2 hin y
        exact hdj j k' hj hk2 (hje.trans z)
      · omega
    obtain ⟨t2, a1, b1⟩ := kk v' G' M' T'.heap (locs ++ Lo) hq nS T' rfl X'
    exact ⟨t2, stp t2 a1, b1⟩
  · exact ⟨rfl, by rw [hU], ⟨by rw [hU]; exact k3.1, k3.2.weaken (fun _ _ _ _ => trivial)⟩, va_K.moved hW.alike k1, k2.warm hW hU (fun a h1 h2 => hSS.2.1 a h1 h2) hA2, by rw [hU]; exact k4⟩
/-- the model's own map, its free addresses behind the heap that stands now -/
def mX (X : WX) (sz : Nat) : WX := (X.1, X.2.1, fun k => if 15 ≤ k ∧ k < 1000000 then sz + (k - 15) else X.2.2 k)
theorem mX_lo (X : WX) (sz : Nat) {k : Nat} (h : k < 15 ∨ 1000000 ≤ k) : (mX X sz).2.2 k = X.2.2 k := if_neg (by omega)
theorem mX_wl (X : WX) (sz : Nat) {M : Mem} (hR : MR M) : wl (mX X sz) GM M = wl X GM M := by
  unfold wl
  refine List.map_congr_left fun k hk => ?_
  have hk : k < 15 := List.mem_range.mp hk
  rw [mX_lo X sz (Or.inl hk)]
  have : ecell (mX X sz) M (GM.2 k) k = ecell X M (GM.2 k) k := by
    by_cases q : k = 0
    · subst q
      show (Sum.inr (9, (List.range (clN 9)).map (fval (mX X sz) M 9 0)) : va_E) = Sum.inr (9, (List.range (clN 9)).map (fval X M 9 0))
      have e : (List.range (clN 9)).map (fval (mX X sz) M 9 0) = (List.range (clN 9)).map (fval X M 9 0) := List.map_congr_left fun j hj => by
        unfold fval
        by_cases q2 : fk 9 j = 2
        · have hr := hR j q2
          have h15 : rmT j < 15 := by unfold rmT; split <;> decide
          rw [q2, hr]
          show va_rf (some ((mX X sz).2.2 (rmT j))) = va_rf (some (X.2.2 (rmT j)))
          rw [mX_lo X sz (Or.inl h15)]
        · split
          · rfl
          · rename_i z; exact absurd z q2
          · rfl
      rw [e]
    · rcases (show k = 1 ∨ k = 2 ∨ k = 3 ∨ k = 4 ∨ k = 5 ∨ k = 6 ∨ k = 7 ∨ k = 8 ∨ k = 9 ∨ k = 10 ∨ k = 11 ∨ k = 12 ∨ k = 13 ∨ k = 14 by omega) with rfl | rfl | rfl | rfl | rfl | rfl | rfl | rfl | rfl | rfl | rfl | rfl | rfl | rfl <;> rfl
  rw [this]
theorem mX_KS (X : WX) (sz : Nat) {A : Nat → Prop} (h : KS X A s) : KS (mX X sz) A s := by
  obtain ⟨h1, h2, h3, h4, h5, h6, h7, h8, v, h9, h10⟩ := h
  refine ⟨h1, h2, h3, h4, ?_, ?_, ?_, h8, v, h9, ?_⟩
  · rw [mX_lo X sz (Or.inr (by decide))]; exact h5
  · rw [mX_lo X sz (Or.inr (by decide))]; exact h6
  · have e1 : (fun i => (mX X sz).2.2 (1000000 + i)) = fun i => X.2.2 (1000000 + i) := funext fun i => mX_lo X sz (Or.inr (by omega))
    have e2 : (fun i => (mX X sz).2.2 (2000000 + i)) = fun i => X.2.2 (2000000 + i) := funext fun i => mX_lo X sz (Or.inr (by omega))
    rw [e1, e2]; exact h7
  · rcases h9 with rfl | rfl
    · exact h10
    · show va_Z _ _ _ (.ref ((mX X sz).2.2 3000000)) A s s.heap
      rw [mX_lo X sz (Or.inr (by decide))]
      exact h10
/-- a call of the model's method out of the law -/
theorem L_mod (C0 : lw_At p s m meth c bq L xs) (hS : LSt s X1 X2 G1 M1 M2 H locs) (hR : MR M2) {idx n d' : Nat} {Y' : MI} {As : List Value} {rest : List Value} {ls' : List (Option Value)} {Q' : Option Value → Geo → Mem → Prop}
    (spec : E d' 0 0 Y' 0 ls' [] GM M2 Q') (hQ : ∀ v G' M', Q' v G' M' → G' = GM ∧ MR M') (hd : decode code pc = .ok (.invokevirtual idx, 3)) (hl : Cond.methodLink R_law idx Y'.1 ∈ TB) (cb : CB Y' n) (ct : CVt Y') (hci : clC 9 = Y'.1.cls) (hn : As.length = n) (hr : d' ≤ 300 ∧ Y'.2.2.1 ≤ 40)
    (hls : el Y'.2.2.1 (.ref 0 :: As) = ls') (hlen : ((Value.ref 0 :: As).flatMap el1).length ≤ Y'.2.2.1) (hnr : As.map (cv (mX X2 H.size)) = As) (hst : st = As.reverse ++ .ref (X2.2.2 0) :: rest) (hroom : (rest.map fun v => v.category).sum ≤ 8) (hsz : la.size = 4) (hb : cells ≤ 600000 ∧ slots ≤ 7302250)
    (kk : ∀ v M' H' locs', Q' v GM M' → LSt s X1 X2 G1 M1 M' H' locs' → W p l e room_1 s m #[Value.ref bq] below meth c H' locs' cells slots QF (F0 m (pc + 3) la ((v.map (cv (mX X2 H.size))).toList ++ rest))) : W p l e room_1 s m #[Value.ref bq] below meth c H locs cells slots QF (F0 m pc la st) := by
  obtain ⟨⟨k1, k2, k3, k4⟩, ⟨m1, m2, m3⟩, hdj, hSS⟩ := hS
  have hts := lwTB C0
  generalize hY : mX X2 H.size = Y at *
  have hwl : ∀ M, MR M → wl Y GM M = wl X2 GM M := fun M h => by rw [← hY]; exact mX_wl X2 H.size h
  have y0 : Y.2.2 0 = X2.2.2 0 := by rw [← hY]; exact mX_lo X2 H.size (Or.inl (by decide))
  have yk : va_K Y.1 classes (tys Y) s := by rw [← hY]; exact m1
  have yK : KS Y (LA s) s := by rw [← hY]; exact mX_KS X2 H.size m2
  have y1 : Y.1 = X2.1 := by rw [← hY]; rfl
  have yP : va_P Y.1 classes (wl Y GM M2) H := by rw [hwl M2 hR, y1]; exact m3.1
  have yD : va_D (LA s) (wl Y GM M2) := by rw [hwl M2 hR]; exact m3.2
  have yF : Fr Y GM H := ⟨by decide, fun k k1 k2 => by rw [← hY]; exact if_pos ⟨k1, k2⟩⟩
  have hcall : CallW room_1 s #[Value.ref bq] R_law Y'.1.cls idx Y'.1 Y'.2.1 Y'.2.2.1 Y'.2.2.2 (Cond.code Y'.1 Y'.2.1 Y'.2.2.1 Y'.2.2.2 :: TB) (Rm d' 0 0) 0 0 n := by
    refine ⟨callB_of n hts (TB_goodIn Y' cb.1) rfl rfl rfl (hts _ cb.2.1) (hts _ hl) ⟨cb.2.2.2.1, cb.2.2.2.2.1, cb.2.2.2.2.2⟩ ⟨?_, ?_⟩, hts _ ct.1, hts _ ct.2⟩
    · show d' + 1 ≤ 2048; omega
    · show 8 + (Y'.2.2.1 + 11) + (60 * d' + 100) ≤ 84000; omega
  have hrecv := va_recv yk yP (cl_at 9 (by decide)) (wl_sh Y GM M2 (a := 0) (x := (0, 9)) ⟨by decide, rfl⟩)
  rw [show (clC 9, clT 9, clN 9).1 = Y'.1.cls from hci] at hrecv
  have hA2 : ∀ q, va_A (wl Y GM M2) H.size q → LA s q := wl_va Y GM M2 H.size yD (fun q hq => Nat.le_trans hSS.1 hq)
  have hrun := va_runV (As := As.map (cv Y)) (rest := rest) (b := Y.2.2 0) (l := l) (e := e) (below := below) (meth := meth) (cells := cells) (slots := slots) (locs := locs) (R := room_1) (g := F0 m pc la st) (H := H) (lw_fix C0) (E_met cb hls hlen spec l Y H.size) hcall ⟨PcE_blind Y GM M2 H.size _, hrecv, fun U hU hW => ?_⟩ rfl (by rw [List.length_map]; exact hn) hsz (by show st = _; rw [hst, hnr, y0]) (lv_room hroom) hd hb
  · intro T hT XX
    obtain ⟨v, st₀, t, T', Lo, h0, X', hL, e1, e2, ⟨v', G', M', hv, hq, hw, hfr, hF⟩, stp⟩ := hrun T hT XX
    cases hv
    obtain ⟨rfl, hR'⟩ := hQ v' G' M' hq
    obtain ⟨hz, hk⟩ := hF
    rw [h0] at hz hk
    have hS2 : va_S (LA s) s.heap T'.heap (locs ++ Lo) := ⟨Nat.le_trans hSS.1 (by rw [e1]; exact hz), fun q h1 h2 => by rw [e1, hk q (Nat.lt_of_lt_of_le h1 hSS.1) (fun z => h2 (hA2 q z))]; exact hSS.2.1 q h1 h2, fun q hq => by
      rcases List.mem_append.mp hq with z | z
      · exact hSS.2.2 q z
      · exact hA2 _ (hL q z)⟩
    have hsz2 : t.heap.size = H.size := by
      have a := hfr.2 15 (by decide) (by decide)
      have b := yF.2 15 (by decide) (by decide)
      have e15 : GM.1 = 15 := rfl
      omega
    have keep : ∀ (k : Nat) (x : Nat × va_E), (wl X1 G1 M1)[k]? = some x → T'.heap[x.1]? = H[x.1]? := fun k x hx => by
      have hlt := (k3.1 k x hx).lt
      rw [e1]
      refine hk x.1 hlt (fun z => ?_)
      obtain ⟨j, hj, hje⟩ := wl_in2 z hlt
      have hk1 : k < G1.1 := by
        have := (List.getElem?_eq_some_iff.mp hx).1
        simpa [wl] using this
      rw [wl_at X1 G1 M1 hk1] at hx
      have hj15 : j < 15 := hj
      have ej : Y.2.2 j = X2.2.2 j := by rw [← hY]; exact mX_lo X2 H.size (Or.inl hj15)
      exact hdj k j hk1 hj15 ((congrArg Prod.fst (Option.some.inj hx)).trans (hje.symm.trans ej))
    have nS : LSt s X1 X2 G1 M1 M' T'.heap (locs ++ Lo) := by
      refine ⟨⟨k1, k2, ⟨k3.1.kept keep, k3.2⟩, ⟨k4.1, fun k a b => by rw [e1, hsz2]; exact k4.2 k a b⟩⟩, ⟨m1, m2, ⟨?_, ?_⟩⟩, hdj, hS2⟩
      · rw [e1, ← y1, ← hwl M' hR']; exact hw.1
      · rw [← hwl M' hR']; exact hw.2.weaken (fun _ q _ z => hA2 q.1 z)
    obtain ⟨t2, a1, b1⟩ := kk v' M' T'.heap (locs ++ Lo) hq nS T' rfl X'
    exact ⟨t2, stp t2 a1, b1⟩
  · exact ⟨rfl, by rw [hU], ⟨by rw [hU]; exact yP, yD.weaken (fun _ _ _ _ => trivial)⟩, va_K.moved hW.alike yk, yK.warm hW hU (fun a h1 h2 => hSS.2.1 a h1 h2) hA2, by rw [hU]; exact yF⟩
end LAW
