section EArr
variable {d b bs : Nat} {Y : MI} {pc : Nat} {ls : List (Option Value)} {st : List Value} {G : Geo} {M : Mem} {Q : Option Value → Geo → Mem → Prop}
def inA (i : Int32) (k n : Nat) : Prop := i = nI k ∧ k < n ∧ n < 2147483648
theorem inA.vp {i : Int32} {k n : Nat} (h : inA i k n) : vp_in i n := by
  rw [h.1]
  exact vp_in_nI h.2.1 h.2.2
theorem inA.cl {i : Int32} {k n : Nat} (h : inA i k n) : i.toNatClampNeg = k := by
  rw [h.1]
  exact nI_clamp (Nat.lt_trans h.2.1 h.2.2)
theorem inA.no {i : Int32} {k n : Nat} (h : inA i k n) : ¬ (i < 0 ∨ n ≤ i.toNatClampNeg) := h.vp
theorem E_iald {a n j : Nat} {i v : Int32} (hd : decode Y.2.1 pc = .ok (.iaload, 1)) (hs : Sh G a (1, n)) (hi : inA i j n) (hv : mI M a j = v) (kk : E d b bs Y (pc + 1) ls (.int v :: st) G M Q) : E d b bs Y pc ls (.int i :: .ref a :: st) G M Q := by
  intro p l e s m args below meth c X A mc ms cells slots H locs la h
  refine va_iald h.hx h.hb h.K h.P a 0 (wl_sh X G M hs) rfl hi.vp hd ?_
  rw [hi.cl, hv]
  exact kk p l e s m args below meth c X A mc ms cells slots H locs la h
theorem E_zald {a n j : Nat} {i v : Int32} (hd : decode Y.2.1 pc = .ok (.baload, 1)) (hs : Sh G a (3, n)) (hi : inA i j n) (hv : mI M a j = v) (kk : E d b bs Y (pc + 1) ls (.int v :: st) G M Q) : E d b bs Y pc ls (.int i :: .ref a :: st) G M Q := by
  intro p l e s m args below meth c X A mc ms cells slots H locs la h
  refine va_zald h.hx h.hb h.K h.P a 2 (wl_sh X G M hs) rfl hi.vp hd ?_
  rw [hi.cl, hv]
  exact kk p l e s m args below meth c X A mc ms cells slots H locs la h
theorem E_lald {a n j : Nat} {i : Int32} {v : Int64} (hd : decode Y.2.1 pc = .ok (.laload, 1)) (hs : Sh G a (2, n)) (hi : inA i j n) (hv : mL M a j = v) (kk : E d b bs Y (pc + 1) ls (.long v :: st) G M Q) : E d b bs Y pc ls (.int i :: .ref a :: st) G M Q := by
  intro p l e s m args below meth c X A mc ms cells slots H locs la h
  refine va_lald h.hx h.hb h.K h.P a 1 (wl_sh X G M hs) rfl hi.vp hd ?_
  rw [hi.cl, hv]
  exact kk p l e s m args below meth c X A mc ms cells slots H locs la h
def oV (r : Option Nat) : Value := match r with
  | none => .null
  | some q => .ref q
theorem oV_cv (X : WX) (r : Option Nat) : va_rf (r.map X.2.2) = cv X (oV r) := by cases r <;> rfl
theorem E_aald4 {a n j : Nat} {i : Int32} {r : Option Nat} (hd : decode Y.2.1 pc = .ok (.aaload, 1)) (hs : Sh G a (4, n)) (hi : inA i j n) (hv : mR M a j = r) (kk : E d b bs Y (pc + 1) ls (oV r :: st) G M Q) : E d b bs Y pc ls (.int i :: .ref a :: st) G M Q := by
  intro p l e s m args below meth c X A mc ms cells slots H locs la h
  refine va_aldq h.hx h.hb h.K h.P a 3 (wl_sh X G M hs) rfl hi.vp hd ?_
  rw [hi.cl, hv, oV_cv]
  exact kk p l e s m args below meth c X A mc ms cells slots H locs la h
theorem E_aald5 {a n j : Nat} {i : Int32} {r : Option Nat} (hd : decode Y.2.1 pc = .ok (.aaload, 1)) (hs : Sh G a (5, n)) (hi : inA i j n) (hv : mR M a j = r) (kk : E d b bs Y (pc + 1) ls (oV r :: st) G M Q) : E d b bs Y pc ls (.int i :: .ref a :: st) G M Q := by
  intro p l e s m args below meth c X A mc ms cells slots H locs la h
  refine va_aldq h.hx h.hb h.K h.P a 4 (wl_sh X G M hs) rfl hi.vp hd ?_
  rw [hi.cl, hv, oV_cv]
  exact kk p l e s m args below meth c X A mc ms cells slots H locs la h
theorem E_alen {a n t : Nat} {v : Int32} (hd : decode Y.2.1 pc = .ok (.arraylength, 1)) (hs : Sh G a (t, n)) (ht : 1 ≤ t ∧ t ≤ 5) (hv : nI n = v) (kk : E d b bs Y (pc + 1) ls (.int v :: st) G M Q) : E d b bs Y pc ls (.ref a :: st) G M Q := by
  intro p l e s m args below meth c X A mc ms cells slots H locs la h
  have hw := wl_sh X G M hs
  rcases (show t = 1 ∨ t = 2 ∨ t = 3 ∨ t = 4 ∨ t = 5 by omega) with rfl | rfl | rfl | rfl | rfl
  · exact va_alen h.hx h.hb h.K h.P a 0 hw rfl hv hd (kk p l e s m args below meth c X A mc ms cells slots H locs la h)
  · exact va_alen h.hx h.hb h.K h.P a 1 hw rfl hv hd (kk p l e s m args below meth c X A mc ms cells slots H locs la h)
  · exact va_alen h.hx h.hb h.K h.P a 2 hw rfl hv hd (kk p l e s m args below meth c X A mc ms cells slots H locs la h)
  · exact va_alen h.hx h.hb h.K h.P a 3 hw rfl hv hd (kk p l e s m args below meth c X A mc ms cells slots H locs la h)
  · exact va_alen h.hx h.hb h.K h.P a 4 hw rfl hv hd (kk p l e s m args below meth c X A mc ms cells slots H locs la h)
theorem mI_wI_at (a j : Nat) (x : Int32) : mI (wI M a j x) a = fun i => if i = j then x else mI M a i := upd2_at _
theorem mL_wL_at (a j : Nat) (x : Int64) : mL (wL M a j x) a = fun i => if i = j then x else mL M a i := upd2_at _
theorem mR_wR_at (a j : Nat) (x : Option Nat) : mR (wR M a j x) a = fun i => if i = j then x else mR M a i := upd2_at _
theorem E_iast {a n j : Nat} {i x : Int32} (hd : decode Y.2.1 pc = .ok (.iastore, 1)) (hs : Sh G a (1, n)) (hi : inA i j n) (kk : E d b bs Y (pc + 1) ls st G (wI M a j x) Q) : E d b bs Y pc ls (.int x :: .int i :: .ref a :: st) G M Q := by
  intro p l e s m args below meth c X A mc ms cells slots H locs la h
  have hcell := h.P a _ (wl_sh X G M hs)
  refine W.iast h.hx h.hb (a := X.2.2 a) (cell := arrV (X.2.1 0) n (fun j => .int (mI M a j))) hcell ((h.K.2 0 _ rfl).1 n (fun j => .int (mI M a j))) (fun q => by cases q) (by rw [arrV_size]; exact hi.no) rfl rfl hd fun H1 e1 z oq => ?_
  rw [hi.cl, arrV_store] at e1
  obtain ⟨w1, w2⟩ := Wd_upd (M' := wI M a j x) (H1 := H1) h.P h.D hs (by
    show H1[X.2.2 a]? = some (vp_cell (X.2.1 0) (n, .inl (mI (wI M a j x) a)))
    rw [e1, vp_cell_i, mI_wI_at]
    congr 2
    funext q
    by_cases hq : q = j
    · simp [updV, hq]
    · simp [updV, hq]) ec_wI oq
  exact kk p l e s m args below meth c X A mc ms cells slots H1 _ la (h.mem w1 w2 (h.S.put z oq (wl_in h.D hs)) z)
theorem E_zast {a n j : Nat} {i x : Int32} (hd : decode Y.2.1 pc = .ok (.bastore, 1)) (hs : Sh G a (3, n)) (hi : inA i j n) (hx : x = 0 ∨ x = 1) (kk : E d b bs Y (pc + 1) ls st G (wI M a j x) Q) : E d b bs Y pc ls (.int x :: .int i :: .ref a :: st) G M Q := by
  intro p l e s m args below meth c X A mc ms cells slots H locs la h
  have hcell := h.P a _ (wl_sh X G M hs)
  have hnx : narrow .boolean (.int x) = .int x := by rcases hx with rfl | rfl <;> rfl
  refine W.zast h.hx h.hb (a := X.2.2 a) (cell := arrV (X.2.1 2) n (fun j => .int (mI M a j))) hcell ((h.K.2 2 _ rfl).1 n (fun j => .int (mI M a j))) (fun q => by cases q) (by rw [arrV_size]; exact hi.no) rfl rfl hd fun H1 e1 z oq => ?_
  rw [hi.cl, hnx, arrV_store] at e1
  obtain ⟨w1, w2⟩ := Wd_upd (M' := wI M a j x) (H1 := H1) h.P h.D hs (by
    show H1[X.2.2 a]? = some (vp_cell (X.2.1 2) (n, .inl (mI (wI M a j x) a)))
    rw [e1, vp_cell_i, mI_wI_at]
    congr 2
    funext q
    by_cases hq : q = j
    · simp [updV, hq]
    · simp [updV, hq]) ec_wI oq
  exact kk p l e s m args below meth c X A mc ms cells slots H1 _ la (h.mem w1 w2 (h.S.put z oq (wl_in h.D hs)) z)
theorem E_last {a n j : Nat} {i : Int32} {x : Int64} (hd : decode Y.2.1 pc = .ok (.lastore, 1)) (hs : Sh G a (2, n)) (hi : inA i j n) (kk : E d b bs Y (pc + 1) ls st G (wL M a j x) Q) : E d b bs Y pc ls (.long x :: .int i :: .ref a :: st) G M Q := by
  intro p l e s m args below meth c X A mc ms cells slots H locs la h
  have hcell := h.P a _ (wl_sh X G M hs)
  refine W.last h.hx h.hb (a := X.2.2 a) (cell := arrV (X.2.1 1) n (fun j => .long (mL M a j))) hcell ((h.K.2 1 _ rfl).1 n (fun j => .long (mL M a j))) (fun q => by cases q) (by rw [arrV_size]; exact hi.no) rfl rfl hd fun H1 e1 z oq => ?_
  rw [hi.cl, arrV_store] at e1
  obtain ⟨w1, w2⟩ := Wd_upd (M' := wL M a j x) (H1 := H1) h.P h.D hs (by
    show H1[X.2.2 a]? = some (vp_cell (X.2.1 1) (n, .inr (.inl (mL (wL M a j x) a))))
    rw [e1, vp_cell_l, mL_wL_at]
    congr 2
    funext q
    by_cases hq : q = j
    · simp [updV, hq]
    · simp [updV, hq]) ec_wL oq
  exact kk p l e s m args below meth c X A mc ms cells slots H1 _ la (h.mem w1 w2 (h.S.put z oq (wl_in h.D hs)) z)
theorem E_aastT {a n j t q : Nat} {i : Int32} {ci : Nat} (hd : decode Y.2.1 pc = .ok (.aastore, 1)) (hs : Sh G a (t, n)) (ht : (t = 4 ∧ ci = 2) ∨ (t = 5 ∧ ci = 7)) (hi : inA i j n) (hq : Sh G q (0, ci)) (kk : E d b bs Y (pc + 1) ls st G (wR M a j (some q)) Q) : E d b bs Y pc ls (.ref q :: .int i :: .ref a :: st) G M Q := by
  intro p l e s m args below meth c X A mc ms cells slots H locs la h
  have hci : ci < NC := by rcases ht with ⟨-, rfl⟩ | ⟨-, rfl⟩ <;> decide
  have hcellV := h.P q _ (wl_sh X G M hq)
  obtain ⟨r', hr', cellV, g1, g2, g3, -⟩ := hcellV
  have hcls := (h.K.1 ci _ (cl_at ci hci)).2
  have h0 : ¬ i < 0 := fun z => hi.no (Or.inl z)
  have hlt : i.toNatClampNeg < n := by rw [hi.cl]; exact hi.2.1
  obtain ⟨kC, hkC, -⟩ := hcls.2
  obtain ⟨cA, kA, comp, k1, k2, k3, hcellA, hvp⟩ : ∃ (cA : ClassId) (kA : Class) (comp : ClassId), s.vm.classes[cA]? = some kA ∧ kA.kind = .array comp (.object (clC ci)) ∧ s.vm.findClass (clC ci) = some comp ∧ H[X.2.2 a]? = some (arrV cA n (fun j => va_rf ((mR M a j).map X.2.2))) ∧ (∀ M' H1, H1[X.2.2 a]? = some (arrV cA n (fun j => va_rf ((mR M' a j).map X.2.2))) → va_at X.1 classes (X.2.2 a, ecell X M' (t, n) a) H1) := by
    rcases ht with ⟨rfl, rfl⟩ | ⟨rfl, rfl⟩
    · obtain ⟨kA, comp, k1, k2, k3, -⟩ := (h.K.2 3 _ rfl).2
      exact ⟨X.2.1 3, kA, comp, k1, k2, k3, h.P a _ (wl_sh X G M hs), fun M' H1 e => e⟩
    · obtain ⟨kA, comp, k1, k2, k3, -⟩ := (h.K.2 4 _ rfl).2
      exact ⟨X.2.1 4, kA, comp, k1, k2, k3, h.P a _ (wl_sh X G M hs), fun M' H1 e => e⟩
  have hcomp : comp = X.1.1 ci := Option.some.inj (k3.symm.trans hcls.1)
  subst hcomp
  have hr : r' = (clC ci, clT ci, clN ci) := Option.some.inj (hr'.symm.trans (cl_at ci hci))
  refine W.aast h.hx h.hb hcellA (fun q h => by cases h) (fun h => by cases h) k1 k2 rfl hkC ⟨h0, by rw [arrV_size]; exact hlt⟩ g1 (fun q h => by rw [g3] at h; cases h) (by rw [g2]; exact hkC) (by rw [g2]; exact va_assign hcls) rfl rfl hd fun H1 e1 z oq => ?_
  rw [hi.cl, arrV_store] at e1
  obtain ⟨w1, w2⟩ := Wd_upd (M' := wR M a j (some q)) (H1 := H1) h.P h.D hs (hvp _ _ (by
    rw [e1]
    congr 2
    funext z
    rw [mR_wR_at]
    by_cases hz : z = j
    · simp [updV, hz, va_rf]
    · simp [updV, hz])) ec_wR oq
  exact kk p l e s m args below meth c X A mc ms cells slots H1 _ la (h.mem w1 w2 (h.S.put z oq (wl_in h.D hs)) z)
theorem E_aastN {a n j : Nat} {i : Int32} (hd : decode Y.2.1 pc = .ok (.aastore, 1)) (hs : Sh G a (5, n)) (hi : inA i j n) (kk : E d b bs Y (pc + 1) ls st G (wR M a j none) Q) : E d b bs Y pc ls (.null :: .int i :: .ref a :: st) G M Q := by
  intro p l e s m args below meth c X A mc ms cells slots H locs la h
  have hcell := h.P a _ (wl_sh X G M hs)
  refine va_WaastN (C := "TruePoll$Text") h.hx h.hb (a := X.2.2 a) (cell := arrV (X.2.1 4) n (fun j => va_rf ((mR M a j).map X.2.2))) hcell ((h.K.2 4 _ rfl).1 n (fun j => va_rf ((mR M a j).map X.2.2))) (fun q => by cases q) (by rw [arrV_size]; exact hi.no) rfl rfl hd fun H1 e1 z oq => ?_
  rw [hi.cl, arrV_store] at e1
  obtain ⟨w1, w2⟩ := Wd_upd (M' := wR M a j none) (H1 := H1) h.P h.D hs (by
    show H1[X.2.2 a]? = some (vp_cell (X.2.1 4) (n, .inr (.inr (.inr (.inr (fun j_1 => (mR (wR M a j none) a j_1).map X.2.2))))))
    rw [e1, vp_cell_q, mR_wR_at]
    congr 2
    funext q
    by_cases hq : q = j
    · simp [updV, hq, va_rf]
    · simp [updV, hq]) ec_wR oq
  exact kk p l e s m args below meth c X A mc ms cells slots H1 _ la (h.mem w1 w2 (h.S.put z oq (wl_in h.D hs)) z)

theorem Cc.qe {p : Program} {s : State} {m : MethodId} {args : Array Value} {meth : Method} {c : Code} {X : WX} {A : Nat → Prop} {mc ms cells slots : Nat} {H : Heap} {locs : List Loc} {la : Array Slot} (h : Cc b bs Y ls G M p s m args meth c X A mc ms cells slots H locs la) {v : Option Value} {w : Option Value} (hw : w = v.map (cv X)) (hq : Q v G M) (t : State) (ht : t.heap = H) : QE X A Q args s (.returned w) t :=
  ⟨v, G, M, by rw [hw], hq, by rw [ht]; exact ⟨h.P, h.D⟩, by rw [ht]; exact h.fr, h.S.F ht⟩
theorem E_iret {x : Int32} (hd : decode Y.2.1 pc = .ok (.ireturn, 1)) (hr : Y.2.2.2 = some .int) (hq : Q (some (.int x)) G M) : E d b bs Y pc ls [.int x] G M Q := by
  intro p l e s m args below meth c X A mc ms cells slots H locs la h
  refine W.widen (Nat.le_trans (Nat.le_add_right _ _) h.cl) (Nat.le_trans (Nat.le_add_right _ _) h.sl) ?_
  exact W.iret (v := x) h.hx h.hb (h.hr.trans hr) (fun t ht _ => h.qe (v := some (.int x)) rfl hq t ht) h.S.2.2 hd h.lk
theorem E_zret {x : Int32} (hd : decode Y.2.1 pc = .ok (.ireturn, 1)) (hr : Y.2.2.2 = some .boolean) (hx : x = 0 ∨ x = 1) (hq : Q (some (.int x)) G M) : E d b bs Y pc ls [.int x] G M Q := by
  intro p l e s m args below meth c X A mc ms cells slots H locs la h
  refine W.widen (Nat.le_trans (Nat.le_add_right _ _) h.cl) (Nat.le_trans (Nat.le_add_right _ _) h.sl) ?_
  exact W.zret (v := x) (ty := .boolean) h.hx h.hb (h.hr.trans hr) (by rcases hx with rfl | rfl <;> rfl) (fun t ht _ => h.qe (v := some (.int x)) rfl hq t ht) h.S.2.2 hd h.lk
theorem E_tret {x : Int32} {ty : FieldType} (hd : decode Y.2.1 pc = .ok (.ireturn, 1)) (hr : Y.2.2.2 = some ty) (hx : narrow ty (.int x) = .int x) (hq : Q (some (.int x)) G M) : E d b bs Y pc ls [.int x] G M Q := by
  intro p l e s m args below meth c X A mc ms cells slots H locs la h
  refine W.widen (Nat.le_trans (Nat.le_add_right _ _) h.cl) (Nat.le_trans (Nat.le_add_right _ _) h.sl) ?_
  exact W.zret (v := x) (ty := ty) h.hx h.hb (h.hr.trans hr) hx (fun t ht _ => h.qe (v := some (.int x)) rfl hq t ht) h.S.2.2 hd h.lk
theorem E_lret {x : Int64} (hd : decode Y.2.1 pc = .ok (.lreturn, 1)) (hr : Y.2.2.2 = some .long) (hq : Q (some (.long x)) G M) : E d b bs Y pc ls [.long x] G M Q := by
  intro p l e s m args below meth c X A mc ms cells slots H locs la h
  refine W.widen (Nat.le_trans (Nat.le_add_right _ _) h.cl) (Nat.le_trans (Nat.le_add_right _ _) h.sl) ?_
  exact W.lret (v := x) h.hx h.hb (h.hr.trans hr) (fun t ht _ => h.qe (v := some (.long x)) rfl hq t ht) h.S.2.2 hd h.lk
theorem E_vret (hd : decode Y.2.1 pc = .ok (.return_, 1)) (hr : Y.2.2.2 = none) (hq : Q none G M) : E d b bs Y pc ls [] G M Q := by
  intro p l e s m args below meth c X A mc ms cells slots H locs la h
  refine W.widen (Nat.le_trans (Nat.le_add_right _ _) h.cl) (Nat.le_trans (Nat.le_add_right _ _) h.sl) ?_
  exact W.vret h.hx h.hb (h.hr.trans hr) (fun t ht _ => h.qe (v := none) rfl hq t ht) h.S.2.2 hd h.lk
theorem E_aret {r : Option Nat} {ty : FieldType} (hd : decode Y.2.1 pc = .ok (.areturn, 1)) (hr : Y.2.2.2 = some ty) (hty : isRefTy ty = true) (hq : Q (some (oV r)) G M) : E d b bs Y pc ls [oV r] G M Q := by
  intro p l e s m args below meth c X A mc ms cells slots H locs la h
  refine W.widen (Nat.le_trans (Nat.le_add_right _ _) h.cl) (Nat.le_trans (Nat.le_add_right _ _) h.sl) ?_
  exact W.aret (v := cv X (oV r)) (rt := ty) h.hx h.hb (h.hr.trans hr) (by cases ty <;> first | exact Or.inl ⟨_, rfl⟩ | exact Or.inr ⟨_, rfl⟩ | (simp [isRefTy] at hty)) (by cases r <;> first | exact Or.inl rfl | exact Or.inr ⟨_, rfl⟩) (fun t ht _ => h.qe (v := some (oV r)) rfl hq t ht) h.S.2.2 hd h.lk
theorem E_aretR {q : Nat} {ty : FieldType} (hd : decode Y.2.1 pc = .ok (.areturn, 1)) (hr : Y.2.2.2 = some ty) (hty : isRefTy ty = true) (hq : Q (some (.ref q)) G M) : E d b bs Y pc ls [.ref q] G M Q := E_aret (r := some q) hd hr hty hq
theorem E_aretN {ty : FieldType} (hd : decode Y.2.1 pc = .ok (.areturn, 1)) (hr : Y.2.2.2 = some ty) (hty : isRefTy ty = true) (hq : Q (some .null) G M) : E d b bs Y pc ls [.null] G M Q := E_aret (r := none) hd hr hty hq
end EArr
