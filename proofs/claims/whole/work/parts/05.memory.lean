def GF (own : String) (idx ci k kd : Nat) : Prop := ci < NC ∧ k < clN ci ∧ Cond.fieldLink own idx (clT ci k).1 (clT ci k).2.1 (clT ci k).2.2.1 ∈ TB ∧ fk ci k = kd
section EMem
variable {d b bs : Nat} {Y : MI} {pc : Nat} {ls : List (Option Value)} {st : List Value} {G : Geo} {M : Mem} {Q : Option Value → Geo → Mem → Prop}
theorem range_map_at {α : Type} (f : Nat → α) {n k : Nat} (h : k < n) : ((List.range n).map f)[k]? = some (f k) := by
  rw [List.getElem?_map, List.getElem?_range h]
  rfl
theorem E_get {idx ci k kd a : Nat} {v : Value} (hd : decode Y.2.1 pc = .ok (.getfield idx, 3)) (hf : GF Y.1.cls idx ci k kd) (hs : Sh G a (0, ci)) (hv : ∀ X, fval X M ci a k = cv X v) (kk : E d b bs Y (pc + 3) ls (v :: st) G M Q) : E d b bs Y pc ls (.ref a :: st) G M Q := by
  intro p l e s m args below meth c X A mc ms cells slots H locs la h
  exact va_get h.hx h.hb h.ts (cl_in ci hf.1) h.own h.K h.P a (wl_sh X G M hs) (cl_at ci hf.1) k hf.2.1 (h.ts _ hf.2.2.1) (fun _ q => q) ((range_map_at _ hf.2.1).trans (congrArg some (hv X))) hd (kk p l e s m args below meth c X A mc ms cells slots H locs la h)
theorem E_getI {idx ci k a : Nat} {v : Int32} (hd : decode Y.2.1 pc = .ok (.getfield idx, 3)) (hf : GF Y.1.cls idx ci k 0) (hs : Sh G a (0, ci)) (hv : mI M a k = v) (kk : E d b bs Y (pc + 3) ls (.int v :: st) G M Q) : E d b bs Y pc ls (.ref a :: st) G M Q :=
  E_get hd hf hs (fun X => by unfold fval; rw [hf.2.2.2, hv]; rfl) kk
theorem E_getZ {idx ci k a : Nat} {v : Int32} (hd : decode Y.2.1 pc = .ok (.getfield idx, 3)) (hf : GF Y.1.cls idx ci k 3) (hs : Sh G a (0, ci)) (hv : mI M a k = v) (kk : E d b bs Y (pc + 3) ls (.int v :: st) G M Q) : E d b bs Y pc ls (.ref a :: st) G M Q :=
  E_get hd hf hs (fun X => by unfold fval; rw [hf.2.2.2, hv]; rfl) kk
theorem E_getL {idx ci k a : Nat} {v : Int64} (hd : decode Y.2.1 pc = .ok (.getfield idx, 3)) (hf : GF Y.1.cls idx ci k 1) (hs : Sh G a (0, ci)) (hv : mL M a k = v) (kk : E d b bs Y (pc + 3) ls (.long v :: st) G M Q) : E d b bs Y pc ls (.ref a :: st) G M Q :=
  E_get hd hf hs (fun X => by unfold fval; rw [hf.2.2.2, hv]; rfl) kk
theorem E_getR {idx ci k a q : Nat} (hd : decode Y.2.1 pc = .ok (.getfield idx, 3)) (hf : GF Y.1.cls idx ci k 2) (hs : Sh G a (0, ci)) (hv : mR M a k = some q) (kk : E d b bs Y (pc + 3) ls (.ref q :: st) G M Q) : E d b bs Y pc ls (.ref a :: st) G M Q :=
  E_get hd hf hs (fun X => by unfold fval; rw [hf.2.2.2, hv]; rfl) kk
theorem Wd_upd {X : WX} {M' : Mem} {A : Nat → Prop} {H H1 : Heap} {a : Nat} {x : Nat × Nat} (hP : va_P X.1 classes (wl X G M) H) (hD : va_D A (wl X G M)) (hs : Sh G a x) (ha : va_at X.1 classes (X.2.2 a, ecell X M' x a) H1) (hn : ∀ b x', b ≠ a → ecell X M' x' b = ecell X M x' b) (oq : ∀ q, q ≠ X.2.2 a → H1[q]? = H[q]?) : va_P X.1 classes (wl X G M') H1 ∧ va_D A (wl X G M') := by
  have h1 := hP.set hD (wl_sh X G M hs) ha oq
  have h2 := hD.set (e := ecell X M' x a) (wl_sh X G M hs)
  rw [wl_set hs rfl hn] at h1 h2
  exact ⟨h1, h2⟩
theorem wl_in {A : Nat → Prop} {X : WX} {a : Nat} {x : Nat × Nat} (hD : va_D A (wl X G M)) (hs : Sh G a x) : A (X.2.2 a) := hD.2 a _ (wl_sh X G M hs)
theorem E_put0 {idx ci k kd a : Nat} {v : Value} {M' : Mem} (hd : decode Y.2.1 pc = .ok (.putfield idx, 3)) (hf : GF Y.1.cls idx ci k kd) (hs : Sh G a (0, ci)) (hfin : (clT ci k).2.2.2 = false)
    (hn : ∀ X, narrow (clY ci k) (cv X v) = cv X v) (hfit : ∀ X, fits (clY ci k) (cv X v) = true) (hv : ∀ X j, j < clN ci → fval X M' ci a j = if j = k then cv X v else fval X M ci a j) (ho : ∀ X b x', b ≠ a → ecell X M' x' b = ecell X M x' b)
    (kk : E d b bs Y (pc + 3) ls st G M' Q) : E d b bs Y pc ls (v :: .ref a :: st) G M Q := by
  intro p l e s m args below meth c X A mc ms cells slots H locs la h
  have hci := hf.1
  have hk := hf.2.1
  have hap := va_apart (own := Y.1.cls) h.ts (cl_in ci hci) (clY ci) (cl_ty ci hci) (cl_nm ci hci) h.K (cl_at ci hci)
  obtain ⟨r, h1, cell, q1, q2, q3, q4⟩ := h.P a _ (wl_sh X G M hs)
  have hr : r = (clC ci, clT ci, clN ci) := Option.some.inj (h1.symm.trans (cl_at ci hci))
  subst hr
  obtain ⟨hS, hfc, kC, hkC, hkind⟩ := h.K.1 ci _ (cl_at ci hci)
  obtain ⟨cf, kf, fi, f, hi, hsl⟩ := hS k hk
  have hlay := h.ts _ (cl_in ci hci _ (u_in_lay hk))
  unfold u_lay at hlay
  rw [if_neg (by rw [hfin]; decide)] at hlay
  have hst := (u_facts hfc hkC (u_lays h.ts (cl_in ci hci) hk) hi).1
  have h6 := u_store hfc hkC hkind hlay hi (cl_ty ci hci k hk) (hn X) (hfit X)
  refine W.putK h.hx h.hb (f := f) ⟨h.own, h.ts _ hf.2.2.1, ⟨_, _, _, hi⟩, hst⟩ (by rw [q2]; exact h6) q1 q3 (by rw [hsl]; exact k2_hasslot (q4 k hk)) rfl rfl hd fun H1 e1 e2 e3 => ?_
  rw [hsl] at e1 ⊢
  obtain ⟨w1, w2⟩ := Wd_upd (M' := M') (H1 := H1) h.P h.D hs ⟨_, cl_at ci hci, t_OB.to (V := updV (vp_V ((List.range (clN ci)).map (fval X M ci a))) k (cv X v)) ⟨_, e1, q2, q3, t_set q4 hap hk (cv X v)⟩ (fun j hj => by
    show _ = vp_V ((List.range (clN ci)).map (fval X M' ci a)) j
    have hj' : j < clN ci := hj
    unfold vp_V updV
    dsimp only
    rw [List.getD_eq_getElem?_getD, List.getD_eq_getElem?_getD, range_map_at _ hj', range_map_at _ hj', Option.getD_some, Option.getD_some, hv X j hj'])⟩ (ho X) e3
  exact kk p l e s m args below meth c X A mc ms cells slots H1 _ la (h.mem w1 w2 (h.S.put e2 e3 (wl_in h.D hs)) e2)
theorem E_putF0 {idx ci k kd a : Nat} {v : Value} {M' : Mem} (hd : decode Y.2.1 pc = .ok (.putfield idx, 3)) (hf : GF Y.1.cls idx ci k kd) (hs : Sh G a (0, ci)) (hfin : (clT ci k).2.2.2 = true) (hin2 : Y.1.name = "<init>") (hdecl : (clT ci k).1 = Y.1.cls)
    (hn : ∀ X, narrow (clY ci k) (cv X v) = cv X v) (hfit : ∀ X, fits (clY ci k) (cv X v) = true) (hv : ∀ X j, j < clN ci → fval X M' ci a j = if j = k then cv X v else fval X M ci a j) (ho : ∀ X b x', b ≠ a → ecell X M' x' b = ecell X M x' b)
    (kk : E d b bs Y (pc + 3) ls st G M' Q) : E d b bs Y pc ls (v :: .ref a :: st) G M Q := by
  intro p l e s m args below meth c X A mc ms cells slots H locs la h
  have hci := hf.1
  have hk := hf.2.1
  have hap := va_apart (own := Y.1.cls) h.ts (cl_in ci hci) (clY ci) (cl_ty ci hci) (cl_nm ci hci) h.K (cl_at ci hci)
  obtain ⟨r, h1, cell, q1, q2, q3, q4⟩ := h.P a _ (wl_sh X G M hs)
  have hr : r = (clC ci, clT ci, clN ci) := Option.some.inj (h1.symm.trans (cl_at ci hci))
  subst hr
  obtain ⟨hS, hfc, kC, hkC, hkind⟩ := h.K.1 ci _ (cl_at ci hci)
  obtain ⟨cf, kf, fi, f, hi, hsl⟩ := hS k hk
  have hlay := h.ts _ (cl_in ci hci _ (u_in_lay hk))
  unfold u_lay at hlay
  rw [if_pos hfin] at hlay
  have hst := (u_facts hfc hkC (u_lays h.ts (cl_in ci hci) hk) hi).1
  have hcf : m.cls = cf := by
    obtain ⟨_, _, c', _, _, _, -, -, hf', -, -, -, hown2, -⟩ := Cond.laysFinal_spec hlay
    have e1 : c' = cf := by have := hi.symm.trans hf'; simp at this; exact this.1.symm
    rw [hdecl] at hown2
    rw [← e1]; exact Option.some.inj (h.own.symm.trans hown2)
  have h6 := u_fits hfc hkC hkind (Or.inr hlay) hi (cl_ty ci hci k hk) (hn X) (hfit X)
  refine W.putFinK h.hx h.hb h.own (h.ts _ hf.2.2.1) hi hst hcf (h.nm.trans hin2) (by rw [q2]; exact h6) q1 q3 (by rw [hsl]; exact k2_hasslot (q4 k hk)) rfl rfl hd fun H1 e1 e2 e3 => ?_
  rw [hsl] at e1 ⊢
  obtain ⟨w1, w2⟩ := Wd_upd (M' := M') (H1 := H1) h.P h.D hs ⟨_, cl_at ci hci, t_OB.to (V := updV (vp_V ((List.range (clN ci)).map (fval X M ci a))) k (cv X v)) ⟨_, e1, q2, q3, t_set q4 hap hk (cv X v)⟩ (fun j hj => by
    show _ = vp_V ((List.range (clN ci)).map (fval X M' ci a)) j
    have hj' : j < clN ci := hj
    unfold vp_V updV
    dsimp only
    rw [List.getD_eq_getElem?_getD, List.getD_eq_getElem?_getD, range_map_at _ hj', range_map_at _ hj', Option.getD_some, Option.getD_some, hv X j hj'])⟩ (ho X) e3
  exact kk p l e s m args below meth c X A mc ms cells slots H1 _ la (h.mem w1 w2 (h.S.put e2 e3 (wl_in h.D hs)) e2)
theorem ec_wI {X : WX} {a k : Nat} {x : Int32} : ∀ b x', b ≠ a → ecell X (wI M a k x) x' b = ecell X M x' b := fun b x' h => ecell_ne (upd2_ne _ h) rfl rfl
theorem ec_wL {X : WX} {a k : Nat} {x : Int64} : ∀ b x', b ≠ a → ecell X (wL M a k x) x' b = ecell X M x' b := fun b x' h => ecell_ne rfl (upd2_ne _ h) rfl
theorem ec_wR {X : WX} {a k : Nat} {x : Option Nat} : ∀ b x', b ≠ a → ecell X (wR M a k x) x' b = ecell X M x' b := fun b x' h => ecell_ne rfl rfl (upd2_ne _ h)
theorem ec_wA {X : WX} {a : Nat} {g : Nat → Int32} : ∀ b x', b ≠ a → ecell X (wA M a g) x' b = ecell X M x' b := fun b x' h => ecell_ne (upda_ne _ h) rfl rfl
theorem fv_wI {X : WX} {ci a k j : Nat} {x : Int32} (hk : fk ci k = 0 ∨ fk ci k = 3) (hj : j ≠ k → True) : fval X (wI M a k x) ci a j = if j = k then cv X (.int x) else fval X M ci a j := by
  unfold fval
  by_cases e : j = k
  · subst e
    rw [if_pos rfl]
    rcases hk with hk | hk <;> rw [hk] <;> (show Value.int (mI (wI M a j x) a j) = .int x) <;> rw [mI_wI, if_pos ⟨rfl, rfl⟩]
  · rw [if_neg e, mI_wI, if_neg (fun q => e q.2)]
    rfl
theorem fv_wL {X : WX} {ci a k j : Nat} {x : Int64} (hk : fk ci k = 1) : fval X (wL M a k x) ci a j = if j = k then cv X (.long x) else fval X M ci a j := by
  unfold fval
  by_cases e : j = k
  · subst e
    rw [if_pos rfl, hk]
    show Value.long (mL (wL M a j x) a j) = .long x
    rw [mL_wL, if_pos ⟨rfl, rfl⟩]
  · rw [if_neg e, mL_wL, if_neg (fun q => e q.2)]
    rfl
theorem fv_wR {X : WX} {ci a k j q : Nat} (hk : fk ci k = 2) : fval X (wR M a k (some q)) ci a j = if j = k then cv X (.ref q) else fval X M ci a j := by
  unfold fval
  by_cases e : j = k
  · subst e
    rw [if_pos rfl, hk]
    show va_rf ((mR (wR M a j (some q)) a j).map X.2.2) = .ref (X.2.2 q)
    rw [mR_wR, if_pos ⟨rfl, rfl⟩]
    rfl
  · rw [if_neg e, mR_wR, if_neg (fun q => e q.2)]
    rfl
theorem E_putI {idx ci k a : Nat} {x : Int32} (hd : decode Y.2.1 pc = .ok (.putfield idx, 3)) (hf : GF Y.1.cls idx ci k 0) (hs : Sh G a (0, ci)) (hfin : (clT ci k).2.2.2 = false) (hy : clY ci k = .int)
    (kk : E d b bs Y (pc + 3) ls st G (wI M a k x) Q) : E d b bs Y pc ls (.int x :: .ref a :: st) G M Q :=
  E_put0 hd hf hs hfin (fun X => by rw [hy]; rfl) (fun X => by rw [hy]; rfl) (fun X j _ => fv_wI (Or.inl hf.2.2.2) (fun _ => trivial)) (fun X => ec_wI) kk
theorem E_putZ {idx ci k a : Nat} {x : Int32} (hd : decode Y.2.1 pc = .ok (.putfield idx, 3)) (hf : GF Y.1.cls idx ci k 3) (hs : Sh G a (0, ci)) (hfin : (clT ci k).2.2.2 = false) (hy : clY ci k = .boolean) (hx : x = 0 ∨ x = 1)
    (kk : E d b bs Y (pc + 3) ls st G (wI M a k x) Q) : E d b bs Y pc ls (.int x :: .ref a :: st) G M Q :=
  E_put0 hd hf hs hfin (fun X => by rw [hy]; rcases hx with rfl | rfl <;> rfl) (fun X => by rw [hy]; rcases hx with rfl | rfl <;> rfl) (fun X j _ => fv_wI (Or.inr hf.2.2.2) (fun _ => trivial)) (fun X => ec_wI) kk
theorem E_putL {idx ci k a : Nat} {x : Int64} (hd : decode Y.2.1 pc = .ok (.putfield idx, 3)) (hf : GF Y.1.cls idx ci k 1) (hs : Sh G a (0, ci)) (hfin : (clT ci k).2.2.2 = false) (hy : clY ci k = .long)
    (kk : E d b bs Y (pc + 3) ls st G (wL M a k x) Q) : E d b bs Y pc ls (.long x :: .ref a :: st) G M Q :=
  E_put0 hd hf hs hfin (fun X => by rw [hy]; rfl) (fun X => by rw [hy]; rfl) (fun X j _ => fv_wL hf.2.2.2) (fun X => ec_wL) kk
def isRefTy : FieldType → Bool
  | .object _ => true
  | .array _ => true
  | _ => false
theorem E_putR {idx ci k a q : Nat} (hd : decode Y.2.1 pc = .ok (.putfield idx, 3)) (hf : GF Y.1.cls idx ci k 2) (hs : Sh G a (0, ci)) (hfin : (clT ci k).2.2.2 = false) (hy : isRefTy (clY ci k) = true)
    (kk : E d b bs Y (pc + 3) ls st G (wR M a k (some q)) Q) : E d b bs Y pc ls (.ref q :: .ref a :: st) G M Q :=
  E_put0 hd hf hs hfin (fun X => by cases h : clY ci k <;> rw [h] at hy <;> first | rfl | (simp [isRefTy] at hy)) (fun X => by cases h : clY ci k <;> rw [h] at hy <;> first | rfl | (simp [isRefTy] at hy)) (fun X j _ => fv_wR hf.2.2.2) (fun X => ec_wR) kk
theorem E_putFR {idx ci k a q : Nat} (hd : decode Y.2.1 pc = .ok (.putfield idx, 3)) (hf : GF Y.1.cls idx ci k 2) (hs : Sh G a (0, ci)) (hfin : (clT ci k).2.2.2 = true) (hin2 : Y.1.name = "<init>") (hdecl : (clT ci k).1 = Y.1.cls) (hy : isRefTy (clY ci k) = true)
    (kk : E d b bs Y (pc + 3) ls st G (wR M a k (some q)) Q) : E d b bs Y pc ls (.ref q :: .ref a :: st) G M Q :=
  E_putF0 hd hf hs hfin hin2 hdecl (fun X => by cases h : clY ci k <;> rw [h] at hy <;> first | rfl | (simp [isRefTy] at hy)) (fun X => by cases h : clY ci k <;> rw [h] at hy <;> first | rfl | (simp [isRefTy] at hy)) (fun X j _ => fv_wR hf.2.2.2) (fun X => ec_wR) kk
end EMem
