abbrev WX : Type := va_G × (Nat → ClassId) × (Nat → Nat)
abbrev Geo : Type := Nat × (Nat → Nat × Nat)
abbrev Mem : Type := (Nat → Nat → Int32) × (Nat → Nat → Int64) × (Nat → Nat → Option Nat)
def mI (M : Mem) (a j : Nat) : Int32 := M.1 a j
def mL (M : Mem) (a j : Nat) : Int64 := M.2.1 a j
def mR (M : Mem) (a j : Nat) : Option Nat := M.2.2 a j
def upd2 {α : Type} (f : Nat → Nat → α) (a j : Nat) (v : α) : Nat → Nat → α := fun b i => if b = a ∧ i = j then v else f b i
def upda {α : Type} (f : Nat → Nat → α) (a : Nat) (g : Nat → α) : Nat → Nat → α := fun b i => if b = a then g i else f b i
def wI (M : Mem) (a j : Nat) (v : Int32) : Mem := (upd2 M.1 a j v, M.2.1, M.2.2)
def wL (M : Mem) (a j : Nat) (v : Int64) : Mem := (M.1, upd2 M.2.1 a j v, M.2.2)
def wR (M : Mem) (a j : Nat) (v : Option Nat) : Mem := (M.1, M.2.1, upd2 M.2.2 a j v)
def wA (M : Mem) (a : Nat) (g : Nat → Int32) : Mem := (upda M.1 a g, M.2.1, M.2.2)
theorem mI_wI (M : Mem) (a j : Nat) (v : Int32) (b i : Nat) : mI (wI M a j v) b i = if b = a ∧ i = j then v else mI M b i := rfl
theorem mI_wA (M : Mem) (a : Nat) (g : Nat → Int32) (b i : Nat) : mI (wA M a g) b i = if b = a then g i else mI M b i := rfl
theorem mL_wL (M : Mem) (a j : Nat) (v : Int64) (b i : Nat) : mL (wL M a j v) b i = if b = a ∧ i = j then v else mL M b i := rfl
theorem mR_wR (M : Mem) (a j : Nat) (v : Option Nat) (b i : Nat) : mR (wR M a j v) b i = if b = a ∧ i = j then v else mR M b i := rfl
theorem mI_wL (M : Mem) (a j : Nat) (v : Int64) : mI (wL M a j v) = mI M := rfl
theorem mI_wR (M : Mem) (a j : Nat) (v : Option Nat) : mI (wR M a j v) = mI M := rfl
theorem mL_wI (M : Mem) (a j : Nat) (v : Int32) : mL (wI M a j v) = mL M := rfl
theorem mL_wR (M : Mem) (a j : Nat) (v : Option Nat) : mL (wR M a j v) = mL M := rfl
theorem mL_wA (M : Mem) (a : Nat) (g : Nat → Int32) : mL (wA M a g) = mL M := rfl
theorem mR_wI (M : Mem) (a j : Nat) (v : Int32) : mR (wI M a j v) = mR M := rfl
theorem mR_wL (M : Mem) (a j : Nat) (v : Int64) : mR (wL M a j v) = mR M := rfl
theorem mR_wA (M : Mem) (a : Nat) (g : Nat → Int32) : mR (wA M a g) = mR M := rfl
def Sh (G : Geo) (a : Nat) (x : Nat × Nat) : Prop := a < G.1 ∧ G.2 a = x
def fval (X : WX) (M : Mem) (ci a j : Nat) : Value := match fk ci j with
  | 1 => .long (mL M a j)
  | 2 => va_rf ((mR M a j).map X.2.2)
  | _ => .int (mI M a j)
def ecell (X : WX) (M : Mem) (sh : Nat × Nat) (a : Nat) : va_E := match sh.1 with
  | 0 => .inr (sh.2, (List.range (clN sh.2)).map (fval X M sh.2 a))
  | 1 => .inl (X.2.1 0, sh.2, .inl (mI M a))
  | 2 => .inl (X.2.1 1, sh.2, .inr (.inl (mL M a)))
  | 3 => .inl (X.2.1 2, sh.2, .inl (mI M a))
  | 4 => .inl (X.2.1 3, sh.2, .inr (.inr (.inr (.inr (fun j => (mR M a j).map X.2.2)))))
  | _ => .inl (X.2.1 4, sh.2, .inr (.inr (.inr (.inr (fun j => (mR M a j).map X.2.2)))))
def wl (X : WX) (G : Geo) (M : Mem) : va_W := (List.range G.1).map fun k => (X.2.2 k, ecell X M (G.2 k) k)
def tys (X : WX) : List (ClassId × FieldType) := [(X.2.1 0, .int), (X.2.1 1, .long), (X.2.1 2, .boolean), (X.2.1 3, .object "TruePoll$Moment"), (X.2.1 4, .object "TruePoll$Text")]
def cv (X : WX) : Value → Value
  | .ref k => .ref (X.2.2 k)
  | v => v
def strW : String := "says  sways personsort  hear  from  tell  up    down  day   lean  said  if    then  else  end   or    and   not   round who   own   peopleheard figureyes   "
def strM : String := "<>=#+-*/();"
def strB : List (List Int32) := [strW.toList.map (fun c => Int32.ofNat c.toNat), strM.toList.map (fun c => Int32.ofNat c.toNat)]
def strN : List Nat := [156, 11]
def KS (X : WX) (A : Nat → Prop) (s : State) : Prop :=
  (∀ w ∈ TBn, va_Nw w s) ∧ va_AO "TruePoll$Moment" s ∧ va_AO "TruePoll$Text" s ∧ va_Nw (.castable "[I" "java/lang/Cloneable") s ∧
  vk_R "TruePoll$Tape" 76 strW (X.2.2 1000000) s ∧ vk_R "TruePoll$Tape" 93 strM (X.2.2 1000001) s ∧
  vk_S 2 strN strB (fun i => X.2.2 (1000000 + i)) (fun i => X.2.2 (2000000 + i)) A s s.heap ∧
  va_Z "java/lang/String" "COMPACT_STRINGS" "Z" (.int 1) A s s.heap ∧
  ∃ v : Value, (v = .null ∨ v = .ref 3000000) ∧ va_Z "jdk/internal/util/Preconditions" "SIOOBE_FORMATTER" "Ljava/util/function/BiFunction;" (cv X v) A s s.heap
def Wd (X : WX) (G : Geo) (M : Mem) (A : Nat → Prop) (H : Heap) : Prop := va_P X.1 classes (wl X G M) H ∧ va_D A (wl X G M)
def Fr (X : WX) (G : Geo) (H : Heap) : Prop := G.1 ≤ 1000000 ∧ ∀ k, G.1 ≤ k → k < 1000000 → X.2.2 k = H.size + (k - G.1)
def Lv (X : WX) (la : Array Slot) (nL : Nat) (ls : List (Option Value)) : Prop := la.size = nL ∧ lv_wf la ∧ ls.length ≤ nL ∧ ∀ (k : Nat) (v : Value), ls[k]? = some (some v) → la[k]? = some (.val (cv X v))
def Rm (d mc ms : Nat) : Room := { frames := d, cells := mc, slots := ms, locals := 60 * d + 100 }
def QE (X : WX) (A : Nat → Prop) (Q : Option Value → Geo → Mem → Prop) : Array Value → State → Outcome → State → Prop := fun _ st o t =>
  ∃ (v : Option Value) (G : Geo) (M : Mem), o = .returned (v.map (cv X)) ∧ Q v G M ∧ Wd X G M A t.heap ∧ Fr X G t.heap ∧ va_F A st t
def Cx (p : Program) (s : State) (m : MethodId) (args : Array Value) (meth : Method) (c : Code) (Y : MI) : Prop :=
  p.tables.exec = Jvm.exec ∧ c.code = Y.2.1 ∧ meth.sig.returnType = Y.2.2.2 ∧ c.maxLocals = Y.2.2.1 ∧ (∀ w ∈ TB, w.before args s = true) ∧ s.vm.findClass Y.1.cls = some m.cls ∧ meth.locks = false ∧ meth.name = Y.1.name
def Cc (b bs : Nat) (Y : MI) (ls : List (Option Value)) (G : Geo) (M : Mem) (p : Program) (s : State) (m : MethodId) (args : Array Value) (meth : Method) (c : Code) (X : WX) (A : Nat → Prop) (mc ms cells slots : Nat) (H : Heap) (locs : List Loc) (la : Array Slot) : Prop :=
  Cx p s m args meth c Y ∧ va_K X.1 classes (tys X) s ∧ KS X A s ∧ Wd X G M A H ∧ va_S A s.heap H locs ∧ (∀ q, s.heap.size ≤ q → A q) ∧ Fr X G H ∧ Lv X la Y.2.2.1 ls ∧ cells + b ≤ mc ∧ slots + bs ≤ ms
def E (d b bs : Nat) (Y : MI) (pc : Nat) (ls : List (Option Value)) (st : List Value) (G : Geo) (M : Mem) (Q : Option Value → Geo → Mem → Prop) : Prop :=
  ∀ (p : Program) (l : Launch) (e : Env) (s : State) (m : MethodId) (args : Array Value) (below : List Frame) (meth : Method) (c : Code) (X : WX) (A : Nat → Prop) (mc ms cells slots : Nat) (H : Heap) (locs : List Loc) (la : Array Slot),
    Cc b bs Y ls G M p s m args meth c X A mc ms cells slots H locs la →
    W p l e (Rm d mc ms) s m args below meth c H locs cells slots (MQ below (QE X A Q) args s mc ms A) (F0 m pc la (st.map (cv X)))
section CcFacts
variable {b bs : Nat} {Y : MI} {ls : List (Option Value)} {G : Geo} {M : Mem} {p : Program} {s : State} {m : MethodId} {args : Array Value} {meth : Method} {c : Code} {X : WX} {A : Nat → Prop} {mc ms cells slots : Nat} {H : Heap} {locs : List Loc} {la : Array Slot}
theorem Cc.hx (h : Cc b bs Y ls G M p s m args meth c X A mc ms cells slots H locs la) : p.tables.exec = Jvm.exec := h.1.1
theorem Cc.hb (h : Cc b bs Y ls G M p s m args meth c X A mc ms cells slots H locs la) : c.code = Y.2.1 := h.1.2.1
theorem Cc.hr (h : Cc b bs Y ls G M p s m args meth c X A mc ms cells slots H locs la) : meth.sig.returnType = Y.2.2.2 := h.1.2.2.1
theorem Cc.hml (h : Cc b bs Y ls G M p s m args meth c X A mc ms cells slots H locs la) : c.maxLocals = Y.2.2.1 := h.1.2.2.2.1
theorem Cc.ts (h : Cc b bs Y ls G M p s m args meth c X A mc ms cells slots H locs la) : ∀ w ∈ TB, w.before args s = true := h.1.2.2.2.2.1
theorem Cc.own (h : Cc b bs Y ls G M p s m args meth c X A mc ms cells slots H locs la) : s.vm.findClass Y.1.cls = some m.cls := h.1.2.2.2.2.2.1
theorem Cc.lk (h : Cc b bs Y ls G M p s m args meth c X A mc ms cells slots H locs la) : meth.locks = false := h.1.2.2.2.2.2.2.1
theorem Cc.nm (h : Cc b bs Y ls G M p s m args meth c X A mc ms cells slots H locs la) : meth.name = Y.1.name := h.1.2.2.2.2.2.2.2
theorem Cc.K (h : Cc b bs Y ls G M p s m args meth c X A mc ms cells slots H locs la) : va_K X.1 classes (tys X) s := h.2.1
theorem Cc.ks (h : Cc b bs Y ls G M p s m args meth c X A mc ms cells slots H locs la) : KS X A s := h.2.2.1
theorem Cc.P (h : Cc b bs Y ls G M p s m args meth c X A mc ms cells slots H locs la) : va_P X.1 classes (wl X G M) H := h.2.2.2.1.1
theorem Cc.D (h : Cc b bs Y ls G M p s m args meth c X A mc ms cells slots H locs la) : va_D A (wl X G M) := h.2.2.2.1.2
theorem Cc.S (h : Cc b bs Y ls G M p s m args meth c X A mc ms cells slots H locs la) : va_S A s.heap H locs := h.2.2.2.2.1
theorem Cc.hA (h : Cc b bs Y ls G M p s m args meth c X A mc ms cells slots H locs la) : ∀ q, s.heap.size ≤ q → A q := h.2.2.2.2.2.1
theorem Cc.fr (h : Cc b bs Y ls G M p s m args meth c X A mc ms cells slots H locs la) : Fr X G H := h.2.2.2.2.2.2.1
theorem Cc.lv (h : Cc b bs Y ls G M p s m args meth c X A mc ms cells slots H locs la) : Lv X la Y.2.2.1 ls := h.2.2.2.2.2.2.2.1
theorem Cc.cl (h : Cc b bs Y ls G M p s m args meth c X A mc ms cells slots H locs la) : cells + b ≤ mc := h.2.2.2.2.2.2.2.2.1
theorem Cc.sl (h : Cc b bs Y ls G M p s m args meth c X A mc ms cells slots H locs la) : slots + bs ≤ ms := h.2.2.2.2.2.2.2.2.2
theorem Cc.mem (h : Cc b bs Y ls G M p s m args meth c X A mc ms cells slots H locs la) {M' : Mem} {H' : Heap} {locs' : List Loc} (hP : va_P X.1 classes (wl X G M') H') (hD : va_D A (wl X G M')) (hS : va_S A s.heap H' locs') (hz : H'.size = H.size) : Cc b bs Y ls G M' p s m args meth c X A mc ms cells slots H' locs' la :=
  ⟨h.1, h.K, h.ks, ⟨hP, hD⟩, hS, h.hA, ⟨h.fr.1, fun k h1 h2 => by rw [hz]; exact h.fr.2 k h1 h2⟩, h.lv, h.cl, h.sl⟩
theorem Cc.loc (h : Cc b bs Y ls G M p s m args meth c X A mc ms cells slots H locs la) {ls' : List (Option Value)} {la' : Array Slot} (hl : Lv X la' Y.2.2.1 ls') : Cc b bs Y ls' G M p s m args meth c X A mc ms cells slots H locs la' :=
  ⟨h.1, h.K, h.ks, h.2.2.2.1, h.S, h.hA, h.fr, hl, h.cl, h.sl⟩
theorem Cc.get (h : Cc b bs Y ls G M p s m args meth c X A mc ms cells slots H locs la) {k : Nat} {v : Value} (hk : ls[k]? = some (some v)) : la[k]? = some (.val (cv X v)) := h.lv.2.2.2 k v hk
end CcFacts
theorem wl_at (X : WX) (G : Geo) (M : Mem) {a : Nat} (h : a < G.1) : (wl X G M)[a]? = some (X.2.2 a, ecell X M (G.2 a) a) := by
  unfold wl
  rw [List.getElem?_map, List.getElem?_range h]
  rfl
theorem wl_sh (X : WX) (G : Geo) (M : Mem) {a : Nat} {x : Nat × Nat} (h : Sh G a x) : (wl X G M)[a]? = some (X.2.2 a, ecell X M x a) := by
  rw [wl_at X G M h.1, h.2]
theorem wl_set {X : WX} {G : Geo} {M M' : Mem} {a : Nat} {x : Nat × Nat} {y : va_E} (h : Sh G a x) (ha : ecell X M' x a = y) (hn : ∀ b x', b ≠ a → ecell X M' x' b = ecell X M x' b) : (wl X G M).set a (X.2.2 a, y) = wl X G M' := by
  apply List.ext_getElem?
  intro k
  by_cases hk : k < G.1
  · by_cases e : k = a
    · subst e
      rw [List.getElem?_set_self (by simpa [wl] using hk), wl_at X G M' hk, h.2, ha]
    · rw [List.getElem?_set_ne (Ne.symm e), wl_at X G M hk, wl_at X G M' hk, hn k _ e]
  · have h1 : (wl X G M').length ≤ k := by simpa [wl] using hk
    have h2 : ((wl X G M).set a (X.2.2 a, y)).length ≤ k := by simpa [wl] using hk
    rw [List.getElem?_eq_none h1, List.getElem?_eq_none h2]
theorem fval_ne {X : WX} {M M' : Mem} {ci b : Nat} (h1 : M'.1 b = M.1 b) (h2 : M'.2.1 b = M.2.1 b) (h3 : M'.2.2 b = M.2.2 b) : fval X M' ci b = fval X M ci b := by
  funext j
  have e1 : mI M' b j = mI M b j := congrFun h1 j
  have e2 : mL M' b j = mL M b j := congrFun h2 j
  have e3 : mR M' b j = mR M b j := congrFun h3 j
  unfold fval
  rw [e1, e2, e3]
theorem ecell_ne {X : WX} {M M' : Mem} {x : Nat × Nat} {b : Nat} (h1 : M'.1 b = M.1 b) (h2 : M'.2.1 b = M.2.1 b) (h3 : M'.2.2 b = M.2.2 b) : ecell X M' x b = ecell X M x b := by
  have e1 : mI M' b = mI M b := h1
  have e2 : mL M' b = mL M b := h2
  have e3 : mR M' b = mR M b := h3
  unfold ecell
  rw [fval_ne h1 h2 h3, e1, e2, e3]
theorem upd2_ne {α : Type} (f : Nat → Nat → α) {a j b : Nat} {v : α} (h : b ≠ a) : upd2 f a j v b = f b := by
  funext i
  simp [upd2, h]
theorem upd2_at {α : Type} (f : Nat → Nat → α) {a j : Nat} {v : α} : upd2 f a j v a = fun i => if i = j then v else f a i := by
  funext i
  simp [upd2]
theorem upda_ne {α : Type} (f : Nat → Nat → α) {a b : Nat} {g : Nat → α} (h : b ≠ a) : upda f a g b = f b := by
  funext i
  simp [upda, h]
theorem upda_at {α : Type} (f : Nat → Nat → α) {a : Nat} {g : Nat → α} : upda f a g a = g := by
  funext i
  simp [upda]
