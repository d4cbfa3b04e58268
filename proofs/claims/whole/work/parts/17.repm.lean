def GM : Geo := (15, fun k => ([(0, 9), (1, 1435), (1, 1435), (1, 2724), (1, 300), (1, 160), (1, 8), (2, 330), (3, 330), (1, 8), (1, 18), (1, 9), (1, 8), (2, 9), (1, 81)] : List (Nat × Nat)).getD k (0, 0))
def rmT : Nat → Nat := fun j => match j with
  | 0 => 1
  | 1 => 2
  | 2 => 3
  | 3 => 4
  | 15 => 5
  | 20 => 6
  | 21 => 7
  | 22 => 8
  | 24 => 9
  | 25 => 10
  | 26 => 11
  | 27 => 12
  | 28 => 13
  | _ => 14
def MR (M : Mem) : Prop := ∀ j, fk 9 j = 2 → mR M 0 j = some (rmT j)
def enB (e : Nat × Nat × Nat) : Nat := (e.1 * 9 + e.2.1) * 9 + e.2.2
def RepRow (m : Mo) (f : Nat → Int32) (b bk : Nat) : Prop :=
  f b = nI m.round ∧ f (b + 1) = nI m.x ∧ f (b + 2) = nI m.figure ∧ f (b + 3) = nI m.book.length ∧ f (b + 4) = nI m.answers ∧ (∀ p, p < m.people → f (b + 5 + p) = nI (m.lean p)) ∧ ∀ i, i < m.book.length → f (bk + i) = nI (enB (m.book.getD i (0, 0, 0)))
def RepA (c : Cr) (f : Nat → Int32) : Prop :=
  f 0 = nI c.now.people ∧ f 1 = nI c.texts.length ∧ f 2 = enO c.ruling ∧ f 3 = nI c.steps.length ∧ f 4 = nI c.saids.length ∧ f 84 = nI c.parties.length ∧ RepRow c.now f 5 1405 ∧
  (∀ p, p < c.now.people → f (18 + p) = nI (c.sort p)) ∧ (∀ p, p < c.now.people → f (26 + p) = nI (c.begun p)) ∧ (∀ p, p < 8 → f (34 + p) = nI (c.hears p)) ∧
  (∀ i, i < c.saids.length → f (42 + 2 * i) = nI (c.saids.getD i (0, 0)).1 ∧ f (42 + 2 * i + 1) = nI (c.saids.getD i (0, 0)).2) ∧ (∀ v, v < 10 → f (58 + v) = nI (c.villages v)) ∧
  (∀ i, i < c.parties.length → f (68 + 2 * i) = nI (c.parties.getD i (0, 0)).1 ∧ f (68 + 2 * i + 1) = nI (c.parties.getD i (0, 0)).2) ∧
  ∀ i, i < c.steps.length → f (85 + 44 * i) = nI (c.steps.getD i c.now).people ∧ RepRow (c.steps.getD i c.now) f (85 + 44 * i + 1) (85 + 44 * i + 14)
def WC : Cd → Nat → Nat → Prop
  | [], nv, nt => nv = 1 ∧ nt = 0
  | (o, v) :: l, nv, nt =>
    if o ≤ 1 then v ≤ 1000000 ∧ (o = 1 → v < 8) ∧ WC l (nv + 1) nt
    else if o = 3 then 2 ≤ nv ∧ 1 ≤ nt ∧ WC l (nv - 1) (nt - 1)
    else if o ≤ 5 then 1 ≤ nv ∧ WC l nv nt
    else if o < 10 then 2 ≤ nv ∧ WC l (nv - 1) nt
    else if o < 20 then 2 ≤ nv ∧ WC l (nv - 2) (nt + 1)
    else if o = 20 then 1 ≤ nt ∧ WC l nv nt
    else o < 100 ∧ 2 ≤ nt ∧ WC l nv (nt - 1)
def WTx (x : Tx) : Prop :=
  x.clauses.length ≤ 24 ∧ (∀ k, k < x.clauses.length → (x.clauses.getD k (0, 0, 0)).1 ≤ 8) ∧
  (x.says.isSome = true ↔ ∃ k, k < x.clauses.length ∧ (x.clauses.getD k (0, 0, 0)).1 = 0) ∧ (x.sways.isSome = true ↔ ∃ k, k < x.clauses.length ∧ (x.clauses.getD k (0, 0, 0)).1 = 1) ∧
  (∀ q, x.says = some q → WC q.1 0 0) ∧ ∀ q, x.sways = some q → WC q.1 0 0
def Wf (c : Cr) : Prop :=
  Mok c.now ∧ (∀ p, c.sort p ≤ 3) ∧ (∀ p, c.begun p ≤ 9) ∧ (∀ p, c.hears p < 2 ^ c.now.people) ∧ (∀ p, c.now.people ≤ p → c.hears p = 0) ∧ c.steps.length ≤ 30 ∧ (∀ m ∈ c.steps, Mok m ∧ m.people ≤ c.now.people) ∧
  c.texts.length ≤ 4 ∧ (∀ t, c.ruling = some t → t < c.texts.length) ∧ c.parties.length ≤ 8 ∧ (∀ q ∈ c.parties, q.1 ≤ q.2 ∧ q.2 ≤ 8) ∧ c.saids.length ≤ 8 ∧ (∀ q ∈ c.saids, q.1 ≤ 8 ∧ q.2 ≤ 8) ∧ (∀ v, c.villages v ≤ 99) ∧ ∀ x ∈ c.texts, WTx x
section RepAFacts
variable {c : Cr} {f : Nat → Int32}
theorem RepA.people (h : RepA c f) : f 0 = nI c.now.people := h.1
theorem RepA.texts (h : RepA c f) : f 1 = nI c.texts.length := h.2.1
theorem RepA.ruling (h : RepA c f) : f 2 = enO c.ruling := h.2.2.1
theorem RepA.steps (h : RepA c f) : f 3 = nI c.steps.length := h.2.2.2.1
theorem RepA.saids (h : RepA c f) : f 4 = nI c.saids.length := h.2.2.2.2.1
theorem RepA.parties (h : RepA c f) : f 84 = nI c.parties.length := h.2.2.2.2.2.1
theorem RepA.row (h : RepA c f) : RepRow c.now f 5 1405 := h.2.2.2.2.2.2.1
theorem RepA.round (h : RepA c f) : f 5 = nI c.now.round := h.row.1
theorem RepA.x (h : RepA c f) : f 6 = nI c.now.x := h.row.2.1
theorem RepA.figure (h : RepA c f) : f 7 = nI c.now.figure := h.row.2.2.1
theorem RepA.written (h : RepA c f) : f 8 = nI c.now.book.length := h.row.2.2.2.1
theorem RepA.answers (h : RepA c f) : f 9 = nI c.now.answers := h.row.2.2.2.2.1
theorem RepA.lean (h : RepA c f) {p : Nat} (hp : p < c.now.people) : f (10 + p) = nI (c.now.lean p) := h.row.2.2.2.2.2.1 p hp
theorem RepA.book (h : RepA c f) {i : Nat} (hi : i < c.now.book.length) : f (1405 + i) = nI (enB (c.now.book.getD i (0, 0, 0))) := h.row.2.2.2.2.2.2 i hi
theorem RepA.sort (h : RepA c f) {p : Nat} (hp : p < c.now.people) : f (18 + p) = nI (c.sort p) := h.2.2.2.2.2.2.2.1 p hp
theorem RepA.begun (h : RepA c f) {p : Nat} (hp : p < c.now.people) : f (26 + p) = nI (c.begun p) := h.2.2.2.2.2.2.2.2.1 p hp
theorem RepA.hears (h : RepA c f) {p : Nat} (hp : p < 8) : f (34 + p) = nI (c.hears p) := h.2.2.2.2.2.2.2.2.2.1 p hp
theorem RepA.said (h : RepA c f) {i : Nat} (hi : i < c.saids.length) : f (42 + 2 * i) = nI (c.saids.getD i (0, 0)).1 ∧ f (42 + 2 * i + 1) = nI (c.saids.getD i (0, 0)).2 := h.2.2.2.2.2.2.2.2.2.2.1 i hi
theorem RepA.village (h : RepA c f) {v : Nat} (hv : v < 10) : f (58 + v) = nI (c.villages v) := h.2.2.2.2.2.2.2.2.2.2.2.1 v hv
theorem RepA.party (h : RepA c f) {i : Nat} (hi : i < c.parties.length) : f (68 + 2 * i) = nI (c.parties.getD i (0, 0)).1 ∧ f (68 + 2 * i + 1) = nI (c.parties.getD i (0, 0)).2 := h.2.2.2.2.2.2.2.2.2.2.2.2.1 i hi
theorem RepA.step (h : RepA c f) {i : Nat} (hi : i < c.steps.length) : f (85 + 44 * i) = nI (c.steps.getD i c.now).people ∧ RepRow (c.steps.getD i c.now) f (85 + 44 * i + 1) (85 + 44 * i + 14) := h.2.2.2.2.2.2.2.2.2.2.2.2.2 i hi
theorem Wf.mo (h : Wf c) : Mok c.now := h.1
theorem Wf.p8 (h : Wf c) : c.now.people ≤ 8 := h.1.1
theorem Wf.lean9 (h : Wf c) (p : Nat) : c.now.lean p ≤ 9 := h.1.2.1 p
theorem Wf.ans (h : Wf c) : c.now.answers < 2 ^ c.now.people := h.1.2.2.1
theorem Wf.ans8 (h : Wf c) : c.now.answers < 256 := Nat.lt_of_lt_of_le h.ans (show 2 ^ c.now.people ≤ 2 ^ 8 from Nat.pow_le_pow_right (by decide) h.p8)
theorem Wf.fig (h : Wf c) : c.now.figure ≤ c.now.people := by rw [h.1.2.2.2.1]; exact pc9_le h.ans
theorem Wf.fig8 (h : Wf c) : c.now.figure ≤ 8 := Nat.le_trans h.fig h.p8
theorem Wf.round (h : Wf c) : c.now.round ≤ 9999 := h.1.2.2.2.2.1
theorem Wf.x (h : Wf c) : c.now.x < 31033 := h.1.2.2.2.2.2.1
theorem Wf.book (h : Wf c) : c.now.book.length ≤ 30 := h.1.2.2.2.2.2.2.1
theorem Wf.sort3 (h : Wf c) (p : Nat) : c.sort p ≤ 3 := h.2.1 p
theorem Wf.begun9 (h : Wf c) (p : Nat) : c.begun p ≤ 9 := h.2.2.1 p
theorem Wf.hears (h : Wf c) (p : Nat) : c.hears p < 2 ^ c.now.people := h.2.2.2.1 p
theorem Wf.hears8 (h : Wf c) (p : Nat) : c.hears p < 256 := Nat.lt_of_lt_of_le (h.hears p) (show 2 ^ c.now.people ≤ 2 ^ 8 from Nat.pow_le_pow_right (by decide) h.p8)
theorem Wf.hears0 (h : Wf c) {p : Nat} (hp : c.now.people ≤ p) : c.hears p = 0 := h.2.2.2.2.1 p hp
theorem Wf.steps (h : Wf c) : c.steps.length ≤ 30 := h.2.2.2.2.2.1
theorem Wf.step (h : Wf c) : ∀ m ∈ c.steps, Mok m ∧ m.people ≤ c.now.people := h.2.2.2.2.2.2.1
theorem Wf.texts (h : Wf c) : c.texts.length ≤ 4 := h.2.2.2.2.2.2.2.1
theorem Wf.ruling (h : Wf c) : ∀ t, c.ruling = some t → t < c.texts.length := h.2.2.2.2.2.2.2.2.1
theorem Wf.parties (h : Wf c) : c.parties.length ≤ 8 := h.2.2.2.2.2.2.2.2.2.1
theorem Wf.party (h : Wf c) : ∀ q ∈ c.parties, q.1 ≤ q.2 ∧ q.2 ≤ 8 := h.2.2.2.2.2.2.2.2.2.2.1
theorem Wf.saids (h : Wf c) : c.saids.length ≤ 8 := h.2.2.2.2.2.2.2.2.2.2.2.1
theorem Wf.said (h : Wf c) : ∀ q ∈ c.saids, q.1 ≤ 8 ∧ q.2 ≤ 8 := h.2.2.2.2.2.2.2.2.2.2.2.2.1
theorem Wf.village (h : Wf c) (v : Nat) : c.villages v ≤ 99 := h.2.2.2.2.2.2.2.2.2.2.2.2.2.1 v
theorem Wf.text (h : Wf c) : ∀ x ∈ c.texts, WTx x := h.2.2.2.2.2.2.2.2.2.2.2.2.2.2
end RepAFacts
def Sx (P : Nat → Prop) (M M' : Mem) : Prop := mR M' = mR M ∧ ∀ a, ¬ P a → mI M' a = mI M a ∧ mL M' a = mL M a
theorem Sx.rf {P : Nat → Prop} {M : Mem} : Sx P M M := ⟨rfl, fun _ _ => ⟨rfl, rfl⟩⟩
theorem Sx.tr {P : Nat → Prop} {M M' M2 : Mem} (h : Sx P M M') (g : Sx P M' M2) : Sx P M M2 := ⟨g.1.trans h.1, fun a ha => ⟨(g.2 a ha).1.trans (h.2 a ha).1, (g.2 a ha).2.trans (h.2 a ha).2⟩⟩
theorem Sx.wk {P P' : Nat → Prop} {M M' : Mem} (h : Sx P M M') (hp : ∀ a, P a → P' a) : Sx P' M M' := ⟨h.1, fun a ha => h.2 a (fun q => ha (hp a q))⟩
theorem Sx.wI {P : Nat → Prop} {M M' : Mem} {a j : Nat} {x : Int32} (h : Sx P M M') (ha : P a) : Sx P M (wI M' a j x) := ⟨h.1, fun b hb => ⟨(upd2_ne _ (fun e => hb (by rw [show b = a from e]; exact ha))).trans (h.2 b hb).1, (h.2 b hb).2⟩⟩
theorem Sx.wL {P : Nat → Prop} {M M' : Mem} {a j : Nat} {x : Int64} (h : Sx P M M') (ha : P a) : Sx P M (wL M' a j x) := ⟨h.1, fun b hb => ⟨(h.2 b hb).1, (upd2_ne _ (fun e => hb (by rw [show b = a from e]; exact ha))).trans (h.2 b hb).2⟩⟩
theorem Sx.wA {P : Nat → Prop} {M M' : Mem} {a : Nat} {g : Nat → Int32} (h : Sx P M M') (ha : P a) : Sx P M (wA M' a g) := ⟨h.1, fun b hb => ⟨(upda_ne _ (fun e => hb (by rw [show b = a from e]; exact ha))).trans (h.2 b hb).1, (h.2 b hb).2⟩⟩
theorem MR.sx {P : Nat → Prop} {M M' : Mem} (h : MR M) (g : Sx P M M') : MR M' := fun j hj => by rw [g.1]; exact h j hj
