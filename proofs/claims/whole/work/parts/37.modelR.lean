theorem getD_lt {α : Type} {l : List α} {i : Nat} (h : i < l.length) (d d' : α) : l.getD i d = l.getD i d' := by
  rw [List.getD_eq_getElem?_getD, List.getD_eq_getElem?_getD, List.getElem?_eq_getElem h]
  rfl
theorem RepRow.cg {m : Mo} {f f' : Nat → Int32} {b bk : Nat} (h : RepRow m f b bk) (hp : m.people ≤ 8) (hb : m.book.length ≤ 30) (e1 : ∀ i, b ≤ i → i < b + 13 → f' i = f i) (e2 : ∀ i, bk ≤ i → i < bk + 30 → f' i = f i) : RepRow m f' b bk := by
  obtain ⟨r0, r1, r2, r3, r4, r5, r6⟩ := h
  exact ⟨(e1 _ (by omega) (by omega)).trans r0, (e1 _ (by omega) (by omega)).trans r1, (e1 _ (by omega) (by omega)).trans r2, (e1 _ (by omega) (by omega)).trans r3, (e1 _ (by omega) (by omega)).trans r4, fun p hp2 => (e1 _ (by omega) (by omega)).trans (r5 p hp2), fun i hi => (e2 _ (by omega) (by omega)).trans (r6 i hi)⟩
def StepsR (l : List Mo) (f : Nat → Int32) : Prop := ∀ i m, l[i]? = some m → f (85 + 44 * i) = nI m.people ∧ RepRow m f (85 + 44 * i + 1) (85 + 44 * i + 14)
theorem RepA.stepsR {c : Cr} {f : Nat → Int32} (h : RepA c f) : StepsR c.steps f := by
  intro i m hm
  obtain ⟨hi, e⟩ := List.getElem?_eq_some_iff.mp hm
  have := h.step hi
  rw [List.getD_eq_getElem?_getD, hm] at this
  exact this
theorem StepsR.A {c : Cr} {f : Nat → Int32} (h : StepsR c.steps f) : ∀ i, i < c.steps.length → f (85 + 44 * i) = nI (c.steps.getD i c.now).people ∧ RepRow (c.steps.getD i c.now) f (85 + 44 * i + 1) (85 + 44 * i + 14) := by
  intro i hi
  have e : c.steps.getD i c.now = c.steps[i] := by rw [List.getD_eq_getElem?_getD, List.getElem?_eq_getElem hi]; rfl
  rw [e]
  exact h i _ (List.getElem?_eq_getElem hi)
theorem StepsR.cg {l : List Mo} {f f' : Nat → Int32} (h : StepsR l f) (hl : l.length ≤ 30) (hm : ∀ m ∈ l, Mok m) (e : ∀ i, 85 ≤ i → i < 1405 → f' i = f i) : StepsR l f' := by
  intro i m hi
  obtain ⟨hlt, e1⟩ := List.getElem?_eq_some_iff.mp hi
  have hmem : m ∈ l := by rw [← e1]; exact List.getElem_mem hlt
  obtain ⟨h1, h2⟩ := h i m hi
  have hk := hm m hmem
  exact ⟨(e _ (by omega) (by omega)).trans h1, h2.cg hk.1 hk.2.2.2.2.2.2.1 (fun j a b => e j (by omega) (by omega)) (fun j a b => e j (by omega) (by omega))⟩
