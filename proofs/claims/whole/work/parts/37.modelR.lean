theorem getD_lt {α : Type} {l : List α} {i : Nat} (h : i < l.length) (d d' : α) : l.getD i d = l.getD i d' := by
  rw [List.getD_eq_getElem?_getD, List.getD_eq_getElem?_getD, List.getElem?_eq_getElem h]
  rfl
theorem RepRow.cg {m : Mo} {f f' : Nat → Int32} {b bk : Nat} (h : RepRow m f b bk) (hp : m.people ≤ 8) (hb : m.book.length ≤ 30) (e1 : ∀ i, b ≤ i → i < b + 13 → f' i = f i) (e2 : ∀ i, bk ≤ i → i < bk + 30 → f' i = f i) : RepRow m f' b bk := by
  obtain ⟨r0, r1, r2, r3, r4, r5, r6⟩ := h
  exact ⟨(e1 _ (by omega) (by omega)).trans r0, (e1 _ (by omega) (by omega)).trans r1, (e1 _ (by omega) (by omega)).trans r2, (e1 _ (by omega) (by omega)).trans r3, (e1 _ (by omega) (by omega)).trans r4, fun p hp2 => (e1 _ (by omega) (by omega)).trans (r5 p hp2), fun i hi => (e2 _ (by omega) (by omega)).trans (r6 i hi)⟩
def StepsR (l : List Mo) (f : Nat → Int32) : Prop := ∀ i m, l[i]? = some m → f (85 + 44 * i) = nI m.people ∧ RepRow m f (85 + 44 * i + 1) (85 + 44 * i + 14)
theorem RepA.stepsR {c : Cr} {f : Nat → Int32} (h : RepA c f) : StepsR c.steps f := by
  intro i m hm
  obtain ⟨hi, e⟩ := List.getElem?_eq_some_iff.mp hm
  have := h.step hi
  rw [List.getD_eq_getElem?_getD, hm] at this
  exact this
theorem StepsR.A {c : Cr} {f : Nat → Int32} (h : StepsR c.steps f) : ∀ i, i < c.steps.length → f (85 + 44 * i) = nI (c.steps.getD i c.now).people ∧ RepRow (c.steps.getD i c.now) f (85 + 44 * i + 1) (85 + 44 * i + 14) := by
  intro i hi
  have e : c.steps.getD i c.now = c.steps[i] := by rw [List.getD_eq_getElem?_getD, List.getElem?_eq_getElem hi]; rfl
  rw [e]
  exact h i _ (List.getElem?_eq_getElem hi)
theorem StepsR.cg {l : List Mo} {f f' : Nat → Int32} (h : StepsR l f) (hl : l.length ≤ 30) (hm : ∀ m ∈ l, Mok m) (e : ∀ i, 85 ≤ i → i < 1405 → f' i = f i) : StepsR l f' := by
  intro i m hi
  obtain ⟨hlt, e1⟩ := List.getElem?_eq_some_iff.mp hi
  have hmem : m ∈ l := by rw [← e1]; exact List.getElem_mem hlt
  obtain ⟨h1, h2⟩ := h i m hi
  have hk := hm m hmem
  exact ⟨(e _ (by omega) (by omega)).trans h1, h2.cg hk.1 hk.2.2.2.2.2.2.1 (fun j a b => e j (by omega) (by omega)) (fun j a b => e j (by omega) (by omega))⟩
def Cr.mk (now : Mo) (sort begun hears : Nat → Nat) (steps : List Mo) (texts : List Tx) (ruling : Option Nat) (parties saids : List (Nat × Nat)) (villages : Nat → Nat) : Cr := (now, sort, begun, hears, steps, texts, ruling, parties, saids, villages)
def Cr.setVillage (c : Cr) (v n : Nat) : Cr := Cr.mk c.now c.sort c.begun c.hears c.steps c.texts c.ruling c.parties c.saids (fun i => if i = v then n else c.villages i)
theorem RepA_village {c : Cr} {f f' : Nat → Int32} {v n : Nat} (h : RepA c f) (hw : Wf c) (hv : v < 10) (e : ∀ i, f' i = if i = 58 + v then nI n else f i) : RepA (c.setVillage v n) f' := by
  have ne : ∀ i, i ≠ 58 + v → f' i = f i := fun i hi => (e i).trans (if_neg hi)
  have hst := h.stepsR
  have p8 := hw.p8
  have l8 := hw.parties
  have s8 := hw.saids
  obtain ⟨h0, h1, h2, h3, h4, h5, hr, h7, h8, h9, h10, h11, h12, h13⟩ := h
  refine ⟨(ne 0 (by omega)).trans h0, (ne 1 (by omega)).trans h1, (ne 2 (by omega)).trans h2, (ne 3 (by omega)).trans h3, (ne 4 (by omega)).trans h4, (ne 84 (by omega)).trans h5, hr.cg p8 hw.book (fun i a b => ne i (by omega)) (fun i a b => ne i (by omega)), fun q hq => (ne _ (by have : q < c.now.people := hq; omega)).trans (h7 q hq), fun q hq => (ne _ (by have : q < c.now.people := hq; omega)).trans (h8 q hq), fun q hq => (ne _ (by omega)).trans (h9 q hq), fun i hi => ⟨(ne _ (by have : i < c.saids.length := hi; omega)).trans (h10 i hi).1, (ne _ (by have : i < c.saids.length := hi; omega)).trans (h10 i hi).2⟩, fun w hw2 => ?_, fun i hi => ⟨(ne _ (by omega)).trans (h12 i hi).1, (ne _ (by omega)).trans (h12 i hi).2⟩, StepsR.A (c := c.setVillage v n) (hst.cg hw.steps (fun m hm => (hw.step m hm).1) (fun i a b => ne i (by omega)))⟩
  show f' (58 + w) = nI (if w = v then n else c.villages w)
  rw [e]
  by_cases q : w = v
  · rw [if_pos (by omega), if_pos q]
  · rw [if_neg (by omega), if_neg q]
    exact h11 w hw2
theorem Wf_village {c : Cr} {v n : Nat} (h : Wf c) (hn : n ≤ 99) : Wf (c.setVillage v n) := by
  obtain ⟨a1, a2, a3, a4, a5, a6, a7, a8, a9, a10, a11, a12, a13, a14, a15⟩ := h
  exact ⟨a1, a2, a3, a4, a5, a6, a7, a8, a9, a10, a11, a12, a13, fun i => by show (if i = v then n else c.villages i) ≤ 99; split; exact hn; exact a14 i, a15⟩
def S1 (a : Nat) : Prop := a = 1 ∨ SQ a
def st_village (c : Cr) (x y : Int32) : Cr := if inN x 10 ∧ inN y 100 then c.setVillage (tN x) (tN y) else c
theorem sp_TM_village {c : Cr} {M : Mem} (hM : HM c M) (x y : Int32) : E 1 0 0 Y_TM_village 0 [some (.ref 0), some (.int x), some (.int y)] [] GM M (QI GM fun r M' => r = pI (inN x 10 ∧ inN y 100) ∧ HM (st_village c x y) M' ∧ Sx S1 M M') := by
  have hR := hM.R
  have hA := hM.A
  revert x y
  refine args2 10 100 (fun v n hv hx ht hn hy ht2 => ?_) (fun x y hx => ?_) (fun x y hx hy => ?_)
  · have hM2 : HM (c.setVillage v n) (wI M 1 (58 + v) (nI n)) := ⟨hR, RepA_village hA hM.w hv (fun i => by rw [mI_wI]; by_cases hi : i = 58 + v <;> simp [hi]), hM.T, Wf_village hM.w (by omega)⟩
    refine E_iload_n d_TM_village_0 rfl ?_
    refine E_iconst (v := nI 0) d_TM_village_1 rfl ?_
    refine E_bipush (v := nI 9) d_TM_village_2 (by decide) ?_
    refine E_S3 (sp_TM_in _ 9 (by decide)) d_TM_village_4 ml_TM_69 cb_TM_isIn cs_TM_isIn ⟨by decide, by decide⟩ rfl (Nat.le_of_ble_eq_true rfl) (Nat.le_of_ble_eq_true rfl) (kI fun r1 M1 hc => ?_)
    obtain ⟨rfl, rfl⟩ := hc
    first | (with_reducible refine E_isP ?_; refine E_if_eq 20 d_TM_village_7 rfl (pb_0 fun h7 => ?_) (pb_1 fun h7 => ?_)) | (with_reducible refine E_isN1 ?_; refine E_if_eq 20 d_TM_village_7 rfl (nz_eq (by omega) fun h7 => ?_) (nz_ne fun h7 => ?_)) | refine E_if_eq 20 d_TM_village_7 rfl (fun h7 => ?_) (fun h7 => ?_)
    · exfalso; exact h7 hx
    refine E_iload_n d_TM_village_10 rfl ?_
    refine E_iconst (v := nI 0) d_TM_village_11 rfl ?_
    refine E_bipush (v := nI 99) d_TM_village_12 (by decide) ?_
    refine E_S3 (sp_TM_in _ 99 (by decide)) d_TM_village_14 ml_TM_69 cb_TM_isIn cs_TM_isIn ⟨by decide, by decide⟩ rfl (Nat.le_of_ble_eq_true rfl) (Nat.le_of_ble_eq_true rfl) (kI fun r1 M1 hc => ?_)
    obtain ⟨rfl, rfl⟩ := hc
    first | (with_reducible refine E_isP ?_; refine E_if_ne 22 d_TM_village_17 rfl (pb_1 fun h17 => ?_) (pb_0 fun h17 => ?_)) | (with_reducible refine E_isN1 ?_; refine E_if_ne 22 d_TM_village_17 rfl (nz_ne fun h17 => ?_) (nz_eq (by omega) fun h17 => ?_)) | refine E_if_ne 22 d_TM_village_17 rfl (fun h17 => ?_) (fun h17 => ?_)
    rotate_left
    · exfalso; exact h17 hy
    first | refine E_aload_n d_TM_village_22 rfl ?_ | refine E_aload_nN d_TM_village_22 rfl ?_
    refine E_getR (q := 1) d_TM_village_23 gf_TM_7 (by exact ⟨by decide, rfl⟩) (by exact hR _ rfl) ?_
    refine E_bipush (v := nI 58) d_TM_village_26 (by decide) ?_
    refine E_iload_n d_TM_village_28 rfl ?_
    first | (with_reducible refine E_isN2 ?_; refine E_iaddN d_TM_village_29 ?_) | refine E_iadd d_TM_village_29 ?_
    refine E_iload_n d_TM_village_30 rfl ?_
    refine E_iast d_TM_village_31 (by exact ⟨by decide, rfl⟩) (by exact ⟨by with_reducible rfl, by omega, by decide⟩) ?_
    refine E_iconst (v := nI 1) d_TM_village_32 rfl ?_
    refine E_retZ d_TM_village_33 rfl (by decide) ?_
    exact ⟨(pI_t ⟨hx, hy⟩).symm, by rw [st_village, if_pos ⟨hx, hy⟩, ht, ht2]; exact hM2, Sx.rf.wI (Or.inl rfl)⟩
  · refine E_iload_n d_TM_village_0 rfl ?_
    refine E_iconst (v := nI 0) d_TM_village_1 rfl ?_
    refine E_bipush (v := nI 9) d_TM_village_2 (by decide) ?_
    refine E_S3 (sp_TM_in _ 9 (by decide)) d_TM_village_4 ml_TM_69 cb_TM_isIn cs_TM_isIn ⟨by decide, by decide⟩ rfl (Nat.le_of_ble_eq_true rfl) (Nat.le_of_ble_eq_true rfl) (kI fun r1 M1 hc => ?_)
    obtain ⟨rfl, rfl⟩ := hc
    first | (with_reducible refine E_isP ?_; refine E_if_eq 20 d_TM_village_7 rfl (pb_0 fun h7 => ?_) (pb_1 fun h7 => ?_)) | (with_reducible refine E_isN1 ?_; refine E_if_eq 20 d_TM_village_7 rfl (nz_eq (by omega) fun h7 => ?_) (nz_ne fun h7 => ?_)) | refine E_if_eq 20 d_TM_village_7 rfl (fun h7 => ?_) (fun h7 => ?_)
    rotate_left
    · exfalso; exact hx h7
    refine E_iconst (v := nI 0) d_TM_village_20 rfl ?_
    refine E_retZ d_TM_village_21 rfl (by decide) ?_
    exact ⟨(pI_f (fun q => hx q.1)).symm, by rw [st_village, if_neg (fun q => hx q.1)]; exact hM, Sx.rf⟩
  · refine E_iload_n d_TM_village_0 rfl ?_
    refine E_iconst (v := nI 0) d_TM_village_1 rfl ?_
    refine E_bipush (v := nI 9) d_TM_village_2 (by decide) ?_
    refine E_S3 (sp_TM_in _ 9 (by decide)) d_TM_village_4 ml_TM_69 cb_TM_isIn cs_TM_isIn ⟨by decide, by decide⟩ rfl (Nat.le_of_ble_eq_true rfl) (Nat.le_of_ble_eq_true rfl) (kI fun r1 M1 hc => ?_)
    obtain ⟨rfl, rfl⟩ := hc
    first | (with_reducible refine E_isP ?_; refine E_if_eq 20 d_TM_village_7 rfl (pb_0 fun h7 => ?_) (pb_1 fun h7 => ?_)) | (with_reducible refine E_isN1 ?_; refine E_if_eq 20 d_TM_village_7 rfl (nz_eq (by omega) fun h7 => ?_) (nz_ne fun h7 => ?_)) | refine E_if_eq 20 d_TM_village_7 rfl (fun h7 => ?_) (fun h7 => ?_)
    · exfalso; exact h7 hx
    refine E_iload_n d_TM_village_10 rfl ?_
    refine E_iconst (v := nI 0) d_TM_village_11 rfl ?_
    refine E_bipush (v := nI 99) d_TM_village_12 (by decide) ?_
    refine E_S3 (sp_TM_in _ 99 (by decide)) d_TM_village_14 ml_TM_69 cb_TM_isIn cs_TM_isIn ⟨by decide, by decide⟩ rfl (Nat.le_of_ble_eq_true rfl) (Nat.le_of_ble_eq_true rfl) (kI fun r1 M1 hc => ?_)
    obtain ⟨rfl, rfl⟩ := hc
    first | (with_reducible refine E_isP ?_; refine E_if_ne 22 d_TM_village_17 rfl (pb_1 fun h17 => ?_) (pb_0 fun h17 => ?_)) | (with_reducible refine E_isN1 ?_; refine E_if_ne 22 d_TM_village_17 rfl (nz_ne fun h17 => ?_) (nz_eq (by omega) fun h17 => ?_)) | refine E_if_ne 22 d_TM_village_17 rfl (fun h17 => ?_) (fun h17 => ?_)
    · exfalso; exact hy h17
    refine E_iconst (v := nI 0) d_TM_village_20 rfl ?_
    refine E_retZ d_TM_village_21 rfl (by decide) ?_
    exact ⟨(pI_f (fun q => hy q.2)).symm, by rw [st_village, if_neg (fun q => hy q.2)]; exact hM, Sx.rf⟩
