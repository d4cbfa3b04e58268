theorem oneBy_cg {m m' : Mo} (h1 : m'.lean = m.lean) (h2 : m'.people = m.people) (h3 : m'.answers = m.answers) : oneBy m' = oneBy m := by
  funext o v
  unfold oneBy
  rw [h1, h2, h3]
theorem evR_cg {m m' : Mo} {nm : Nat → Int} (h : oneBy m' = oneBy m) : ∀ (code : Cd) S, evR nm m' code S = evR nm m code S := by
  intro code
  induction code with
  | nil => intro S; rfl
  | cons q l ih =>
    intro S
    obtain ⟨o, v⟩ := q
    rw [evR, evR, ih]
    unfold evR1
    rw [h]
theorem worthR_cg {m m' : Mo} {nm : Nat → Int} {code : Cd} (h : oneBy m' = oneBy m) : worthR code nm m' = worthR code nm m := by
  unfold worthR
  rw [evR_cg h]
theorem nmOf_cg {c c' : Cr} {m m' : Mo} (hs : c'.sort = c.sort) (hh : c'.hears = c.hears) (h1 : m'.lean = m.lean) (h2 : m'.people = m.people) (h3 : m'.answers = m.answers) (h4 : m'.round = m.round) (p f y : Nat) : nmOf c' m' p f y = nmOf c m p f y := by
  funext k
  unfold nmOf
  rw [hs, hh, h1, h2, h3, h4]
theorem isYes_cg {c c' : Cr} {m m' : Mo} (hs : c'.sort = c.sort) (hh : c'.hears = c.hears) (h1 : m'.lean = m.lean) (h2 : m'.people = m.people) (h3 : m'.answers = m.answers) (h4 : m'.round = m.round) (t : Option Tx) (p f : Nat) : isYes c' m' t p f = isYes c m t p f := by
  unfold isYes
  cases t.bind Tx.says with
  | none =>
    show bySort c' m' p f = bySort c m p f
    unfold bySort
    rw [hs, h1, h2]
  | some q =>
    show decide (0 < worthR q.1 (nmOf c' m' p f 0) m') = decide (0 < worthR q.1 (nmOf c m p f 0) m)
    rw [nmOf_cg hs hh h1 h2 h3 h4, worthR_cg (oneBy_cg h1 h2 h3)]
theorem sway_cg {c c' : Cr} {m m' : Mo} (hr : ruler c' = ruler c) (hs : c'.sort = c.sort) (hh : c'.hears = c.hears) (h1 : m'.lean = m.lean) (h2 : m'.people = m.people) (h3 : m'.answers = m.answers) (h4 : m'.round = m.round) (p f y : Nat) : sway c' m' p f y = sway c m p f y := by
  unfold sway
  rw [hr]
  cases (ruler c).bind Tx.sways with
  | none => rfl
  | some q =>
    show clampZ (worthR q.1 (nmOf c' m' p f y) m') (-2) 2 = clampZ (worthR q.1 (nmOf c m p f y) m) (-2) 2
    rw [nmOf_cg hs hh h1 h2 h3 h4, worthR_cg (oneBy_cg h1 h2 h3)]
def passW (w : Bool) (c : Cr) (m : Mo) (f : Nat) : Mo :=
  (fun p => (clampZ ((m.lean p : Int) + sway c m p f (if (answered c m f).testBit p = true then 1 else 0)) 0 9).toNat,
   (if w = true then push30 m.book (m.round, f, pc9 (answered c m f)) else m.book), m.people, answered c m f, pc9 (answered c m f), m.round + 1, nxs m.people m.x)
def passS (w : Bool) (c : Cr) (f : Nat) : Cr := c.setNow (passW w c c.now f)
def nlean (c : Cr) (f p : Nat) : Nat := (clampZ ((c.now.lean p : Int) + sway c c.now p f (if (answered c c.now f).testBit p = true then 1 else 0)) 0 9).toNat
theorem getD_snoc {α : Type} {l : List α} {e d : α} {i : Nat} : (l ++ [e]).getD i d = if i < l.length then l.getD i d else if i = l.length then e else d := by
  rw [List.getD_eq_getElem?_getD, List.getD_eq_getElem?_getD]
  by_cases h : i < l.length
  · rw [if_pos h, List.getElem?_append_left h]
  · rw [if_neg h, List.getElem?_append_right (by omega)]
    by_cases h2 : i = l.length
    · subst h2
      rw [if_pos rfl, Nat.sub_self]
      rfl
    · rw [if_neg h2, List.getElem?_eq_none (by simp; omega)]
      rfl
theorem getD_tail {α : Type} {l : List α} {d : α} {i : Nat} : l.tail.getD i d = l.getD (i + 1) d := by
  cases l with
  | nil => rfl
  | cons a l => rfl
theorem push30_len {α : Type} {l : List α} {e : α} (h : l.length ≤ 30) : (push30 l e).length = if l.length = 30 then 30 else l.length + 1 := by
  unfold push30
  by_cases q : l.length = 30
  · rw [if_pos q, if_pos q, List.length_append, List.length_tail, q]
    rfl
  · rw [if_neg q, if_neg q, List.length_append]
    rfl
theorem push30_le {α : Type} {l : List α} {e : α} (h : l.length ≤ 30) : (push30 l e).length ≤ 30 := by
  rw [push30_len h]
  split <;> omega
theorem push30_mem {α : Type} {l : List α} {e x : α} (h : x ∈ push30 l e) : x ∈ l ∨ x = e := by
  unfold push30 at h
  split at h
  · rcases List.mem_append.mp h with q | q
    · exact Or.inl (List.mem_of_mem_tail q)
    · exact Or.inr (List.mem_singleton.mp q)
  · rcases List.mem_append.mp h with q | q
    · exact Or.inl q
    · exact Or.inr (List.mem_singleton.mp q)
theorem wrF_out {F : Nat → Int32} {l : Nat} {v : Int32} {j : Nat} (hl : l ≤ 30) (h8 : j ≠ 8) (h : j < 1405) : wrF F l v j = F j := by
  unfold wrF
  by_cases q : l = 30
  · rw [if_pos q, if_neg (by omega), if_neg (by omega)]
  · rw [if_neg q, if_neg (by omega), if_neg h8]
theorem wrF_book {F : Nat → Int32} {bk : List (Nat × Nat × Nat)} {e : Nat × Nat × Nat} (hl : bk.length ≤ 30) (h8 : F 8 = nI bk.length) (h : ∀ i, i < bk.length → F (1405 + i) = nI (enB (bk.getD i (0, 0, 0)))) :
    wrF F bk.length (nI (enB e)) 8 = nI (push30 bk e).length ∧ ∀ i, i < (push30 bk e).length → wrF F bk.length (nI (enB e)) (1405 + i) = nI (enB ((push30 bk e).getD i (0, 0, 0))) := by
  rw [push30_len hl]
  by_cases q : bk.length = 30
  · rw [if_pos q]
    refine ⟨?_, fun i hi => ?_⟩
    · unfold wrF
      rw [if_pos q, if_neg (by omega), if_neg (by omega), h8, q]
    · unfold wrF push30
      rw [if_pos q, if_pos q, getD_snoc, List.length_tail, q]
      by_cases q2 : i < 29
      · rw [if_pos (by omega), if_pos (by omega), getD_tail]
        exact h (i + 1) (by omega)
      · rw [if_neg (by omega), if_pos (by omega), if_neg (by omega), if_pos (by omega)]
  · rw [if_neg q]
    refine ⟨?_, fun i hi => ?_⟩
    · unfold wrF
      rw [if_neg q, if_neg (by omega), if_pos rfl]
    · unfold wrF push30
      rw [if_neg q, if_neg q, getD_snoc]
      by_cases q2 : i < bk.length
      · rw [if_neg (by omega), if_neg (by omega), if_pos q2]
        exact h i q2
      · rw [if_pos (by omega), if_neg q2, if_pos (by omega)]
theorem clamp9 (z : Int) : (clampZ z 0 9).toNat ≤ 9 := by
  unfold clampZ
  split
  · decide
  · split
    · decide
    · omega
theorem answered_lt (c : Cr) (m : Mo) (f : Nat) : answered c m f < 2 ^ m.people := bset_lt _ _
theorem Mok_pass {c : Cr} {m : Mo} {f : Nat} (w : Bool) (h : Mok m) (hf : f ≤ 8) (hr : m.round < 9999) : Mok (passW w c m f) := by
  obtain ⟨h1, h2, h3, h4, h5, h6, h7, h8⟩ := h
  refine ⟨h1, fun p => clamp9 _, answered_lt c m f, rfl, hr, nxs_lt h6 _, ?_, ?_⟩
  · show (if w = true then _ else _ : List (Nat × Nat × Nat)).length ≤ 30
    split
    · exact push30_le h7
    · exact h7
  · show ∀ e ∈ (if w = true then _ else _ : List (Nat × Nat × Nat)), _
    split
    · intro e he
      rcases push30_mem he with q | q
      · exact h8 e q
      · rw [q]
        exact ⟨Nat.le_of_lt hr, hf, Nat.le_trans (pc9_le (answered_lt c m f)) h1⟩
    · exact h8
theorem HM_setX {c : Cr} {M : Mem} (h : HM c M) {x : Nat} (hx : x < 31033) : HM (c.setNow (c.now.setX x)) (wI M 1 6 (nI x)) := by
  have hA := h.A
  obtain ⟨r0, r1, r2, r3, r4, r5, r6⟩ := hA.row
  have hp8 := h.w.p8
  have ne : ∀ i, i ≠ 6 → mI (wI M 1 6 (nI x)) 1 i = mI M 1 i := fun i hi => (mI_w1 i).trans (if_neg hi)
  refine ⟨h.R, RepA_now hA h.w rfl ⟨(ne _ (by omega)).trans r0, (mI_w1 _).trans (if_pos rfl), (ne _ (by omega)).trans r2, (ne _ (by omega)).trans r3, (ne _ (by omega)).trans r4, fun p hp => (ne _ (by omega)).trans (r5 p hp), fun i hi => (ne _ (by omega)).trans (r6 i hi)⟩ (fun i a b => ne i (by omega)), h.T, Wf_now h.w (Mok_setX h.w.mo hx) rfl⟩
theorem S1.q {a : Nat} (h : SQ a) : S1 a := Or.inr h
theorem S1.o : S1 1 := Or.inl rfl
theorem S01.s {a : Nat} (h : S01 a) : S1 a := Or.inl h
theorem MR.sg {P : Nat → Prop} {M M' : Mem} (g : Sx P M M') (h : MR M) : MR M' := h.sx g
def SP (a : Nat) : Prop := a = 1 ∨ (6 ≤ a ∧ a ≤ 9)
theorem SP.y {a : Nat} (h : SY a) : SP a := Or.inr (by rcases h with rfl | rfl | rfl <;> decide)
theorem SP.o : SP 1 := Or.inl rfl
theorem SP.n : SP 9 := Or.inr (by decide)
theorem SP.s {a : Nat} (h : S01 a) : SP a := Or.inl h
theorem SP.w {a : Nat} (h : SP a) : S1 a := h.elim Or.inl (fun q => Or.inr q.1)
theorem lp_TM_pass1 {c : Cr} {M0 : Mem} {f : Nat} (hf : f ≤ 8) (hw : Wf c) {Q : Option Value → Geo → Mem → Prop} (K : ∀ M, HM (c.setNow (c.now.setX (nxs c.now.people c.now.x))) M → Sx SP M0 M → E 5 0 0 Y_TM_pass 64 [some (.ref 0), some (.int (nI f)), some (.int (nI (answered c c.now f))), none, none] [] GM M Q) :
    ∀ k p, p + k = c.now.people → ∀ M, HM (c.setNow (c.now.setX (nxs p c.now.x))) M → Sx SP M0 M → E 5 0 0 Y_TM_pass 4 [some (.ref 0), some (.int (nI f)), some (.int (nI (bset (fun p => isYes c c.now (ruler c) p f != decide (nxs p c.now.x % 20 = 0)) p))), some (.int (nI p)), none] [] GM M Q := by
  have hp8 := hw.p8
  intro k
  induction k with
  | zero =>
    intro p hp M hM hX
    have hR := hM.R
    have e0 : mI M 1 0 = nI c.now.people := hM.A.people
    have hp2 : p = c.now.people := by omega
    subst hp2
    refine E_iload_n d_TM_pass_4 rfl ?_
    first | refine E_aload_n d_TM_pass_5 rfl ?_ | refine E_aload_nN d_TM_pass_5 rfl ?_
    refine E_getR (q := 1) d_TM_pass_6 gf_TM_7 (by exact ⟨by decide, rfl⟩) (by exact hR _ rfl) ?_
    refine E_iconst (v := nI 0) d_TM_pass_9 rfl ?_
    refine E_iald d_TM_pass_10 (by exact ⟨by decide, rfl⟩) (by exact ⟨by with_reducible rfl, by omega, by decide⟩) (by exact e0) ?_
    first | (with_reducible refine E_isN2 ?_; refine E_icmp_ge 64 d_TM_pass_11 rfl (nb_le (by omega) (by omega) fun h11 => ?_) (nb_nle (by omega) (by omega) fun h11 => ?_)) | refine E_icmp_ge 64 d_TM_pass_11 rfl (fun h11 => ?_) (fun h11 => ?_)
    rotate_left
    · exfalso; omega
    refine E_wk ?_ (K M hM hX); exact ⟨Or.inl rfl, Or.inl rfl, Or.inl rfl, Or.inr rfl, Or.inl rfl, trivial⟩
  | succ k ih =>
    intro p hp M hM hX
    have hR := hM.R
    have e0 : mI M 1 0 = nI c.now.people := hM.A.people
    have hx := nxs_lt hw.x p
    have ey : isYes (c.setNow (c.now.setX (nxs p c.now.x))) (c.setNow (c.now.setX (nxs p c.now.x))).now (ruler (c.setNow (c.now.setX (nxs p c.now.x)))) p f = isYes c c.now (ruler c) p f := isYes_cg (c := c) (c' := c.setNow (c.now.setX (nxs p c.now.x))) (m := c.now) (m' := c.now.setX (nxs p c.now.x)) rfl rfl rfl rfl rfl rfl (ruler c) p f
    have up : ∀ (P : Prop) [Decidable P], (P ↔ (isYes c c.now (ruler c) p f != decide (nxs p c.now.x % 20 = 0)) = true) → ∀ v, v = pI P → ∀ M, HM (c.setNow (c.now.setX (nxs (p + 1) c.now.x))) M → Sx SP M0 M → E 5 0 0 Y_TM_pass 43 [some (.ref 0), some (.int (nI f)), some (.int (nI (bset (fun p => isYes c c.now (ruler c) p f != decide (nxs p c.now.x % 20 = 0)) p))), some (.int (nI p)), some (.int v)] [] GM M Q := by
      intro P _ hP v hv M hM hX
      subst hv
      rw [pI_congr hP]
      have ih2 := ih (p + 1) (by omega) M hM hX
      refine E_iload_n d_TM_pass_43 rfl ?_
      refine E_iload d_TM_pass_44 rfl ?_
      first | (with_reducible refine E_isP ?_; refine E_if_eq 55 d_TM_pass_46 rfl (pb_0 fun h46 => ?_) (pb_1 fun h46 => ?_)) | (with_reducible refine E_isN1 ?_; refine E_if_eq 55 d_TM_pass_46 rfl (nz_eq (by omega) fun h46 => ?_) (nz_ne fun h46 => ?_)) | refine E_if_eq 55 d_TM_pass_46 rfl (fun h46 => ?_) (fun h46 => ?_)
      · refine E_iconst (v := nI 0) d_TM_pass_55 rfl ?_
        first | (with_reducible refine E_isN2 ?_; refine E_iorN d_TM_pass_56 ?_) | refine E_ior d_TM_pass_56 ?_
        refine E_istore_2 d_TM_pass_57 rfl ?_
        first | (with_reducible refine E_isL3 ?_; refine E_iincN3 (m := 1) d_TM_pass_58 rfl rfl ?_) | refine E_iinc_3 d_TM_pass_58 rfl rfl ?_
        refine E_goto 4 d_TM_pass_61 rfl ?_
        refine E_wk (ls' := [some (.ref 0), some (.int (nI f)), some (.int (nI (bset (fun p => isYes c c.now (ruler c) p f != decide (nxs p c.now.x % 20 = 0)) (p + 1)))), some (.int (nI (p + 1))), none]) ?_ ih2
        first | (rw [bset_or1 (fun p => isYes c c.now (ruler c) p f != decide (nxs p c.now.x % 20 = 0)) p h46]; exact ⟨Or.inl rfl, Or.inl rfl, Or.inl rfl, Or.inl rfl, Or.inr rfl, trivial⟩) | (rw [Nat.or_zero, bset_or0 (fun p => isYes c c.now (ruler c) p f != decide (nxs p c.now.x % 20 = 0)) p h46]; exact ⟨Or.inl rfl, Or.inl rfl, Or.inl rfl, Or.inl rfl, Or.inr rfl, trivial⟩)
      · refine E_iconst (v := nI 1) d_TM_pass_49 rfl ?_
        refine E_iload_n d_TM_pass_50 rfl ?_
        first | (with_reducible refine E_isN2 ?_; first | refine E_ishl1 d_TM_pass_51 (by omega) ?_ | refine E_ishlN d_TM_pass_51 (by omega) (by omega) ?_) | refine E_ishl d_TM_pass_51 ?_
        refine E_goto 56 d_TM_pass_52 rfl ?_
        first | (with_reducible refine E_isN2 ?_; refine E_iorN d_TM_pass_56 ?_) | refine E_ior d_TM_pass_56 ?_
        refine E_istore_2 d_TM_pass_57 rfl ?_
        first | (with_reducible refine E_isL3 ?_; refine E_iincN3 (m := 1) d_TM_pass_58 rfl rfl ?_) | refine E_iinc_3 d_TM_pass_58 rfl rfl ?_
        refine E_goto 4 d_TM_pass_61 rfl ?_
        refine E_wk (ls' := [some (.ref 0), some (.int (nI f)), some (.int (nI (bset (fun p => isYes c c.now (ruler c) p f != decide (nxs p c.now.x % 20 = 0)) (p + 1)))), some (.int (nI (p + 1))), none]) ?_ ih2
        first | (rw [bset_or1 (fun p => isYes c c.now (ruler c) p f != decide (nxs p c.now.x % 20 = 0)) p h46]; exact ⟨Or.inl rfl, Or.inl rfl, Or.inl rfl, Or.inl rfl, Or.inr rfl, trivial⟩) | (rw [Nat.or_zero, bset_or0 (fun p => isYes c c.now (ruler c) p f != decide (nxs p c.now.x % 20 = 0)) p h46]; exact ⟨Or.inl rfl, Or.inl rfl, Or.inl rfl, Or.inl rfl, Or.inr rfl, trivial⟩)
    refine E_iload_n d_TM_pass_4 rfl ?_
    first | refine E_aload_n d_TM_pass_5 rfl ?_ | refine E_aload_nN d_TM_pass_5 rfl ?_
    refine E_getR (q := 1) d_TM_pass_6 gf_TM_7 (by exact ⟨by decide, rfl⟩) (by exact hR _ rfl) ?_
    refine E_iconst (v := nI 0) d_TM_pass_9 rfl ?_
    refine E_iald d_TM_pass_10 (by exact ⟨by decide, rfl⟩) (by exact ⟨by with_reducible rfl, by omega, by decide⟩) (by exact e0) ?_
    first | (with_reducible refine E_isN2 ?_; refine E_icmp_ge 64 d_TM_pass_11 rfl (nb_le (by omega) (by omega) fun h11 => ?_) (nb_nle (by omega) (by omega) fun h11 => ?_)) | refine E_icmp_ge 64 d_TM_pass_11 rfl (fun h11 => ?_) (fun h11 => ?_)
    · exfalso; omega
    first | refine E_aload_n d_TM_pass_14 rfl ?_ | refine E_aload_nN d_TM_pass_14 rfl ?_
    refine E_iload_n d_TM_pass_15 rfl ?_
    refine E_iload_n d_TM_pass_16 rfl ?_
    refine E_V2 (sp_TM_isYes hM (show p < c.now.people by omega) hf) d_TM_pass_17 ml_TM_299 cb_TM_isYes cv_TM_isYes (by exact ⟨by decide, rfl⟩) ⟨by decide, rfl⟩ ⟨by decide, by decide⟩ rfl (Nat.le_of_ble_eq_true rfl) (Nat.le_of_ble_eq_true rfl) (kI fun r1 M1 hc => ?_)
    obtain ⟨rfl, hS1⟩ := hc; rw [ey]
    have hM1 := hM.sy hS1
    have hX1 := hX.tr (hS1.wk fun _ q => SP.y q)
    refine E_istore_4 d_TM_pass_20 rfl ?_
    first | refine E_aload_n d_TM_pass_22 rfl ?_ | refine E_aload_nN d_TM_pass_22 rfl ?_
    refine E_bipush (v := nI 20) d_TM_pass_23 (by decide) ?_
    refine E_V1 (sp_TM_drawnBy hM1.R (show mI M1 1 6 = nI (nxs p c.now.x) from hM1.A.x) hx) d_TM_pass_25 ml_TM_302 cb_TM_drawnBy cv_TM_drawnBy (by exact ⟨by decide, rfl⟩) ⟨by decide, rfl⟩ ⟨by decide, by decide⟩ rfl (Nat.le_of_ble_eq_true rfl) (Nat.le_of_ble_eq_true rfl) (kI fun r1 M1 hc => ?_)
    obtain ⟨rfl, rfl⟩ := hc
    have hM2 : HM (c.setNow (c.now.setX (nxs (p + 1) c.now.x))) (wI M1 1 6 (nI (nx (nxs p c.now.x)))) := HM_setX hM1 (nx_lt _)
    have hX2 : Sx SP M0 (wI M1 1 6 (nI (nx (nxs p c.now.x)))) := hX1.wI SP.o
    first | (with_reducible refine E_isP ?_; refine E_if_ne 43 d_TM_pass_28 rfl (pb_1 fun h28 => ?_) (pb_0 fun h28 => ?_)) | (with_reducible refine E_isN1 ?_; refine E_if_ne 43 d_TM_pass_28 rfl (nz_ne fun h28 => ?_) (nz_eq (by omega) fun h28 => ?_)) | refine E_if_ne 43 d_TM_pass_28 rfl (fun h28 => ?_) (fun h28 => ?_)
    · first | exact up (isYes c c.now (ruler c) p f = true) (by rw [decide_eq_false h28]; cases isYes c c.now (ruler c) p f <;> exact Iff.rfl) _ rfl _ hM2 hX2 | exact up False (by rw [decide_eq_true h28, h33]; exact ⟨False.elim, fun q => Bool.noConfusion q⟩) _ rfl _ hM2 hX2 | exact up True (by rw [decide_eq_true h28, Bool.eq_false_iff.mpr h33]; exact ⟨fun _ => rfl, fun _ => trivial⟩) _ rfl _ hM2 hX2
    · refine E_iload d_TM_pass_31 rfl ?_
      first | (with_reducible refine E_isP ?_; refine E_if_ne 40 d_TM_pass_33 rfl (pb_1 fun h33 => ?_) (pb_0 fun h33 => ?_)) | (with_reducible refine E_isN1 ?_; refine E_if_ne 40 d_TM_pass_33 rfl (nz_ne fun h33 => ?_) (nz_eq (by omega) fun h33 => ?_)) | refine E_if_ne 40 d_TM_pass_33 rfl (fun h33 => ?_) (fun h33 => ?_)
      · refine E_iconst (v := nI 0) d_TM_pass_40 rfl ?_
        refine E_istore_4 d_TM_pass_41 rfl ?_
        first | exact up (isYes c c.now (ruler c) p f = true) (by rw [decide_eq_false h28]; cases isYes c c.now (ruler c) p f <;> exact Iff.rfl) _ rfl _ hM2 hX2 | exact up False (by rw [decide_eq_true h28, h33]; exact ⟨False.elim, fun q => Bool.noConfusion q⟩) _ rfl _ hM2 hX2 | exact up True (by rw [decide_eq_true h28, Bool.eq_false_iff.mpr h33]; exact ⟨fun _ => rfl, fun _ => trivial⟩) _ rfl _ hM2 hX2
      · refine E_iconst (v := nI 1) d_TM_pass_36 rfl ?_
        refine E_goto 41 d_TM_pass_37 rfl ?_
        refine E_istore_4 d_TM_pass_41 rfl ?_
        first | exact up (isYes c c.now (ruler c) p f = true) (by rw [decide_eq_false h28]; cases isYes c c.now (ruler c) p f <;> exact Iff.rfl) _ rfl _ hM2 hX2 | exact up False (by rw [decide_eq_true h28, h33]; exact ⟨False.elim, fun q => Bool.noConfusion q⟩) _ rfl _ hM2 hX2 | exact up True (by rw [decide_eq_true h28, Bool.eq_false_iff.mpr h33]; exact ⟨fun _ => rfl, fun _ => trivial⟩) _ rfl _ hM2 hX2
theorem iI_add (x y : Int) : iI x + iI y = iI (x + y) := (Int32.ofInt_add x y).symm
theorem sway_bd (c : Cr) (m : Mo) (p f y : Nat) : -2 ≤ sway c m p f y ∧ sway c m p f y ≤ 2 := by
  unfold sway
  cases (ruler c).bind Tx.sways with
  | none =>
    show (-2 : Int) ≤ 0 ∧ (0 : Int) ≤ 2
    exact ⟨by decide, by decide⟩
  | some q =>
    show -2 ≤ clampZ _ _ _ ∧ clampZ _ _ _ ≤ 2
    unfold clampZ
    split
    · exact ⟨by decide, by decide⟩
    · split
      · exact ⟨by decide, by decide⟩
      · omega
theorem lp_TM_pass2 {c : Cr} {M0 : Mem} {f x : Nat} (hf : f ≤ 8) (hw : Wf c) {Q : Option Value → Geo → Mem → Prop} (K : ∀ M, HM (c.setNow (c.now.setX x)) M → Sx SP M0 M → (∀ q, q < c.now.people → mI M 9 q = nI (nlean c f q)) → E 5 0 0 Y_TM_pass 116 [some (.ref 0), some (.int (nI f)), some (.int (nI (answered c c.now f))), none, none] [] GM M Q) :
    ∀ k p, p + k = c.now.people → ∀ M, HM (c.setNow (c.now.setX x)) M → Sx SP M0 M → (∀ q, q < p → mI M 9 q = nI (nlean c f q)) → E 5 0 0 Y_TM_pass 66 [some (.ref 0), some (.int (nI f)), some (.int (nI (answered c c.now f))), some (.int (nI p)), none] [] GM M Q := by
  have hp8 := hw.p8
  have hans : answered c c.now f < 256 := bset_lt256 _ hp8
  intro k
  induction k with
  | zero =>
    intro p hp M hM hX hN
    have hR := hM.R
    have e0 : mI M 1 0 = nI c.now.people := hM.A.people
    have hp2 : p = c.now.people := by omega
    subst hp2
    refine E_iload_n d_TM_pass_66 rfl ?_
    first | refine E_aload_n d_TM_pass_67 rfl ?_ | refine E_aload_nN d_TM_pass_67 rfl ?_
    refine E_getR (q := 1) d_TM_pass_68 gf_TM_7 (by exact ⟨by decide, rfl⟩) (by exact hR _ rfl) ?_
    refine E_iconst (v := nI 0) d_TM_pass_71 rfl ?_
    refine E_iald d_TM_pass_72 (by exact ⟨by decide, rfl⟩) (by exact ⟨by with_reducible rfl, by omega, by decide⟩) (by exact e0) ?_
    first | (with_reducible refine E_isN2 ?_; refine E_icmp_ge 116 d_TM_pass_73 rfl (nb_le (by omega) (by omega) fun h73 => ?_) (nb_nle (by omega) (by omega) fun h73 => ?_)) | refine E_icmp_ge 116 d_TM_pass_73 rfl (fun h73 => ?_) (fun h73 => ?_)
    rotate_left
    · exfalso; omega
    refine E_wk ?_ (K M hM hX hN); exact ⟨Or.inl rfl, Or.inl rfl, Or.inl rfl, Or.inr rfl, Or.inl rfl, trivial⟩
  | succ k ih =>
    intro p hp M hM hX hN
    have hR := hM.R
    have e0 : mI M 1 0 = nI c.now.people := hM.A.people
    have hpp : p < c.now.people := by omega
    have e1 : mI M 1 (10 + p) = nI (c.now.lean p) := hM.A.lean hpp
    have hl9 := hw.lean9 p
    have hsb := sway_bd c c.now p f (if (answered c c.now f).testBit p = true then 1 else 0)
    have ey : ∀ y, sway (c.setNow (c.now.setX x)) (c.setNow (c.now.setX x)).now p f y = sway c c.now p f y := fun y => sway_cg (c := c) (c' := c.setNow (c.now.setX x)) (m := c.now) (m' := c.now.setX x) rfl rfl rfl rfl rfl rfl rfl p f y
    have hz : zM ((c.now.lean p : Int) + sway c c.now p f (if (answered c c.now f).testBit p = true then 1 else 0)) := ⟨by omega, by omega⟩
    refine E_iload_n d_TM_pass_66 rfl ?_
    first | refine E_aload_n d_TM_pass_67 rfl ?_ | refine E_aload_nN d_TM_pass_67 rfl ?_
    refine E_getR (q := 1) d_TM_pass_68 gf_TM_7 (by exact ⟨by decide, rfl⟩) (by exact hR _ rfl) ?_
    refine E_iconst (v := nI 0) d_TM_pass_71 rfl ?_
    refine E_iald d_TM_pass_72 (by exact ⟨by decide, rfl⟩) (by exact ⟨by with_reducible rfl, by omega, by decide⟩) (by exact e0) ?_
    first | (with_reducible refine E_isN2 ?_; refine E_icmp_ge 116 d_TM_pass_73 rfl (nb_le (by omega) (by omega) fun h73 => ?_) (nb_nle (by omega) (by omega) fun h73 => ?_)) | refine E_icmp_ge 116 d_TM_pass_73 rfl (fun h73 => ?_) (fun h73 => ?_)
    · exfalso; omega
    first | refine E_aload_n d_TM_pass_76 rfl ?_ | refine E_aload_nN d_TM_pass_76 rfl ?_
    refine E_getR (q := 9) d_TM_pass_77 gf_TM_47 (by exact ⟨by decide, rfl⟩) (by exact hR _ rfl) ?_
    refine E_iload_n d_TM_pass_80 rfl ?_
    first | refine E_aload_n d_TM_pass_81 rfl ?_ | refine E_aload_nN d_TM_pass_81 rfl ?_
    refine E_getR (q := 1) d_TM_pass_82 gf_TM_7 (by exact ⟨by decide, rfl⟩) (by exact hR _ rfl) ?_
    refine E_bipush (v := nI 10) d_TM_pass_85 (by decide) ?_
    refine E_iload_n d_TM_pass_87 rfl ?_
    first | (with_reducible refine E_isN2 ?_; refine E_iaddN d_TM_pass_88 ?_) | refine E_iadd d_TM_pass_88 ?_
    refine E_iald d_TM_pass_89 (by exact ⟨by decide, rfl⟩) (by exact ⟨by with_reducible rfl, by omega, by decide⟩) (by exact e1) ?_
    first | refine E_aload_n d_TM_pass_90 rfl ?_ | refine E_aload_nN d_TM_pass_90 rfl ?_
    refine E_iload_n d_TM_pass_91 rfl ?_
    refine E_iload_n d_TM_pass_92 rfl ?_
    refine E_iload_n d_TM_pass_93 rfl ?_
    refine E_iload_n d_TM_pass_94 rfl ?_
    first | (with_reducible refine E_isN2 ?_; refine E_ishrN d_TM_pass_95 (by omega) (by omega) ?_) | refine E_ishr d_TM_pass_95 ?_
    refine E_iconst (v := nI 1) d_TM_pass_96 rfl ?_
    first | (with_reducible refine E_isN2 ?_; refine E_iandN d_TM_pass_97 ?_) | refine E_iand d_TM_pass_97 ?_
    refine E_V3 (sp_TM_swaysOf hM hpp hf Nat.and_le_right) d_TM_pass_98 ml_TM_305 cb_TM_swaysOf cv_TM_swaysOf (by exact ⟨by decide, rfl⟩) ⟨by decide, rfl⟩ ⟨by decide, by decide⟩ rfl (Nat.le_of_ble_eq_true rfl) (Nat.le_of_ble_eq_true rfl) (kI fun r1 M1 hc => ?_)
    obtain ⟨rfl, hS1⟩ := hc; rw [ey, tb_and, nI_iI (c.now.lean p)]
    have hM1 := hM.sy hS1
    have hX1 := hX.tr (hS1.wk fun _ q => SP.y q)
    have hR1 := hM1.R
    have e9 : ∀ q, q < p → mI M1 9 q = nI (nlean c f q) := fun q hq => by rw [(hS1.2 9 (by unfold SY; omega)).1]; exact hN q hq
    first | (with_reducible refine E_isN2 ?_; refine E_iaddN d_TM_pass_101 ?_) | refine E_iadd d_TM_pass_101 ?_
    rw [iI_add]
    first | (with_reducible refine E_isN1 ?_; refine E_i2lN d_TM_pass_102 (by omega) ?_) | refine E_i2l d_TM_pass_102 ?_
    rw [iI_l hz]
    refine E_iconst (v := nI 0) d_TM_pass_103 rfl ?_
    refine E_bipush (v := nI 9) d_TM_pass_104 (by decide) ?_
    refine E_S3 (sp_TM_held9 hz.b) d_TM_pass_106 ml_TM_286 cb_TM_held cs_TM_held ⟨by decide, by decide⟩ rfl (Nat.le_of_ble_eq_true rfl) (Nat.le_of_ble_eq_true rfl) (kI fun r1 M1 hc => ?_)
    obtain ⟨rfl, -, rfl⟩ := hc
    refine E_iast d_TM_pass_109 (by exact ⟨by decide, rfl⟩) (by exact ⟨by with_reducible rfl, by omega, by decide⟩) ?_
    first | (with_reducible refine E_isL3 ?_; refine E_iincN3 (m := 1) d_TM_pass_110 rfl rfl ?_) | refine E_iinc_3 d_TM_pass_110 rfl rfl ?_
    refine E_goto 66 d_TM_pass_113 rfl ?_
    refine ih (p + 1) (by omega) _ (hM1.sx (Sx.rf.wI (by unfold SQ; decide))) (hX1.wI SP.n) (fun q hq => ?_)
    rw [mI_wI]
    by_cases hqp : q = p
    · rw [if_pos ⟨rfl, hqp⟩, hqp]; rfl
    · rw [if_neg (fun r => hqp r.2)]; exact e9 q (by omega)
theorem lp_TM_pass3 {c : Cr} {M2 : Mem} {f ans : Nat} (hw : Wf c) (hR2 : MR M2) (h0 : mI M2 1 0 = nI c.now.people) (h9 : ∀ q, q < c.now.people → mI M2 9 q = nI (nlean c f q)) {Q : Option Value → Geo → Mem → Prop}
    (K : ∀ M, Sx S01 M2 M → (∀ j, mI M 1 j = if 10 ≤ j ∧ j < 10 + c.now.people then nI (nlean c f (j - 10)) else mI M2 1 j) → E 5 0 0 Y_TM_pass 149 [some (.ref 0), some (.int (nI f)), some (.int (nI ans)), none, none] [] GM M Q) :
    ∀ k p, p + k = c.now.people → ∀ M, Sx S01 M2 M → (∀ j, mI M 1 j = if 10 ≤ j ∧ j < 10 + p then nI (nlean c f (j - 10)) else mI M2 1 j) → E 5 0 0 Y_TM_pass 118 [some (.ref 0), some (.int (nI f)), some (.int (nI ans)), some (.int (nI p)), none] [] GM M Q := by
  have hp8 := hw.p8
  intro k
  induction k with
  | zero =>
    intro p hp M hX hF
    have hR := hR2.sx hX
    have e0 : mI M 1 0 = nI c.now.people := (hF 0).trans ((if_neg (by omega)).trans h0)
    have hp2 : p = c.now.people := by omega
    subst hp2
    refine E_iload_n d_TM_pass_118 rfl ?_
    first | refine E_aload_n d_TM_pass_119 rfl ?_ | refine E_aload_nN d_TM_pass_119 rfl ?_
    refine E_getR (q := 1) d_TM_pass_120 gf_TM_7 (by exact ⟨by decide, rfl⟩) (by exact hR _ rfl) ?_
    refine E_iconst (v := nI 0) d_TM_pass_123 rfl ?_
    refine E_iald d_TM_pass_124 (by exact ⟨by decide, rfl⟩) (by exact ⟨by with_reducible rfl, by omega, by decide⟩) (by exact e0) ?_
    first | (with_reducible refine E_isN2 ?_; refine E_icmp_ge 149 d_TM_pass_125 rfl (nb_le (by omega) (by omega) fun h125 => ?_) (nb_nle (by omega) (by omega) fun h125 => ?_)) | refine E_icmp_ge 149 d_TM_pass_125 rfl (fun h125 => ?_) (fun h125 => ?_)
    rotate_left
    · exfalso; omega
    refine E_wk ?_ (K M hX hF); exact ⟨Or.inl rfl, Or.inl rfl, Or.inl rfl, Or.inr rfl, Or.inl rfl, trivial⟩
  | succ k ih =>
    intro p hp M hX hF
    have hR := hR2.sx hX
    have e0 : mI M 1 0 = nI c.now.people := (hF 0).trans ((if_neg (by omega)).trans h0)
    have e9 : mI M 9 p = nI (nlean c f p) := by rw [(hX.2 9 (by unfold S01; decide)).1]; exact h9 p (by omega)
    refine E_iload_n d_TM_pass_118 rfl ?_
    first | refine E_aload_n d_TM_pass_119 rfl ?_ | refine E_aload_nN d_TM_pass_119 rfl ?_
    refine E_getR (q := 1) d_TM_pass_120 gf_TM_7 (by exact ⟨by decide, rfl⟩) (by exact hR _ rfl) ?_
    refine E_iconst (v := nI 0) d_TM_pass_123 rfl ?_
    refine E_iald d_TM_pass_124 (by exact ⟨by decide, rfl⟩) (by exact ⟨by with_reducible rfl, by omega, by decide⟩) (by exact e0) ?_
    first | (with_reducible refine E_isN2 ?_; refine E_icmp_ge 149 d_TM_pass_125 rfl (nb_le (by omega) (by omega) fun h125 => ?_) (nb_nle (by omega) (by omega) fun h125 => ?_)) | refine E_icmp_ge 149 d_TM_pass_125 rfl (fun h125 => ?_) (fun h125 => ?_)
    · exfalso; omega
    first | refine E_aload_n d_TM_pass_128 rfl ?_ | refine E_aload_nN d_TM_pass_128 rfl ?_
    refine E_getR (q := 1) d_TM_pass_129 gf_TM_7 (by exact ⟨by decide, rfl⟩) (by exact hR _ rfl) ?_
    refine E_bipush (v := nI 10) d_TM_pass_132 (by decide) ?_
    refine E_iload_n d_TM_pass_134 rfl ?_
    first | (with_reducible refine E_isN2 ?_; refine E_iaddN d_TM_pass_135 ?_) | refine E_iadd d_TM_pass_135 ?_
    first | refine E_aload_n d_TM_pass_136 rfl ?_ | refine E_aload_nN d_TM_pass_136 rfl ?_
    refine E_getR (q := 9) d_TM_pass_137 gf_TM_47 (by exact ⟨by decide, rfl⟩) (by exact hR _ rfl) ?_
    refine E_iload_n d_TM_pass_140 rfl ?_
    refine E_iald d_TM_pass_141 (by exact ⟨by decide, rfl⟩) (by exact ⟨by with_reducible rfl, by omega, by decide⟩) (by exact e9) ?_
    refine E_iast d_TM_pass_142 (by exact ⟨by decide, rfl⟩) (by exact ⟨by with_reducible rfl, by omega, by decide⟩) ?_
    first | (with_reducible refine E_isL3 ?_; refine E_iincN3 (m := 1) d_TM_pass_143 rfl rfl ?_) | refine E_iinc_3 d_TM_pass_143 rfl rfl ?_
    refine E_goto 118 d_TM_pass_146 rfl ?_
    refine ih (p + 1) (by omega) _ (hX.wI rfl) (fun j => ?_)
    rw [mI_w1]
    by_cases q : j = 10 + p
    · rw [if_pos q, if_pos (by omega), q, Nat.add_sub_cancel_left]
    · rw [if_neg q, hF]
      by_cases q2 : 10 ≤ j ∧ j < 10 + p
      · rw [if_pos q2, if_pos (by omega)]
      · rw [if_neg q2, if_neg (by omega)]
theorem sp_TM_writeW {M : Mem} {rd fg l g : Nat} {F : Nat → Int32} (w : Bool) (hR : MR M) (hw : mI M 0 23 = nI (if w = true then 1 else 0)) (hF : mI M 1 = F) (hl : F 8 = nI l) (hl30 : l ≤ 30) (hg : F 7 = nI g) : E 0 0 0 Y_TM_write 0 [some (.ref 0), some (.int (nI rd)), some (.int (nI fg)), none] [] GM M (QV GM fun M' => Sx S01 M M' ∧ ∀ j, mI M' 1 j = if w = true then wrF F l (nI ((rd * 9 + fg) * 9 + g)) j else F j) := by
  cases w with
  | true => exact E_mono (sp_TM_write hR hw hF hl hl30 hg) (fun _ _ _ h => ⟨h.1, h.2.1, h.2.2.1, fun j => (h.2.2.2 j).trans (if_pos rfl).symm⟩)
  | false => exact E_mono (sp_TM_write0 hR hw) (fun _ _ _ h => ⟨h.1, h.2.1, by rw [h.2.2]; exact Sx.rf, fun j => by rw [h.2.2, hF]; rfl⟩)
theorem mI_wx {M : Mem} {a k b j : Nat} {v : Int32} (h : b ≠ a) : mI (wI M a k v) b j = mI M b j := by rw [mI_wI, if_neg (fun q => h q.1)]
theorem RepA_pass {c : Cr} {f2 f3 Fw f' : Nat → Int32} {f : Nat} (w : Bool) (hA : RepA (c.setNow (c.now.setX (nxs c.now.people c.now.x))) f2) (hw : Wf c) (hw2 : Wf (c.setNow (c.now.setX (nxs c.now.people c.now.x))))
    (h3 : ∀ j, f3 j = if 10 ≤ j ∧ j < 10 + c.now.people then nI (nlean c f (j - 10)) else f2 j) (hFw : ∀ j, Fw j = if j = 7 then nI (pc9 (answered c c.now f)) else if j = 9 then nI (answered c c.now f) else f3 j)
    (h' : ∀ j, f' j = if j = 5 then nI (c.now.round + 1) else if w = true then wrF Fw c.now.book.length (nI (enB (c.now.round, f, pc9 (answered c c.now f)))) j else Fw j) : RepA (passS w c f) f' := by
  have hp8 := hw.p8
  have hb30 := hw.book
  have out : ∀ j, j ≠ 5 → j ≠ 8 → j < 1405 → f' j = Fw j := fun j a b d => by
    rw [h', if_neg a]
    split
    · exact wrF_out hb30 b d
    · rfl
  have ne : ∀ i, i < 1405 → (i < 5 ∨ 18 ≤ i) → f' i = f2 i := fun i a b => by rw [out i (by omega) (by omega) a, hFw, if_neg (by omega), if_neg (by omega), h3, if_neg (by omega)]
  have hF8 : Fw 8 = nI c.now.book.length := by rw [hFw, if_neg (by omega), if_neg (by omega), h3, if_neg (by omega)]; exact hA.written
  have hFb : ∀ i, i < c.now.book.length → Fw (1405 + i) = nI (enB (c.now.book.getD i (0, 0, 0))) := fun i hi => by rw [hFw, if_neg (by omega), if_neg (by omega), h3, if_neg (by omega)]; exact hA.book hi
  have hbk : f' 8 = nI (passW w c c.now f).book.length ∧ ∀ i, i < (passW w c c.now f).book.length → f' (1405 + i) = nI (enB ((passW w c c.now f).book.getD i (0, 0, 0))) := by
    cases w with
    | true =>
      have hh := wrF_book (e := (c.now.round, f, pc9 (answered c c.now f))) hb30 hF8 hFb
      exact ⟨(h' 8).trans ((if_neg (by omega)).trans ((if_pos rfl).trans hh.1)), fun i hi => (h' _).trans ((if_neg (by omega)).trans ((if_pos rfl).trans (hh.2 i hi)))⟩
    | false => exact ⟨(h' 8).trans ((if_neg (by omega)).trans hF8), fun i hi => (h' _).trans ((if_neg (by omega)).trans (hFb i hi))⟩
  refine RepA_now (c := c.setNow (c.now.setX (nxs c.now.people c.now.x))) (m := passW w c c.now f) hA hw2 rfl ⟨?_, ?_, ?_, hbk.1, ?_, fun p hp => ?_, hbk.2⟩ ne
  · rw [h', if_pos rfl]; rfl
  · rw [out _ (by omega) (by omega) (by omega), hFw, if_neg (by omega), if_neg (by omega), h3, if_neg (by omega)]; exact hA.x
  · rw [out _ (by omega) (by omega) (by omega), hFw, if_pos (by omega)]; rfl
  · rw [out _ (by omega) (by omega) (by omega), hFw, if_neg (by omega), if_pos (by omega)]; rfl
  · have hp2 : p < c.now.people := hp
    rw [out _ (by omega) (by omega) (by omega), hFw, if_neg (by omega), if_neg (by omega), h3, if_pos (by omega), show 5 + 5 + p - 10 = p by omega]; rfl
theorem HM.xr {c : Cr} {M : Mem} (h : HM c M) : mI M 1 6 = nI c.now.x := h.A.x
theorem sp_TM_passP {c : Cr} {M : Mem} {f : Nat} (w : Bool) (hM : HM c M) (hw : mI M 0 23 = nI (if w = true then 1 else 0)) (hf : f ≤ 8) (hr : c.now.round < 9999) : E 5 0 0 Y_TM_pass 0 [some (.ref 0), some (.int (nI f)), none, none, none] [] GM M (QV GM fun M' => HM (passS w c f) M' ∧ Sx SP M M') := by
  have hp8 := hM.w.p8
  have hwf := hM.w
  have hans : answered c c.now f < 256 := bset_lt256 _ hp8
  have K3 : ∀ M2 M3, HM (c.setNow (c.now.setX (nxs c.now.people c.now.x))) M2 → Sx SP M M2 → Sx S01 M2 M3 → (∀ j, mI M3 1 j = if 10 ≤ j ∧ j < 10 + c.now.people then nI (nlean c f (j - 10)) else mI M2 1 j) → E 5 0 0 Y_TM_pass 149 [some (.ref 0), some (.int (nI f)), some (.int (nI (answered c c.now f))), none, none] [] GM M3 (QV GM fun M' => HM (passS w c f) M' ∧ Sx SP M M') := by
    intro M2 M3 hM2 hX2 hX3 hF
    have hR := hM2.R.sx hX3
    have hA2 := hM2.A
    have a5 : mI M3 1 5 = nI c.now.round := (hF 5).trans ((if_neg (by omega)).trans hA2.round)
    have hw3 : mI M3 0 23 = nI (if w = true then 1 else 0) := by rw [(hX3.2 0 (by unfold S01; decide)).1, (hX2.2 0 (by unfold SP; decide)).1]; exact hw
    have a8 : mI M3 1 8 = nI c.now.book.length := (hF 8).trans ((if_neg (by omega)).trans hA2.written)
    have b5 : mI (wI (wI M3 1 9 (nI (answered c c.now f))) 1 7 (nI (pc9 (answered c c.now f)))) 1 5 = nI c.now.round := ((mI_w1 _).trans (if_neg (by omega))).trans (((mI_w1 _).trans (if_neg (by omega))).trans a5)
    have b8 : mI (wI (wI M3 1 9 (nI (answered c c.now f))) 1 7 (nI (pc9 (answered c c.now f)))) 1 8 = nI c.now.book.length := ((mI_w1 _).trans (if_neg (by omega))).trans (((mI_w1 _).trans (if_neg (by omega))).trans a8)
    have bw : mI (wI (wI M3 1 9 (nI (answered c c.now f))) 1 7 (nI (pc9 (answered c c.now f)))) 0 23 = nI (if w = true then 1 else 0) := (mI_wx (by decide)).trans ((mI_wx (by decide)).trans hw3)
    first | refine E_aload_n d_TM_pass_149 rfl ?_ | refine E_aload_nN d_TM_pass_149 rfl ?_
    refine E_getR (q := 1) d_TM_pass_150 gf_TM_7 (by exact ⟨by decide, rfl⟩) (by exact hR _ rfl) ?_
    refine E_bipush (v := nI 9) d_TM_pass_153 (by decide) ?_
    refine E_iload_n d_TM_pass_155 rfl ?_
    refine E_iast d_TM_pass_156 (by exact ⟨by decide, rfl⟩) (by exact ⟨by with_reducible rfl, by omega, by decide⟩) ?_
    first | refine E_aload_n d_TM_pass_157 rfl ?_ | refine E_aload_nN d_TM_pass_157 rfl ?_
    refine E_getR (q := 1) d_TM_pass_158 gf_TM_7 (by exact ⟨by decide, rfl⟩) (by exact hR _ rfl) ?_
    refine E_bipush (v := nI 7) d_TM_pass_161 (by decide) ?_
    refine E_iload_n d_TM_pass_163 rfl ?_
    refine E_S1 (sp_TM_bits _ (by omega)) d_TM_pass_164 ml_TM_267 cb_TM_bits cs_TM_bits ⟨by decide, by decide⟩ rfl (Nat.le_of_ble_eq_true rfl) (Nat.le_of_ble_eq_true rfl) (kI fun r1 M1 hc => ?_)
    obtain ⟨rfl, rfl⟩ := hc
    refine E_iast d_TM_pass_167 (by exact ⟨by decide, rfl⟩) (by exact ⟨by with_reducible rfl, by omega, by decide⟩) ?_
    first | refine E_aload_n d_TM_pass_168 rfl ?_ | refine E_aload_nN d_TM_pass_168 rfl ?_
    first | refine E_aload_n d_TM_pass_169 rfl ?_ | refine E_aload_nN d_TM_pass_169 rfl ?_
    refine E_getR (q := 1) d_TM_pass_170 gf_TM_7 (by exact ⟨by decide, rfl⟩) (by exact hR _ rfl) ?_
    refine E_iconst (v := nI 5) d_TM_pass_173 rfl ?_
    refine E_iald d_TM_pass_174 (by exact ⟨by decide, rfl⟩) (by exact ⟨by with_reducible rfl, by omega, by decide⟩) (by exact b5) ?_
    refine E_iload_n d_TM_pass_175 rfl ?_
    refine E_V2 (sp_TM_writeW w (l := c.now.book.length) (g := pc9 (answered c c.now f)) hR bw rfl b8 hwf.book ((mI_w1 _).trans (if_pos rfl))) d_TM_pass_176 ml_TM_308 cb_TM_write cv_TM_write (by exact ⟨by decide, rfl⟩) ⟨by decide, rfl⟩ ⟨by decide, by decide⟩ rfl (Nat.le_of_ble_eq_true rfl) (Nat.le_of_ble_eq_true rfl) (kV fun M1 hc => ?_)
    obtain ⟨hX4, hF4⟩ := hc
    have hR := MR.sg hX4 hR
    have c5 : mI M1 1 5 = nI c.now.round := by
      rw [hF4]
      split
      · exact (wrF_out hwf.book (by omega) (by omega)).trans b5
      · exact b5
    first | refine E_aload_n d_TM_pass_179 rfl ?_ | refine E_aload_nN d_TM_pass_179 rfl ?_
    refine E_getR (q := 1) d_TM_pass_180 gf_TM_7 (by exact ⟨by decide, rfl⟩) (by exact hR _ rfl) ?_
    refine E_iconst (v := nI 5) d_TM_pass_183 rfl ?_
    refine E_dup2 d_TM_pass_184 rfl rfl ?_
    refine E_iald d_TM_pass_185 (by exact ⟨by decide, rfl⟩) (by exact ⟨by with_reducible rfl, by omega, by decide⟩) (by exact c5) ?_
    refine E_iconst (v := nI 1) d_TM_pass_186 rfl ?_
    first | (with_reducible refine E_isN2 ?_; refine E_iaddN d_TM_pass_187 ?_) | refine E_iadd d_TM_pass_187 ?_
    refine E_iast d_TM_pass_188 (by exact ⟨by decide, rfl⟩) (by exact ⟨by with_reducible rfl, by omega, by decide⟩) ?_
    refine E_retV d_TM_pass_189 rfl ?_
    have hT2 : mI (wI M1 1 5 (nI (c.now.round + 1))) 3 = mI M2 3 := by funext j; rw [mI_wx (by decide), (hX4.2 3 (by unfold S01; decide)).1, mI_wx (by decide), mI_wx (by decide), (hX3.2 3 (by unfold S01; decide)).1]
    refine ⟨⟨hR, RepA_pass (Fw := mI (wI (wI M3 1 9 (nI (answered c c.now f))) 1 7 (nI (pc9 (answered c c.now f)))) 1) w hA2 hwf hM2.w hF (fun j => by rw [mI_w1, mI_w1]) (fun j => by rw [mI_w1, hF4]; rfl), by rw [hT2]; exact hM2.T, Wf_now hwf (Mok_pass w hwf.mo hf hr) rfl⟩, ((hX2.tr ((((hX3.wI rfl).wI rfl).tr hX4).wk fun _ => SP.s)).wI SP.o)⟩
  have K2 : ∀ M2, HM (c.setNow (c.now.setX (nxs c.now.people c.now.x))) M2 → Sx SP M M2 → (∀ q, q < c.now.people → mI M2 9 q = nI (nlean c f q)) → E 5 0 0 Y_TM_pass 116 [some (.ref 0), some (.int (nI f)), some (.int (nI (answered c c.now f))), none, none] [] GM M2 (QV GM fun M' => HM (passS w c f) M' ∧ Sx SP M M') := by
    intro M2 hM2 hX2 hN
    refine E_iconst (v := nI 0) d_TM_pass_116 rfl ?_
    refine E_istore_3 d_TM_pass_117 rfl ?_
    exact lp_TM_pass3 hwf hM2.R hM2.A.people hN (fun M3 hX3 hF => K3 M2 M3 hM2 hX2 hX3 hF) c.now.people 0 (Nat.zero_add _) M2 Sx.rf (fun j => by rw [if_neg (by omega)])
  have K1 : ∀ M2, HM (c.setNow (c.now.setX (nxs c.now.people c.now.x))) M2 → Sx SP M M2 → E 5 0 0 Y_TM_pass 64 [some (.ref 0), some (.int (nI f)), some (.int (nI (answered c c.now f))), none, none] [] GM M2 (QV GM fun M' => HM (passS w c f) M' ∧ Sx SP M M') := by
    intro M2 hM2 hX2
    refine E_iconst (v := nI 0) d_TM_pass_64 rfl ?_
    refine E_istore_3 d_TM_pass_65 rfl ?_
    exact lp_TM_pass2 hf hwf K2 c.now.people 0 (Nat.zero_add _) M2 hM2 hX2 (fun q hq => absurd hq (Nat.not_lt_zero q))
  refine E_iconst (v := nI 0) d_TM_pass_0 rfl ?_
  refine E_istore_2 d_TM_pass_1 rfl ?_
  refine E_iconst (v := nI 0) d_TM_pass_2 rfl ?_
  refine E_istore_3 d_TM_pass_3 rfl ?_
  exact lp_TM_pass1 hf hwf K1 c.now.people 0 (Nat.zero_add _) M hM Sx.rf
theorem sp_TM_pass {c : Cr} {M : Mem} {f : Nat} (w : Bool) (hM : HM c M) (hw : mI M 0 23 = nI (if w = true then 1 else 0)) (hf : f ≤ 8) (hr : c.now.round < 9999) : E 5 0 0 Y_TM_pass 0 [some (.ref 0), some (.int (nI f)), none, none, none] [] GM M (QV GM fun M' => HM (passS w c f) M' ∧ Sx S1 M M') :=
  E_mono (sp_TM_passP w hM hw hf hr) (fun _ _ _ h => ⟨h.1, h.2.1, h.2.2.1, h.2.2.2.wk fun _ => SP.w⟩)
