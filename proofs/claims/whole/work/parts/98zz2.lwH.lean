theorem cl_inst (ci : Nat) (h : ci < NC) : Cond.instantiable (clC ci) (clN ci) ∈ TB := match ci, h with
  | 0, _ => in_As
  | 1, _ => in_Cr
  | 2, _ => in_Mo
  | 3, _ => in_Ou
  | 4, _ => in_Re
  | 5, _ => in_Ro
  | 6, _ => in_Ta
  | 7, _ => in_Tx
  | 8, _ => in_TP
  | 9, _ => in_TM
  | m + 10, h => absurd h (by show ¬ m + 10 < 10; omega)
theorem lw_kn {s : State} {args : Array Value} (hts : ∀ w ∈ TB, w.before args s = true) : ∃ D : va_G, ∀ (k : Nat) (q : vw_C), classes[k]? = some q → u_Kn s q.1 q.2.1 q.2.2 (D.1 k) (D.2 k) := by
  have h0 : ∀ ci : Nat, ∃ q : ClassId × (Nat → Nat), ci < NC → u_Kn s (clC ci) (clT ci) (clN ci) q.1 q.2 := fun ci => by
    by_cases h : ci < NC
    · obtain ⟨a, b, z⟩ := u_known (C := clC ci) (T := clT ci) (N := clN ci) (n := clN ci) hts (cl_in ci h) (hts _ (cl_inst ci h))
      exact ⟨(a, b), fun _ => z⟩
    · exact ⟨(Classical.choice ⟨(u_known (C := clC 0) (T := clT 0) (N := clN 0) (n := clN 0) hts (cl_in 0 (by decide)) (hts _ (cl_inst 0 (by decide)))).choose⟩, fun _ => 0), fun z => absurd z h⟩
  obtain ⟨f, hf⟩ := Classical.axiomOfChoice h0
  refine ⟨(fun c => (f c).1, fun c => (f c).2), fun k q hq => ?_⟩
  have hk : k < NC := by
    have := (List.getElem?_eq_some_iff.mp hq).1
    simpa [classes] using this
  rw [cl_at k hk] at hq
  cases hq
  exact hf k hk
theorem lw_arr {s : State} {args : Array Value} {ty : FieldType} (h : (Cond.arrayClass ty).before args s = true) : ∃ cA : ClassId, ArrOfT s cA ty ∧ s.vm.findClass ("[" ++ ty.toString) = some cA := by
  obtain ⟨c, k, comp, h1, h2, h3⟩ := Cond.arrayClass_spec h
  exact ⟨c, fun n z => ⟨fun k h => (by cases h), k, h2, comp, h3⟩, h1⟩
theorem lw_arq {s : State} {args : Array Value} {C : String} (h : (Cond.arrayOver (.object C)).before args s = true) : ∃ cA : ClassId, ArrOfT s cA (.object C) ∧ va_RA s cA (.object C) := by
  obtain ⟨comp, c, k, h1, h2, h3, h4, h5⟩ := Cond.arrayOver_spec h
  exact ⟨c, fun n z => ⟨fun k h => (by cases h), k, h3, comp, h4⟩, k, comp, h3, h4, h1, h5⟩
theorem in_AOm : Cond.arrayOver (.object "TruePoll$Moment") ∈ lw_tbl := in_t1 86 rfl
theorem in_AOt : Cond.arrayOver (.object "TruePoll$Text") ∈ lw_tbl := in_t1 88 rfl
theorem in_sr76 : Cond.stringRef "TruePoll$Tape" 76 strW ∈ lw_tbl := in_t2 190 rfl
theorem in_sr93 : Cond.stringRef "TruePoll$Tape" 93 strM ∈ lw_tbl := in_t3 13 rfl
theorem in_lsC : Cond.laysStatic "java/lang/String" "COMPACT_STRINGS" "Z" ∈ lw_tbl := in_t2 200 rfl
theorem in_lsS : Cond.laysStatic "jdk/internal/util/Preconditions" "SIOOBE_FORMATTER" "Ljava/util/function/BiFunction;" ∈ lw_tbl := in_t2 216 rfl
theorem in_caI : Cond.castable "[I" "java/lang/Cloneable" ∈ lw_tbl := in_t3 171 rfl
def tmS (i : Nat) : Term := if i = 0 then .string "TruePoll$Tape" 76 else .string "TruePoll$Tape" 93
def gvC : Jvm.Cond := Jvm.Cond.and given_1 narrow_1
theorem fl_ex : ∀ i, i < 2 → Cond.exactly (tmS i) "java/lang/String" ∈ flatC gvC := by decide +kernel
theorem fl_co : ∀ i, i < 2 → Cond.eq (.field (tmS i) "java/lang/String" "coder" "B") (.int 0) ∈ flatC gvC := by decide +kernel
theorem fl_ar : ∀ i, i < 2 → Cond.arrayOf (.field (tmS i) "java/lang/String" "value" "[B") .byte ∈ flatC gvC := by decide +kernel
theorem fl_le : ∀ i, i < 2 → Cond.eq (.length (.field (tmS i) "java/lang/String" "value" "[B")) (.int (Int32.ofNat (strN.getD i 0))) ∈ flatC gvC := by decide +kernel
def elC (i j : Nat) : Cond := Cond.eq (.elem (.field (tmS i) "java/lang/String" "value" "[B") (.int (Int32.ofNat j))) (.int ((strB.getD i []).getD j 0))
theorem fl_q0 : ∀ j, j < 13 → (flatC gvC)[33 + (0 + j)]? = some (elC 0 (0 + j)) := by decide +kernel
theorem fl_q1 : ∀ j, j < 13 → (flatC gvC)[33 + (13 + j)]? = some (elC 0 (13 + j)) := by decide +kernel
theorem fl_q2 : ∀ j, j < 13 → (flatC gvC)[33 + (26 + j)]? = some (elC 0 (26 + j)) := by decide +kernel
theorem fl_q3 : ∀ j, j < 13 → (flatC gvC)[33 + (39 + j)]? = some (elC 0 (39 + j)) := by decide +kernel
theorem fl_q4 : ∀ j, j < 13 → (flatC gvC)[33 + (52 + j)]? = some (elC 0 (52 + j)) := by decide +kernel
theorem fl_q5 : ∀ j, j < 13 → (flatC gvC)[33 + (65 + j)]? = some (elC 0 (65 + j)) := by decide +kernel
theorem fl_q6 : ∀ j, j < 13 → (flatC gvC)[33 + (78 + j)]? = some (elC 0 (78 + j)) := by decide +kernel
theorem fl_q7 : ∀ j, j < 13 → (flatC gvC)[33 + (91 + j)]? = some (elC 0 (91 + j)) := by decide +kernel
theorem fl_q8 : ∀ j, j < 13 → (flatC gvC)[33 + (104 + j)]? = some (elC 0 (104 + j)) := by decide +kernel
theorem fl_q9 : ∀ j, j < 13 → (flatC gvC)[33 + (117 + j)]? = some (elC 0 (117 + j)) := by decide +kernel
theorem fl_q10 : ∀ j, j < 13 → (flatC gvC)[33 + (130 + j)]? = some (elC 0 (130 + j)) := by decide +kernel
theorem fl_q11 : ∀ j, j < 13 → (flatC gvC)[33 + (143 + j)]? = some (elC 0 (143 + j)) := by decide +kernel
theorem fl_qz : ∀ j, j < 11 → (flatC gvC)[193 + j]? = some (elC 1 j) := by decide +kernel
theorem fl_el : ∀ i, i < 2 → ∀ j, j < strN.getD i 0 → elC i j ∈ flatC gvC := by
  intro i hi j hj
  rcases (show i = 0 ∨ i = 1 by omega) with rfl | rfl
  · have hj : j < 156 := hj
    have e : j = 13 * (j / 13) + j % 13 := (Nat.div_add_mod j 13).symm
    have hr : j % 13 < 13 := Nat.mod_lt _ (by decide)
    have hd : j / 13 < 12 := by omega
    generalize j % 13 = r at e hr
    generalize j / 13 = d at e hd
    subst e
    clear hj
    match d, hd with
    | 0, _ => exact List.mem_of_getElem? (fl_q0 r hr)
    | 1, _ => exact List.mem_of_getElem? (fl_q1 r hr)
    | 2, _ => exact List.mem_of_getElem? (fl_q2 r hr)
    | 3, _ => exact List.mem_of_getElem? (fl_q3 r hr)
    | 4, _ => exact List.mem_of_getElem? (fl_q4 r hr)
    | 5, _ => exact List.mem_of_getElem? (fl_q5 r hr)
    | 6, _ => exact List.mem_of_getElem? (fl_q6 r hr)
    | 7, _ => exact List.mem_of_getElem? (fl_q7 r hr)
    | 8, _ => exact List.mem_of_getElem? (fl_q8 r hr)
    | 9, _ => exact List.mem_of_getElem? (fl_q9 r hr)
    | 10, _ => exact List.mem_of_getElem? (fl_q10 r hr)
    | 11, _ => exact List.mem_of_getElem? (fl_q11 r hr)
    | d + 12, h => exact absurd h (by omega)
  · exact List.mem_of_getElem? (fl_qz j hj)
theorem fl_ne : Cond.not (Cond.eq (tmS 0) (tmS 1)) ∈ flatC gvC := by decide +kernel
theorem fl_cs : Cond.eq (.static "java/lang/String" "COMPACT_STRINGS" "Z") (.int 1) ∈ flatC gvC := by decide +kernel
theorem fl_si : Cond.isRef (.static "jdk/internal/util/Preconditions" "SIOOBE_FORMATTER" "Ljava/util/function/BiFunction;") ∈ flatC gvC := by decide +kernel
theorem TBn_on : ∀ w ∈ TBn, w.onTables = true := fun w hw => List.all_eq_true.mp (show TBn.all (fun w => w.onTables) = true by decide +kernel) w hw
theorem KS.re {X : WX} {A : Nat → Prop} {s : State} (f : Nat → Nat) (h : KS X A s) (hf : ∀ k, 1000000 ≤ k → f k = X.2.2 k) : KS (X.1, X.2.1, f) A s := by
  obtain ⟨h1, h2, h3, h4, h5, h6, h7, h8, v, h9, h10⟩ := h
  refine ⟨h1, h2, h3, h4, ?_, ?_, ?_, h8, v, h9, ?_⟩
  · show vk_R _ _ _ (f 1000000) s
    rw [hf _ (by decide)]; exact h5
  · show vk_R _ _ _ (f 1000001) s
    rw [hf _ (by decide)]; exact h6
  · show vk_S 2 strN strB (fun i => f (1000000 + i)) (fun i => f (2000000 + i)) A s s.heap
    have e1 : (fun i => f (1000000 + i)) = fun i => X.2.2 (1000000 + i) := funext fun i => hf _ (by omega)
    have e2 : (fun i => f (2000000 + i)) = fun i => X.2.2 (2000000 + i) := funext fun i => hf _ (by omega)
    rw [e1, e2]; exact h7
  · rcases h9 with rfl | rfl
    · exact h10
    · show va_Z _ _ _ (.ref (f 3000000)) A s s.heap
      rw [hf _ (by decide)]
      exact h10
theorem lw_env {p : Program} {s : State} {m : MethodId} {meth : Method} {c : Code} {bq L : Nat} {xs : Nat → Int32} (C0 : lw_At p s m meth c bq L xs) : ∃ X : WX, va_K X.1 classes (tys X) s ∧ KS X (LA s) s := by
  have hts := lwTB C0
  have hT : ∀ w ∈ lw_tbl, w.before #[Value.ref bq] s = true := C0.2.2.2.2.2.1
  have hf : ∀ c ∈ flatC gvC, c.before #[Value.ref bq] s = true := flat_of_before _ C0.2.2.2.2.2.2.2.2.2
  have hA : ∀ a : Nat, a < s.heap.size → ¬ LA s a := fun a h => Nat.not_le.mpr h
  obtain ⟨D, hD⟩ := lw_kn hts
  obtain ⟨cI, i1, i2⟩ := lw_arr (hts _ jm_arr_int)
  obtain ⟨cL, l1, l2⟩ := lw_arr (hts _ jm_arr_long)
  obtain ⟨cZ, z1, z2⟩ := lw_arr (hts _ jm_arr_boolean)
  obtain ⟨cM, m1, m2⟩ := lw_arq (hT _ in_AOm)
  obtain ⟨cT, t1, t2⟩ := lw_arq (hT _ in_AOt)
  obtain ⟨adK, adV, hS, hE⟩ := vk_Sof (N := 2) (tm := tmS) (len := strN) (byt := strB) (A := LA s) (by decide) (fun i hi => hf _ (fl_ex i hi)) (fun i hi => hf _ (fl_co i hi)) (fun i hi => hf _ (fl_ar i hi)) (fun i hi => hf _ (fl_le i hi)) (fun i hi j hj => hf _ (fl_el i hi j hj)) (fun i j hi hj hn => by
    rcases (show (i = 0 ∧ j = 1) ∨ (i = 1 ∧ j = 0) by omega) with ⟨rfl, rfl⟩ | ⟨rfl, rfl⟩
    · exact Or.inl (hf _ fl_ne)
    · exact Or.inr (hf _ fl_ne)) hA
  have hC : va_Z "java/lang/String" "COMPACT_STRINGS" "Z" (.int 1) (LA s) s s.heap := va_Zof (hT _ in_lsC) (hts _ it_JS) (va_eqi (hf _ fl_cs)) hA
  have hP := va_Zqof (hT _ in_lsS) (hts _ it_JP) (hf _ fl_si) hA
  obtain ⟨r, v, hv, hr⟩ : ∃ (r : Nat) (v : Value), (v = .null ∨ v = .ref 3000000) ∧ va_Z "jdk/internal/util/Preconditions" "SIOOBE_FORMATTER" "Ljava/util/function/BiFunction;" (match v with | .ref _ => .ref r | w => w) (LA s) s s.heap := by
    rcases hP with h | ⟨t, h⟩
    · exact ⟨0, .null, Or.inl rfl, h⟩
    · exact ⟨t, .ref 3000000, Or.inr rfl, h⟩
  obtain ⟨adr, q1, q2, q3⟩ : ∃ adr : Nat → Nat, (∀ i, i < 2 → adr (1000000 + i) = adK i) ∧ (∀ i, i < 2 → adr (2000000 + i) = adV i) ∧ adr 3000000 = r := by
    refine ⟨fun k => if k = 3000000 then r else if 2000000 ≤ k then adV (k - 2000000) else adK (k - 1000000), fun i hi => ?_, fun i hi => ?_, if_pos rfl⟩
    · show (if 1000000 + i = 3000000 then r else if 2000000 ≤ 1000000 + i then adV (1000000 + i - 2000000) else adK (1000000 + i - 1000000)) = _
      rw [if_neg (by omega), if_neg (by omega), Nat.add_sub_cancel_left]
    · show (if 2000000 + i = 3000000 then r else if 2000000 ≤ 2000000 + i then adV (2000000 + i - 2000000) else adK (2000000 + i - 1000000)) = _
      rw [if_neg (by omega), if_pos (by omega), Nat.add_sub_cancel_left]
  refine ⟨(D, (fun t => match t with | 0 => cI | 1 => cL | 2 => cZ | 3 => cM | _ => cT), adr), ⟨hD, fun k q hq => ?_⟩, fun w hw => va_Nw.of (TBn_on w hw) (hT w (TBn_in w hw)), va_AO.of (hT _ in_AOm), va_AO.of (hT _ in_AOt), va_Nw.of rfl (hT _ in_caI), ?_, ?_, ⟨fun i hi => ?_, fun i j hi hj e => hS.2 i j hi hj ?_⟩, hC, v, hv, ?_⟩
  · match k, hq with
    | 0, hq => cases hq; exact ⟨i1, i2⟩
    | 1, hq => cases hq; exact ⟨l1, l2⟩
    | 2, hq => cases hq; exact ⟨z1, z2⟩
    | 3, hq => cases hq; exact ⟨m1, m2⟩
    | 4, hq => cases hq; exact ⟨t1, t2⟩
    | n + 5, hq => cases hq
  · refine vk_R.of (hT _ in_sr76) ?_
    have := hE 0 (by decide)
    rw [← q1 0 (by decide)] at this
    exact this
  · refine vk_R.of (hT _ in_sr93) ?_
    have := hE 1 (by decide)
    rw [← q1 1 (by decide)] at this
    exact this
  · have := hS.1 i hi
    rw [← q1 i hi, ← q2 i hi] at this
    exact this
  · rw [← q1 i hi, ← q1 j hj]
    exact e
  · rcases hv with rfl | rfl
    · exact hr
    · show va_Z _ _ _ (.ref (adr 3000000)) _ _ _
      rw [q3]
      exact hr
