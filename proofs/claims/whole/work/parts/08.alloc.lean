theorem jm_max : Cond.static Lib.Math.max.name ∈ TB ∧ Cond.code Lib.Math.max.name Lib.Math.max.code 2 (some .int) ∈ TB := ⟨TB_of (in_t3 30 rfl) rfl, TB_of (in_t3 31 rfl) rfl⟩
theorem jm_min : Cond.static Lib.Math.min.name ∈ TB ∧ Cond.code Lib.Math.min.name Lib.Math.min.code 2 (some .int) ∈ TB := ⟨TB_of (in_t3 7 rfl) rfl, TB_of (in_t3 8 rfl) rfl⟩
theorem jm_abs : Cond.static Lib.Math.abs.name ∈ TB ∧ Cond.code Lib.Math.abs.name Lib.Math.abs.code 1 (some .int) ∈ TB := ⟨TB_of (in_t4 49 rfl) rfl, TB_of (in_t4 50 rfl) rfl⟩
theorem jm_maxl : Cond.static Lib.MathLoose.max_long.x ∈ TB ∧ Cond.code Lib.MathLoose.max_long.x Lib.MathLoose.max_long.code 4 (some .long) ∈ TB := ⟨TB_of (in_t4 65 rfl) rfl, TB_of (in_t4 66 rfl) rfl⟩
theorem jm_minl : Cond.static Lib.MathLoose.min_long.x ∈ TB ∧ Cond.code Lib.MathLoose.min_long.x Lib.MathLoose.min_long.code 4 (some .long) ∈ TB := ⟨TB_of (in_t4 62 rfl) rfl, TB_of (in_t4 63 rfl) rfl⟩
theorem jm_copy : Cond.native arraycopyName ∈ TB ∧ Cond.static arraycopyName ∈ TB ∧ Cond.initialized "java/lang/System" ∈ TB := ⟨TB_of (in_t3 176 rfl) rfl, TB_of (in_t3 175 rfl) rfl, TB_of (in_t1 19 rfl) rfl⟩
theorem jm_obj : Cond.instanceMethod Lib.objectInit ∈ TB ∧ Cond.code Lib.objectInit ⟨#[0xb1]⟩ 1 none ∈ TB := ⟨TB_of (in_t1 27 rfl) rfl, TB_of (in_t1 28 rfl) rfl⟩
theorem jm_arr_int : Cond.arrayClass .int ∈ TB := TB_of (in_t1 85 rfl) rfl
theorem jm_arr_long : Cond.arrayClass .long ∈ TB := TB_of (in_t2 115 rfl) rfl
theorem jm_arr_boolean : Cond.arrayClass .boolean ∈ TB := TB_of (in_t6 234 rfl) rfl
theorem jm_clone : Cond.sameMethod "[I" "java/lang/Object" "clone" "()Ljava/lang/Object;" ∈ TB ∧ Cond.native ⟨"java/lang/Object", "clone", "()Ljava/lang/Object;"⟩ ∈ TB ∧ Cond.instanceMethod ⟨"java/lang/Object", "clone", "()Ljava/lang/Object;"⟩ ∈ TB ∧ Cond.selects "[I" ⟨"[I", "clone", "()Ljava/lang/Object;"⟩ ⟨"java/lang/Object", "clone", "()Ljava/lang/Object;"⟩ ∈ TB := ⟨TB_of (in_t3 167 rfl) rfl, TB_of (in_t3 168 rfl) rfl, TB_of (in_t3 169 rfl) rfl, TB_of (in_t3 170 rfl) rfl⟩
def ga (G : Geo) (x : Nat × Nat) : Geo := (G.1 + 1, fun k => if k = G.1 then x else G.2 k)
def cN (M : Mem) (a : Nat) : Mem := (upda M.1 a (fun _ => 0), upda M.2.1 a (fun _ => 0), upda M.2.2 a (fun _ => none))
theorem mI_cN (M : Mem) (a b i : Nat) : mI (cN M a) b i = if b = a then 0 else mI M b i := rfl
theorem mL_cN (M : Mem) (a b i : Nat) : mL (cN M a) b i = if b = a then 0 else mL M b i := rfl
theorem mR_cN (M : Mem) (a b i : Nat) : mR (cN M a) b i = if b = a then none else mR M b i := rfl
theorem Sh_ga {G : Geo} {a : Nat} {x y : Nat × Nat} (h : Sh G a x) : Sh (ga G y) a x := ⟨Nat.lt_succ_of_lt h.1, by show (if a = G.1 then y else G.2 a) = x; rw [if_neg (Nat.ne_of_lt h.1)]; exact h.2⟩
theorem Sh_new (G : Geo) (x : Nat × Nat) : Sh (ga G x) G.1 x := ⟨Nat.lt_succ_self _, by show (if G.1 = G.1 then x else G.2 G.1) = x; rw [if_pos rfl]⟩
def okk (k : Nat) (t : FieldType) : Bool := match k, t with
  | 0, .int => true
  | 3, .boolean => true
  | 1, .long => true
  | 2, .object _ => true
  | 2, .array _ => true
  | _, _ => false
theorem okk_all : ∀ ci, ci < NC → ∀ j, j < clN ci → okk (fk ci j) (clY ci j) = true := by decide +kernel
theorem wl_ga (X : WX) (G : Geo) (M : Mem) (x : Nat × Nat) : wl X (ga G x) (cN M G.1) = wl X G M ++ [(X.2.2 G.1, ecell X (cN M G.1) x G.1)] := by
  unfold wl
  show (List.range (G.1 + 1)).map _ = _
  rw [List.range_succ, List.map_append]
  congr 1
  · apply List.map_congr_left
    intro k hk
    have hk := List.mem_range.mp hk
    have e1 : (ga G x).2 k = G.2 k := if_neg (Nat.ne_of_lt hk)
    have e2 : ecell X (cN M G.1) (G.2 k) k = ecell X M (G.2 k) k := ecell_ne (upda_ne _ (Nat.ne_of_lt hk)) (upda_ne _ (Nat.ne_of_lt hk)) (upda_ne _ (Nat.ne_of_lt hk))
    rw [e1, e2]
  · have e1 : (ga G x).2 G.1 = x := if_pos rfl
    show [(X.2.2 G.1, ecell X (cN M G.1) ((ga G x).2 G.1) G.1)] = _
    rw [e1]
section EAlloc
variable {d b bs : Nat} {Y : MI} {pc : Nat} {ls : List (Option Value)} {st : List Value} {G : Geo} {M : Mem} {Q : Option Value → Geo → Mem → Prop}
theorem Cc.alloc {p : Program} {s : State} {m : MethodId} {args : Array Value} {meth : Method} {c : Code} {X : WX} {A : Nat → Prop} {mc ms cells slots : Nat} {H : Heap} {locs : List Loc} {la : Array Slot} {n : Nat} (h : Cc (b + 1) (bs + n) Y ls G M p s m args meth c X A mc ms cells slots H locs la) (x : Nat × Nat) {H1 : Heap} (hG : G.1 < 1000000)
    (ha : va_at X.1 classes (X.2.2 G.1, ecell X (cN M G.1) x G.1) H1) (z1 : H1.size = H.size + 1) (o1 : ∀ q, q < H.size → H1[q]? = H[q]?) : Cc b bs Y ls (ga G x) (cN M G.1) p s m args meth c X A mc ms (cells + 1) (slots + n) H1 locs la := by
  have hn : X.2.2 G.1 = H.size := by rw [h.fr.2 G.1 (Nat.le_refl _) hG, Nat.sub_self]; rfl
  have hk : ∀ (k : Nat) (x : Nat × va_E), (wl X G M)[k]? = some x → H1[x.1]? = H[x.1]? := fun k x hx => o1 x.1 ((h.P k x hx).lt)
  refine ⟨h.1, h.K, h.ks, ⟨?_, ?_⟩, ⟨Nat.le_trans h.S.1 (by omega), fun x h1 h2 => (o1 x (Nat.lt_of_lt_of_le h1 h.S.1)).trans (h.S.2.1 x h1 h2), h.S.2.2⟩, h.hA, ⟨hG, fun k h1 h2 => ?_⟩, h.lv, by have := h.cl; omega, by have := h.sl; omega⟩
  · rw [wl_ga]
    refine (h.P.kept hk).app (fun k y hy => ?_)
    have hz : k < 1 := (List.getElem?_eq_some_iff.mp hy).1
    rw [show k = 0 by omega] at hy
    cases hy
    exact ha
  · rw [wl_ga]
    exact h.D.push h.P hn (h.hA _ (by rw [hn]; exact h.S.1))
  · have h1' : G.1 + 1 ≤ k := h1
    rw [h.fr.2 k (by omega) h2, z1]
    show _ = H.size + 1 + (k - (G.1 + 1))
    omega
theorem E_new {idx ci : Nat} {C : String} (hd : decode Y.2.1 pc = .ok (.new idx, 3)) (hci : ci < NC) (hC : clC ci = C) (hk : Cond.classLink Y.1.cls idx C ∈ TB) (hin : Cond.instantiable C (clN ci) ∈ TB) (hit : Cond.initialized C ∈ TB) (hG : G.1 < 1000000)
    (kk : E d b bs Y (pc + 3) ls (.ref G.1 :: st) (ga G (0, ci)) (cN M G.1) Q) : E d (b + 1) (bs + clN ci) Y pc ls st G M Q := by
  intro p l e s m args below meth c X A mc ms cells slots H locs la h
  subst hC
  have hKn := h.K.1 ci _ (cl_at ci hci)
  have hn : X.2.2 G.1 = H.size := by rw [h.fr.2 G.1 (Nat.le_refl _) hG, Nat.sub_self]; rfl
  refine W.newcK h.hx h.hb h.own (h.ts _ hk) (h.ts _ hin) (h.ts _ hit) rfl hd (by have := h.cl; show _ ≤ mc; omega) (by have := h.sl; show _ ≤ ms; omega) hKn.2.1 rfl fun H1 kC hkC e1 z1 o1 => ?_
  have hb := u_born (clY ci) h.ts (cl_in ci hci) hKn hkC e1 (cl_ty ci hci)
  have hcell : va_at X.1 classes (X.2.2 G.1, ecell X (cN M G.1) (0, ci) G.1) H1 := by
    rw [hn]
    refine ⟨_, cl_at ci hci, hb.to fun j hj => ?_⟩
    show defaultValue (clY ci j) = vp_V ((List.range (clN ci)).map (fval X (cN M G.1) ci G.1)) j
    unfold vp_V
    rw [List.getD_eq_getElem?_getD, range_map_at _ hj, Option.getD_some]
    have hok := okk_all ci hci j hj
    unfold fval
    rw [mI_cN, mL_cN, mR_cN, if_pos rfl, if_pos rfl, if_pos rfl]
    generalize fk ci j = kd at hok ⊢
    generalize clY ci j = ty at hok ⊢
    cases ty <;> (match kd, hok with
      | 0, h9 => first | rfl | (simp [okk] at h9)
      | 1, h9 => first | rfl | (simp [okk] at h9)
      | 2, h9 => first | rfl | (simp [okk] at h9)
      | 3, h9 => first | rfl | (simp [okk] at h9)
      | n + 4, h9 => exact absurd h9 (by simp [okk]))
  have hk2 := kk p l e s m args below meth c X A mc ms (cells + 1) (slots + clN ci) H1 locs la (h.alloc (0, ci) hG hcell z1 o1)
  rw [List.map_cons] at hk2
  rw [← hn]
  exact hk2
theorem E_newarr {t : Nat} {atype : ArrayType} {ty : FieldType} {i : Int32} {n : Nat} (hd : decode Y.2.1 pc = .ok (.newarray atype, 2)) (ht : (t = 1 ∧ atype = .int) ∨ (t = 2 ∧ atype = .long) ∨ (t = 3 ∧ atype = .boolean)) (hi : i = nI n) (hn : n ≤ 100000) (hG : G.1 < 1000000)
    (kk : E d b bs Y (pc + 2) ls (.ref G.1 :: st) (ga G (t, n)) (cN M G.1) Q) : E d (b + 1) (bs + n) Y pc ls (.int i :: st) G M Q := by
  intro p l e s m args below meth c X A mc ms cells slots H locs la h
  have hnn : X.2.2 G.1 = H.size := by rw [h.fr.2 G.1 (Nat.le_refl _) hG, Nat.sub_self]; rfl
  subst hi
  have h0 : ¬ nI n < 0 := nI_pos (by omega)
  have hcl : (nI n).toNatClampNeg = n := nI_clamp (by omega)
  rcases ht with ⟨rfl, rfl⟩ | ⟨rfl, rfl⟩ | ⟨rfl, rfl⟩
  · refine va_newaK (atype := .int) h.hx h.hb (h.ts _ jm_arr_int) rfl hd rfl h0 hcl (by show n * 4 ≤ _; omega) (by have := h.cl; show _ ≤ mc; omega) (by have := h.sl; show _ ≤ ms; omega) rfl fun H1 cA e1 z1 o1 _ hNm => ?_
    have hcA : cA = X.2.1 0 := Option.some.inj (hNm.symm.trans (h.K.2 0 _ rfl).2)
    subst hcA
    have hk2 := kk p l e s m args below meth c X A mc ms (cells + 1) (slots + n) H1 locs la (h.alloc (1, n) hG (by rw [hnn]; exact e1.trans (congrArg some (by unfold arrV; congr 2; funext j; show Value.int 0 = .int (mI (cN M G.1) G.1 j.val); rw [mI_cN, if_pos rfl]))) z1 o1)
    rw [← hnn]
    exact hk2
  · refine va_newaK (atype := .long) h.hx h.hb (h.ts _ jm_arr_long) rfl hd rfl h0 hcl (by show n * 8 ≤ _; omega) (by have := h.cl; show _ ≤ mc; omega) (by have := h.sl; show _ ≤ ms; omega) rfl fun H1 cA e1 z1 o1 _ hNm => ?_
    have hcA : cA = X.2.1 1 := Option.some.inj (hNm.symm.trans (h.K.2 1 _ rfl).2)
    subst hcA
    have hk2 := kk p l e s m args below meth c X A mc ms (cells + 1) (slots + n) H1 locs la (h.alloc (2, n) hG (by rw [hnn]; exact e1.trans (congrArg some (by unfold arrV; congr 2; funext j; show Value.long 0 = .long (mL (cN M G.1) G.1 j.val); rw [mL_cN, if_pos rfl]))) z1 o1)
    rw [← hnn]
    exact hk2
  · refine va_newaK (atype := .boolean) h.hx h.hb (h.ts _ jm_arr_boolean) rfl hd rfl h0 hcl (by show n * 1 ≤ _; omega) (by have := h.cl; show _ ≤ mc; omega) (by have := h.sl; show _ ≤ ms; omega) rfl fun H1 cA e1 z1 o1 _ hNm => ?_
    have hcA : cA = X.2.1 2 := Option.some.inj (hNm.symm.trans (h.K.2 2 _ rfl).2)
    subst hcA
    have hk2 := kk p l e s m args below meth c X A mc ms (cells + 1) (slots + n) H1 locs la (h.alloc (3, n) hG (by rw [hnn]; exact e1.trans (congrArg some (by unfold arrV; congr 2; funext j; show Value.int 0 = .int (mI (cN M G.1) G.1 j.val); rw [mI_cN, if_pos rfl]))) z1 o1)
    rw [← hnn]
    exact hk2
theorem E_anew {t idx : Nat} {C : String} {i : Int32} {n : Nat} (hd : decode Y.2.1 pc = .ok (.anewarray idx, 3)) (hk : Cond.classLink Y.1.cls idx C ∈ TB) (ht : (t = 4 ∧ C = "TruePoll$Moment") ∨ (t = 5 ∧ C = "TruePoll$Text")) (hi : i = nI n) (hn : n ≤ 100000) (hG : G.1 < 1000000)
    (kk : E d b bs Y (pc + 3) ls (.ref G.1 :: st) (ga G (t, n)) (cN M G.1) Q) : E d (b + 1) (bs + n) Y pc ls (.int i :: st) G M Q := by
  intro p l e s m args below meth c X A mc ms cells slots H locs la h
  have hnn : X.2.2 G.1 = H.size := by rw [h.fr.2 G.1 (Nat.le_refl _) hG, Nat.sub_self]; rfl
  subst hi
  have h0 : ¬ nI n < 0 := nI_pos (by omega)
  have hcl : (nI n).toNatClampNeg = n := nI_clamp (by omega)
  have hao : va_AO C s := by
    rcases ht with ⟨-, rfl⟩ | ⟨-, rfl⟩
    · exact h.ks.2.1
    · exact h.ks.2.2.1
  refine W.anew h.hx h.hb h.own (h.ts _ hk) (va_AO.use hao) rfl hd rfl h0 (by rw [hcl]; omega) (by have := h.cl; show _ ≤ mc; omega) (by rw [hcl]; have := h.sl; show _ ≤ ms; omega) fun cA kA comp f1 f2 f3 f4 => ?_
  rw [hcl]
  generalize hH1 : H.push ({ cls := cA, slots := Array.replicate n .null, vm := .none } : Cell) = H1
  have z1 : H1.size = H.size + 1 := by rw [← hH1, Array.size_push]
  have e1 : H1[H.size]? = some (arrV cA n (fun _ => .null)) := by rw [← hH1, Array.getElem?_push_size, ← arrV_new]
  have o1 : ∀ q : Nat, q < H.size → H1[q]? = H[q]? := fun q hq => by rw [← hH1, Array.getElem?_push, if_neg (Nat.ne_of_lt hq)]
  rcases ht with ⟨rfl, rfl⟩ | ⟨rfl, rfl⟩
  · obtain ⟨_, _, -, -, -, hNm⟩ := (h.K.2 3 _ rfl).2
    have hcA : cA = X.2.1 3 := Option.some.inj (f1.symm.trans hNm)
    subst hcA
    have hk2 := kk p l e s m args below meth c X A mc ms (cells + 1) (slots + n) H1 locs la (h.alloc (4, n) hG (by rw [hnn]; exact e1.trans (congrArg some (by unfold arrV; congr 2; funext j; show Value.null = va_rf ((mR (cN M G.1) G.1 j.val).map X.2.2); rw [mR_cN, if_pos rfl]; rfl))) z1 o1)
    rw [← hnn]
    exact hk2
  · obtain ⟨_, _, -, -, -, hNm⟩ := (h.K.2 4 _ rfl).2
    have hcA : cA = X.2.1 4 := Option.some.inj (f1.symm.trans hNm)
    subst hcA
    have hk2 := kk p l e s m args below meth c X A mc ms (cells + 1) (slots + n) H1 locs la (h.alloc (5, n) hG (by rw [hnn]; exact e1.trans (congrArg some (by unfold arrV; congr 2; funext j; show Value.null = va_rf ((mR (cN M G.1) G.1 j.val).map X.2.2); rw [mR_cN, if_pos rfl]; rfl))) z1 o1)
    rw [← hnn]
    exact hk2
theorem sum_cv (X : WX) (rest : List Value) : ((rest.map (cv X)).map fun v => v.category).sum = (rest.map fun v => v.category).sum := by
  rw [List.map_map]
  exact congrArg List.sum (List.map_congr_left fun v _ => cat_cv2 X v)
theorem E_obj {idx a : Nat} (hd : decode Y.2.1 pc = .ok (.invokespecial idx, 3)) (hl : Cond.methodLink Y.1.cls idx Lib.objectInit ∈ TB) (hdp : 1 ≤ d) (hroom : (st.map fun v => v.category).sum ≤ 8) (kk : E d b bs Y (pc + 3) ls st G M Q) : E d b bs Y pc ls (.ref a :: st) G M Q := by
  intro p l e s m args below meth c X A mc ms cells slots H locs la h
  refine W.objInit h.hx h.hb h.own (h.ts _ hl) (h.ts _ jm_obj.1) (h.ts _ jm_obj.2) rfl (h.lv.1.trans h.hml.symm) (a := X.2.2 a) rfl hd hdp ?_ (kk p l e s m args below meth c X A mc ms cells slots H locs la h)
  have e := sum_cv X st
  show 2 * 0 + _ + 12 ≤ 60 * d + 100
  omega
theorem E_maxI {idx : Nat} {x y : Int32} (hd : decode Y.2.1 pc = .ok (.invokestatic idx, 3)) (hl : Cond.methodLink Y.1.cls idx Lib.Math.max.name ∈ TB) (hdp : 1 ≤ d) (hroom : (st.map fun v => v.category).sum ≤ 8) (kk : E d b bs Y (pc + 3) ls (.int (if x < y then y else x) :: st) G M Q) : E d b bs Y pc ls (.int y :: .int x :: st) G M Q := by
  intro p l e s m args below meth c X A mc ms cells slots H locs la h
  have e1 := sum_cv X st
  exact va_mmax h.hx h.hb (h.hml.trans h.lv.1.symm) h.own (h.ts _ hl) (h.ts _ jm_max.1) (h.ts _ it_JM) (h.ts _ jm_max.2) hdp (by show _ + 13 ≤ 60 * d + 100; omega) (by have := h.cl; show _ ≤ mc; omega) (by have := h.sl; show _ ≤ ms; omega) hd (kk p l e s m args below meth c X A mc ms cells slots H locs la h)
theorem E_minI {idx : Nat} {x y : Int32} (hd : decode Y.2.1 pc = .ok (.invokestatic idx, 3)) (hl : Cond.methodLink Y.1.cls idx Lib.Math.min.name ∈ TB) (hdp : 1 ≤ d) (hroom : (st.map fun v => v.category).sum ≤ 8) (kk : E d b bs Y (pc + 3) ls (.int (if y < x then y else x) :: st) G M Q) : E d b bs Y pc ls (.int y :: .int x :: st) G M Q := by
  intro p l e s m args below meth c X A mc ms cells slots H locs la h
  have e1 := sum_cv X st
  exact va_mmin h.hx h.hb (h.hml.trans h.lv.1.symm) h.own (h.ts _ hl) (h.ts _ jm_min.1) (h.ts _ it_JM) (h.ts _ jm_min.2) hdp (by show _ + 13 ≤ 60 * d + 100; omega) (by have := h.cl; show _ ≤ mc; omega) (by have := h.sl; show _ ≤ ms; omega) hd (kk p l e s m args below meth c X A mc ms cells slots H locs la h)
theorem E_absI {idx : Nat} {x : Int32} (hd : decode Y.2.1 pc = .ok (.invokestatic idx, 3)) (hl : Cond.methodLink Y.1.cls idx Lib.Math.abs.name ∈ TB) (hdp : 1 ≤ d) (hroom : (st.map fun v => v.category).sum ≤ 8) (kk : E d b bs Y (pc + 3) ls (.int (if 0 ≤ x then x else 0 - x) :: st) G M Q) : E d b bs Y pc ls (.int x :: st) G M Q := by
  intro p l e s m args below meth c X A mc ms cells slots H locs la h
  have e1 := sum_cv X st
  exact va_mabs h.hx h.hb (h.hml.trans h.lv.1.symm) h.own (h.ts _ hl) (h.ts _ jm_abs.1) (h.ts _ it_JM) (h.ts _ jm_abs.2) hdp (by show _ + 13 ≤ 60 * d + 100; omega) (by have := h.cl; show _ ≤ mc; omega) (by have := h.sl; show _ ≤ ms; omega) hd (kk p l e s m args below meth c X A mc ms cells slots H locs la h)
theorem E_maxL {idx : Nat} {x y : Int64} (hd : decode Y.2.1 pc = .ok (.invokestatic idx, 3)) (hl : Cond.methodLink Y.1.cls idx Lib.MathLoose.max_long.x ∈ TB) (hdp : 1 ≤ d) (hroom : (st.map fun v => v.category).sum ≤ 8) (kk : E d b bs Y (pc + 3) ls (.long (if y < x then x else y) :: st) G M Q) : E d b bs Y pc ls (.long y :: .long x :: st) G M Q := by
  intro p l e s m args below meth c X A mc ms cells slots H locs la h
  have e1 := sum_cv X st
  exact va_mmax_long h.hx h.hb (h.hml.trans h.lv.1.symm) h.own (h.ts _ hl) (h.ts _ jm_maxl.1) (h.ts _ it_JM) (h.ts _ jm_maxl.2) hdp (by show _ + 15 ≤ 60 * d + 100; omega) (by have := h.cl; show _ ≤ mc; omega) (by have := h.sl; show _ ≤ ms; omega) hd (kk p l e s m args below meth c X A mc ms cells slots H locs la h)
theorem E_minL {idx : Nat} {x y : Int64} (hd : decode Y.2.1 pc = .ok (.invokestatic idx, 3)) (hl : Cond.methodLink Y.1.cls idx Lib.MathLoose.min_long.x ∈ TB) (hdp : 1 ≤ d) (hroom : (st.map fun v => v.category).sum ≤ 8) (kk : E d b bs Y (pc + 3) ls (.long (if y < x then y else x) :: st) G M Q) : E d b bs Y pc ls (.long y :: .long x :: st) G M Q := by
  intro p l e s m args below meth c X A mc ms cells slots H locs la h
  have e1 := sum_cv X st
  exact va_mmin_long h.hx h.hb (h.hml.trans h.lv.1.symm) h.own (h.ts _ hl) (h.ts _ jm_minl.1) (h.ts _ it_JM) (h.ts _ jm_minl.2) hdp (by show _ + 15 ≤ 60 * d + 100; omega) (by have := h.cl; show _ ≤ mc; omega) (by have := h.sl; show _ ≤ ms; omega) hd (kk p l e s m args below meth c X A mc ms cells slots H locs la h)
end EAlloc
