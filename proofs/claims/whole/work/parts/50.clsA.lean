def us (x y : Int32) : Int32 := (x.toUInt32 >>> (y.toUInt32 &&& Int32.toUInt32 31)).toInt32
def bcA (x : Int32) : Int32 := x - (us x (nI 1) &&& 1431655765)
def bcB (a : Int32) : Int32 := (a &&& 858993459) + (us a (nI 2) &&& 858993459)
def bcC (b : Int32) : Int32 := (b + us b (nI 4)) &&& 252645135
def bcD (c : Int32) : Int32 := c + us c (nI 8)
def bcE (d : Int32) : Int32 := d + us d (nI 16)
def bcX (x : Int32) : Int32 := bcE (bcD (bcC (bcB (bcA x)))) &&& nI 63
theorem bc_tab : ∀ s, s < 512 → bcX (nI s) = nI (pc9 s) := by decide +kernel
theorem sp_JI_bitX {G : Geo} {M : Mem} (x : Int32) : E 0 0 0 Y_JI_bitCount 0 [some (.int x)] [] G M (QI G fun r M' => r = bcX x ∧ M' = M) := by
  refine E_iload_n d_JI_bitCount_0 rfl ?_
  refine E_iload_n d_JI_bitCount_1 rfl ?_
  refine E_iconst (v := nI 1) d_JI_bitCount_2 rfl ?_
  refine E_iushr d_JI_bitCount_3 ?_
  refine E_ldcw d_JI_bitCount_4 kc_JI_265 ?_
  first | (with_reducible refine E_isN2 ?_; refine E_iandN d_JI_bitCount_7 ?_) | refine E_iand d_JI_bitCount_7 ?_
  first | (with_reducible refine E_isN2 ?_; refine E_isubN d_JI_bitCount_8 (by omega) ?_) | refine E_isub d_JI_bitCount_8 ?_
  refine E_istore_0 d_JI_bitCount_9 ?_
  refine E_iload_n d_JI_bitCount_10 rfl ?_
  refine E_ldcw d_JI_bitCount_11 kc_JI_266 ?_
  first | (with_reducible refine E_isN2 ?_; refine E_iandN d_JI_bitCount_14 ?_) | refine E_iand d_JI_bitCount_14 ?_
  refine E_iload_n d_JI_bitCount_15 rfl ?_
  refine E_iconst (v := nI 2) d_JI_bitCount_16 rfl ?_
  refine E_iushr d_JI_bitCount_17 ?_
  refine E_ldcw d_JI_bitCount_18 kc_JI_266 ?_
  first | (with_reducible refine E_isN2 ?_; refine E_iandN d_JI_bitCount_21 ?_) | refine E_iand d_JI_bitCount_21 ?_
  first | (with_reducible refine E_isN2 ?_; refine E_iaddN d_JI_bitCount_22 ?_) | refine E_iadd d_JI_bitCount_22 ?_
  refine E_istore_0 d_JI_bitCount_23 ?_
  refine E_iload_n d_JI_bitCount_24 rfl ?_
  refine E_iload_n d_JI_bitCount_25 rfl ?_
  refine E_iconst (v := nI 4) d_JI_bitCount_26 rfl ?_
  refine E_iushr d_JI_bitCount_27 ?_
  first | (with_reducible refine E_isN2 ?_; refine E_iaddN d_JI_bitCount_28 ?_) | refine E_iadd d_JI_bitCount_28 ?_
  refine E_ldcw d_JI_bitCount_29 kc_JI_267 ?_
  first | (with_reducible refine E_isN2 ?_; refine E_iandN d_JI_bitCount_32 ?_) | refine E_iand d_JI_bitCount_32 ?_
  refine E_istore_0 d_JI_bitCount_33 ?_
  refine E_iload_n d_JI_bitCount_34 rfl ?_
  refine E_iload_n d_JI_bitCount_35 rfl ?_
  refine E_bipush (v := nI 8) d_JI_bitCount_36 (by decide) ?_
  refine E_iushr d_JI_bitCount_38 ?_
  first | (with_reducible refine E_isN2 ?_; refine E_iaddN d_JI_bitCount_39 ?_) | refine E_iadd d_JI_bitCount_39 ?_
  refine E_istore_0 d_JI_bitCount_40 ?_
  refine E_iload_n d_JI_bitCount_41 rfl ?_
  refine E_iload_n d_JI_bitCount_42 rfl ?_
  refine E_bipush (v := nI 16) d_JI_bitCount_43 (by decide) ?_
  refine E_iushr d_JI_bitCount_45 ?_
  first | (with_reducible refine E_isN2 ?_; refine E_iaddN d_JI_bitCount_46 ?_) | refine E_iadd d_JI_bitCount_46 ?_
  refine E_istore_0 d_JI_bitCount_47 ?_
  refine E_iload_n d_JI_bitCount_48 rfl ?_
  refine E_bipush (v := nI 63) d_JI_bitCount_49 (by decide) ?_
  first | (with_reducible refine E_isN2 ?_; refine E_iandN d_JI_bitCount_51 ?_) | refine E_iand d_JI_bitCount_51 ?_
  refine E_retI d_JI_bitCount_52 rfl ?_
  exact ⟨rfl, rfl⟩
theorem sp_JI_bitCount {G : Geo} {M : Mem} {s : Nat} (hs : s < 512) : E 0 0 0 Y_JI_bitCount 0 [some (.int (nI s))] [] G M (QI G fun r M' => r = nI (pc9 s) ∧ M' = M) :=
  E_mono (sp_JI_bitX (nI s)) (fun _ _ _ h => ⟨h.1, h.2.choose, h.2.choose_spec.1, h.2.choose_spec.2.1.trans (bc_tab s hs), h.2.choose_spec.2.2⟩)
theorem sp_TP_at {G : Geo} {M : Mem} {a n k : Nat} {v : Int32} (hs : Sh G a (1, n)) (hn : n < 2147483648) (hk : k < n) (hv : mI M a k = v) : E 0 0 0 Y_TP_at 0 [some (.ref a), some (.int (nI k))] [] G M (QI G fun r M' => r = v ∧ M' = M) := by
  refine E_iload_n d_TP_at_0 rfl ?_
  first | (with_reducible refine E_isN1 ?_; refine E_if_lt 16 d_TP_at_1 rfl (nz_lt (by omega) fun h1 => ?_) (nz_nlt (by omega) fun h1 => ?_)) | refine E_if_lt 16 d_TP_at_1 rfl (fun h1 => ?_) (fun h1 => ?_)
  · exfalso; exact absurd h1 (Nat.not_lt_zero k)
  refine E_iload_n d_TP_at_4 rfl ?_
  first | refine E_aload_n d_TP_at_5 rfl ?_ | refine E_aload_nN d_TP_at_5 rfl ?_
  refine E_alen d_TP_at_6 (by assumption) (by decide) rfl ?_
  first | (with_reducible refine E_isN2 ?_; refine E_icmp_ge 16 d_TP_at_7 rfl (nb_le (by omega) (by omega) fun h7 => ?_) (nb_nle (by omega) (by omega) fun h7 => ?_)) | refine E_icmp_ge 16 d_TP_at_7 rfl (fun h7 => ?_) (fun h7 => ?_)
  · exfalso; omega
  first | refine E_aload_n d_TP_at_10 rfl ?_ | refine E_aload_nN d_TP_at_10 rfl ?_
  refine E_iload_n d_TP_at_11 rfl ?_
  refine E_iald d_TP_at_12 (by assumption) (by exact ⟨by with_reducible rfl, by omega, by omega⟩) (by rfl) ?_
  refine E_goto 17 d_TP_at_13 rfl ?_
  refine E_retI d_TP_at_17 rfl ?_
  exact ⟨hv, rfl⟩
theorem sp_TP_put {G : Geo} {M : Mem} {a n k : Nat} {v : Int32} (hs : Sh G a (1, n)) (hn : n < 2147483648) (hk : k < n) : E 0 0 0 Y_TP_put 0 [some (.ref a), some (.int (nI k)), some (.int v)] [] G M (QV G fun M' => M' = wI M a k v) := by
  refine E_iload_n d_TP_put_0 rfl ?_
  first | (with_reducible refine E_isN1 ?_; refine E_if_lt 14 d_TP_put_1 rfl (nz_lt (by omega) fun h1 => ?_) (nz_nlt (by omega) fun h1 => ?_)) | refine E_if_lt 14 d_TP_put_1 rfl (fun h1 => ?_) (fun h1 => ?_)
  · exfalso; exact absurd h1 (Nat.not_lt_zero k)
  refine E_iload_n d_TP_put_4 rfl ?_
  first | refine E_aload_n d_TP_put_5 rfl ?_ | refine E_aload_nN d_TP_put_5 rfl ?_
  refine E_alen d_TP_put_6 (by assumption) (by decide) rfl ?_
  first | (with_reducible refine E_isN2 ?_; refine E_icmp_ge 14 d_TP_put_7 rfl (nb_le (by omega) (by omega) fun h7 => ?_) (nb_nle (by omega) (by omega) fun h7 => ?_)) | refine E_icmp_ge 14 d_TP_put_7 rfl (fun h7 => ?_) (fun h7 => ?_)
  · exfalso; omega
  first | refine E_aload_n d_TP_put_10 rfl ?_ | refine E_aload_nN d_TP_put_10 rfl ?_
  refine E_iload_n d_TP_put_11 rfl ?_
  refine E_iload_n d_TP_put_12 rfl ?_
  refine E_iast d_TP_put_13 (by assumption) (by exact ⟨by with_reducible rfl, by omega, by omega⟩) ?_
  refine E_retV d_TP_put_14 rfl ?_
  rfl
theorem mI_wa {M : Mem} {a k : Nat} {v : Int32} (j : Nat) : mI (wI M a k v) a j = if j = k then v else mI M a j := by
  rw [mI_wI]
  by_cases h : j = k
  · rw [if_pos ⟨rfl, h⟩, if_pos h]
  · rw [if_neg (fun q => h q.2), if_neg h]
theorem iL_min {x y : Int} (hx : zB x) (hy : zB y) : (if iL y < iL x then iL y else iL x) = iL (if y < x then y else x) := by
  have e : iL y < iL x ↔ y < x := by rw [Int64.lt_iff_toInt_lt, iL_toInt hy, iL_toInt hx]
  by_cases h : y < x
  · rw [if_pos (e.mpr h), if_pos h]
  · rw [if_neg (fun q => h (e.mp q)), if_neg h]
theorem iL_max {x y : Int} (hx : zB x) (hy : zB y) : (if iL y < iL x then iL x else iL y) = iL (if y < x then x else y) := by
  have e : iL y < iL x ↔ y < x := by rw [Int64.lt_iff_toInt_lt, iL_toInt hy, iL_toInt hx]
  by_cases h : y < x
  · rw [if_pos (e.mpr h), if_pos h]
  · rw [if_neg (fun q => h (e.mp q)), if_neg h]
theorem sp_TP_within {G : Geo} {M : Mem} {z lo hi : Int} (hz : zB z) (hl : zB lo) (hh : zB hi) (hlh : lo ≤ hi) : E 1 0 0 Y_TP_within 0 [some (.long (iL z)), none, some (.long (iL lo)), none, some (.long (iL hi)), none] [] G M (QL G fun r M' => r = iL (clampZ z lo hi) ∧ M' = M) := by
  have b1 : zB (if z < hi then z else hi) := by split <;> assumption
  have e : (if (if z < hi then z else hi) < lo then lo else (if z < hi then z else hi)) = clampZ z lo hi := by
    unfold clampZ
    repeat' split
    all_goals omega
  refine E_lload_n d_TP_within_0 rfl ?_
  refine E_lload d_TP_within_1 rfl ?_
  refine E_lload_n d_TP_within_3 rfl ?_
  refine E_minL d_TP_within_4 ml_TP_374 (by decide) (Nat.le_of_ble_eq_true rfl) ?_
  rw [iL_min hh hz]
  refine E_maxL d_TP_within_7 ml_TP_380 (by decide) (Nat.le_of_ble_eq_true rfl) ?_
  rw [iL_max hl b1, e]
  refine E_retL d_TP_within_10 rfl ?_
  exact ⟨rfl, rfl⟩
def rmCr (c : Nat) (j : Nat) : Option Nat := match j with
  | 0 => some (c + 1)
  | 1 => some (c + 4)
  | 2 => some (c + 5)
  | 3 => some (c + 6)
  | 4 => some (c + 7)
  | 7 => some (c + 8)
  | 10 => some (c + 9)
  | 11 => some (c + 10)
  | 13 => some (c + 11)
  | 14 => some (c + 12)
  | 16 => some (c + 13)
  | _ => none
def rmC (a j : Nat) : Option Nat := match a, j with
  | 0, 0 => some 1
  | 0, 1 => some 105
  | 0, 2 => some 209
  | 0, 3 => some 212
  | 0, 4 => some 214
  | 0, 5 => some 216
  | 0, 6 => some 220
  | 0, 7 => some 225
  | 0, 8 => some 231
  | 0, 9 => some 232
  | 0, 10 => some 233
  | 212, 0 => some 1
  | 212, 1 => some 213
  | 214, 0 => some 1
  | 214, 1 => some 212
  | 214, 2 => some 215
  | 216, 0 => some 217
  | 216, 1 => some 218
  | 216, 2 => some 219
  | 220, 0 => some 221
  | 220, 2 => some 222
  | 220, 3 => some 223
  | 220, 4 => some 224
  | 225, 0 => some 220
  | 225, 1 => some 226
  | 225, 2 => some 227
  | 225, 3 => some 228
  | 225, 4 => some 229
  | 225, 5 => some 230
  | _, _ => none
def MoAd (a : Nat) : Prop := a = 2 ∨ a = 106 ∨ a = 209 ∨ (15 ≤ a ∧ a < 105 ∧ a % 3 = 0) ∨ (119 ≤ a ∧ a < 209 ∧ a % 3 = 2)
def CrAd (c : Nat) : Prop := c = 1 ∨ c = 105
def RC (M : Mem) : Prop := (∀ a j q, rmC a j = some q → mR M a j = some q) ∧ (∀ a, MoAd a → mR M a 0 = some (a + 1) ∧ mR M a 1 = some (a + 2)) ∧ (∀ c, CrAd c → ∀ j q, rmCr c j = some q → mR M c j = some q) ∧ ∀ c, CrAd c → ∀ i, i < 30 → mR M (c + 7) i = some (c + 14 + 3 * i)
theorem RC.o {M : Mem} (h : RC M) {a j q : Nat} (e : rmC a j = some q) : mR M a j = some q := h.1 a j q e
theorem RC.m0 {M : Mem} (h : RC M) {a : Nat} (ha : MoAd a) : mR M a 0 = some (a + 1) := (h.2.1 a ha).1
theorem RC.m1 {M : Mem} (h : RC M) {a : Nat} (ha : MoAd a) : mR M a 1 = some (a + 2) := (h.2.1 a ha).2
theorem RC.c {M : Mem} (h : RC M) {c : Nat} (hc : CrAd c) {j q : Nat} (e : rmCr c j = some q) : mR M c j = some q := h.2.2.1 c hc j q e
theorem RC.b {M : Mem} (h : RC M) {c : Nat} (hc : CrAd c) {i : Nat} (hi : i < 30) : mR M (c + 7) i = some (c + 14 + 3 * i) := h.2.2.2 c hc i hi
def shCr (k : Nat) : Nat × Nat := match k with
  | 0 => (0, 1)
  | 1 => (0, 2)
  | 2 => (1, 8)
  | 3 => (1, 90)
  | 4 => (1, 8)
  | 5 => (1, 8)
  | 6 => (1, 8)
  | 7 => (4, 30)
  | 8 => (5, 4)
  | 9 => (1, 8)
  | 10 => (1, 8)
  | 11 => (1, 8)
  | 12 => (1, 8)
  | 13 => (1, 10)
  | _ => if (k - 14) % 3 = 0 then (0, 2) else if (k - 14) % 3 = 1 then (1, 8) else (1, 90)
def shZ (k : Nat) : Nat × Nat := match k with
  | 0 => (0, 2)
  | 1 => (1, 8)
  | 2 => (1, 90)
  | 3 => (0, 0)
  | 4 => (1, 64)
  | 5 => (0, 5)
  | 6 => (1, 8)
  | 7 => (0, 3)
  | 8 => (1, 9)
  | 9 => (1, 9)
  | 10 => (1, 9)
  | 11 => (0, 6)
  | 12 => (1, 300)
  | 13 => (1, 301)
  | 14 => (1, 301)
  | 15 => (1, 301)
  | 16 => (0, 4)
  | 17 => (1, 24)
  | 18 => (1, 24)
  | 19 => (1, 24)
  | 20 => (1, 300)
  | 21 => (1, 300)
  | 22 => (2, 9)
  | 23 => (1, 8)
  | _ => (1, 99)
def shC (k : Nat) : Nat × Nat := if k = 0 then (0, 8) else if k < 105 then shCr (k - 1) else if k < 209 then shCr (k - 105) else shZ (k - 209)
def GC (G : Geo) : Prop := 234 ≤ G.1 ∧ ∀ k, k < 234 → G.2 k = shC k
theorem GC.s {G : Geo} (h : GC G) {k : Nat} {x : Nat × Nat} (hk : k < 234) (e : shC k = x) : Sh G k x := ⟨Nat.lt_of_lt_of_le hk h.1, (h.2 k hk).trans e⟩
theorem sh_mo : ∀ a, a < 234 → MoAd a → shC a = (0, 2) ∧ shC (a + 1) = (1, 8) ∧ shC (a + 2) = (1, 90) := by
  unfold MoAd
  decide +kernel
theorem MoAd.lt {a : Nat} (h : MoAd a) : a < 210 := by unfold MoAd at h; omega
theorem GC.m {G : Geo} (h : GC G) {a : Nat} (ha : MoAd a) : Sh G a (0, 2) := h.s (by have := ha.lt; omega) (sh_mo a (by have := ha.lt; omega) ha).1
theorem GC.m1 {G : Geo} (h : GC G) {a : Nat} (ha : MoAd a) : Sh G (a + 1) (1, 8) := h.s (by have := ha.lt; omega) (sh_mo a (by have := ha.lt; omega) ha).2.1
theorem GC.m2 {G : Geo} (h : GC G) {a : Nat} (ha : MoAd a) : Sh G (a + 2) (1, 90) := h.s (by have := ha.lt; omega) (sh_mo a (by have := ha.lt; omega) ha).2.2
theorem GC.c {G : Geo} (h : GC G) {c k : Nat} {x : Nat × Nat} (hc : CrAd c) (hk : k < 104) (e : shCr k = x) : Sh G (c + k) x := by
  rcases hc with rfl | rfl
  · refine h.s (by omega) ?_
    unfold shC
    rw [if_neg (by omega), if_pos (by omega), Nat.add_sub_cancel_left]
    exact e
  · refine h.s (by omega) ?_
    unfold shC
    rw [if_neg (by omega), if_neg (by omega), if_pos (by omega), Nat.add_sub_cancel_left]
    exact e
theorem MoAd.n {c : Nat} (hc : CrAd c) : MoAd (c + 1) := by unfold MoAd; rcases hc with rfl | rfl <;> omega
theorem MoAd.b {c i : Nat} (hc : CrAd c) (hi : i < 30) : MoAd (c + 14 + 3 * i) := by
  unfold MoAd
  rcases hc with rfl | rfl <;> omega
def Sc (P : Nat → Prop) (M M' : Mem) : Prop := (∀ a j, (a = 212 → j ≠ 2) → mR M' a j = mR M a j) ∧ ∀ a, ¬ P a → mI M' a = mI M a ∧ mL M' a = mL M a
theorem Sc.rf {P : Nat → Prop} {M : Mem} : Sc P M M := ⟨fun _ _ _ => rfl, fun _ _ => ⟨rfl, rfl⟩⟩
theorem Sc.tr {P : Nat → Prop} {M M' M2 : Mem} (h : Sc P M M') (g : Sc P M' M2) : Sc P M M2 := ⟨fun a j q => (g.1 a j q).trans (h.1 a j q), fun a ha => ⟨(g.2 a ha).1.trans (h.2 a ha).1, (g.2 a ha).2.trans (h.2 a ha).2⟩⟩
theorem Sc.wk {P P' : Nat → Prop} {M M' : Mem} (h : Sc P M M') (hp : ∀ a, P a → P' a) : Sc P' M M' := ⟨h.1, fun a ha => h.2 a (fun q => ha (hp a q))⟩
theorem Sc.wI {P : Nat → Prop} {M M' : Mem} {a j : Nat} {x : Int32} (h : Sc P M M') (ha : P a) : Sc P M (wI M' a j x) := ⟨h.1, fun b hb => ⟨(upd2_ne _ (fun e => hb (by rw [show b = a from e]; exact ha))).trans (h.2 b hb).1, (h.2 b hb).2⟩⟩
theorem Sc.wL {P : Nat → Prop} {M M' : Mem} {a j : Nat} {x : Int64} (h : Sc P M M') (ha : P a) : Sc P M (wL M' a j x) := ⟨h.1, fun b hb => ⟨(h.2 b hb).1, (upd2_ne _ (fun e => hb (by rw [show b = a from e]; exact ha))).trans (h.2 b hb).2⟩⟩
theorem Sc.wA {P : Nat → Prop} {M M' : Mem} {a : Nat} {g : Nat → Int32} (h : Sc P M M') (ha : P a) : Sc P M (wA M' a g) := ⟨h.1, fun b hb => ⟨(upda_ne _ (fun e => hb (by rw [show b = a from e]; exact ha))).trans (h.2 b hb).1, (h.2 b hb).2⟩⟩
theorem Sc.wR {P : Nat → Prop} {M M' : Mem} {q : Option Nat} (h : Sc P M M') : Sc P M (wR M' 212 2 q) := ⟨fun a j hj => by rw [mR_wR, if_neg (fun r => hj r.1 r.2)]; exact h.1 a j hj, fun b hb => h.2 b hb⟩
theorem RC.sc {P : Nat → Prop} {M M' : Mem} (h : RC M) (g : Sc P M M') : RC M' := by
  refine ⟨fun a j q e => ?_, fun a ha => ?_, fun c hc j q e => ?_, fun c hc i hi => ?_⟩
  · rw [g.1 a j (fun e1 e2 => by subst e1; subst e2; have e3 : (none : Option Nat) = some q := e; cases e3)]
    exact h.1 a j q e
  · have hlt := ha.lt
    rw [g.1 a 0 (fun e1 => by omega), g.1 a 1 (fun e1 => by omega)]
    exact h.2.1 a ha
  · rw [g.1 c j (fun e1 => by rcases hc with rfl | rfl <;> omega)]
    exact h.2.2.1 c hc j q e
  · rw [g.1 _ i (fun e1 => by rcases hc with rfl | rfl <;> omega)]
    exact h.2.2.2 c hc i hi
def MoC (m : Mo) (a : Nat) (M : Mem) : Prop := mI M a 2 = nI m.people ∧ mI M a 3 = nI m.answers ∧ mI M a 4 = nI m.figure ∧ mI M a 5 = nI m.round ∧ mI M a 6 = nI m.x ∧ mI M a 7 = nI m.book.length ∧ (∀ p, p < m.people → mI M (a + 1) p = nI (m.lean p)) ∧ ∀ i, i < m.book.length → mI M (a + 2) (3 * i) = nI (m.book.getD i (0, 0, 0)).1 ∧ mI M (a + 2) (3 * i + 1) = nI (m.book.getD i (0, 0, 0)).2.1 ∧ mI M (a + 2) (3 * i + 2) = nI (m.book.getD i (0, 0, 0)).2.2
section MoCFacts
variable {m : Mo} {a : Nat} {M : Mem}
theorem MoC.people (h : MoC m a M) : mI M a 2 = nI m.people := h.1
theorem MoC.answers (h : MoC m a M) : mI M a 3 = nI m.answers := h.2.1
theorem MoC.figure (h : MoC m a M) : mI M a 4 = nI m.figure := h.2.2.1
theorem MoC.round (h : MoC m a M) : mI M a 5 = nI m.round := h.2.2.2.1
theorem MoC.x (h : MoC m a M) : mI M a 6 = nI m.x := h.2.2.2.2.1
theorem MoC.written (h : MoC m a M) : mI M a 7 = nI m.book.length := h.2.2.2.2.2.1
theorem MoC.lean (h : MoC m a M) {p : Nat} (hp : p < m.people) : mI M (a + 1) p = nI (m.lean p) := h.2.2.2.2.2.2.1 p hp
theorem MoC.book (h : MoC m a M) {i : Nat} (hi : i < m.book.length) : mI M (a + 2) (3 * i) = nI (m.book.getD i (0, 0, 0)).1 ∧ mI M (a + 2) (3 * i + 1) = nI (m.book.getD i (0, 0, 0)).2.1 ∧ mI M (a + 2) (3 * i + 2) = nI (m.book.getD i (0, 0, 0)).2.2 := h.2.2.2.2.2.2.2 i hi
theorem MoC.cg {M' : Mem} (h : MoC m a M) (e0 : mI M' a = mI M a) (e1 : mI M' (a + 1) = mI M (a + 1)) (e2 : mI M' (a + 2) = mI M (a + 2)) : MoC m a M' := by
  unfold MoC
  rw [e0, e1, e2]
  exact h
theorem Mok.p8 (h : Mok m) : m.people ≤ 8 := h.1
theorem Mok.lean9 (h : Mok m) (p : Nat) : m.lean p ≤ 9 := h.2.1 p
theorem Mok.ans (h : Mok m) : m.answers < 2 ^ m.people := h.2.2.1
theorem Mok.ans8 (h : Mok m) : m.answers < 256 := Nat.lt_of_lt_of_le h.ans (show 2 ^ m.people ≤ 2 ^ 8 from Nat.pow_le_pow_right (by decide) h.p8)
theorem Mok.fig (h : Mok m) : m.figure ≤ m.people := by rw [h.2.2.2.1]; exact pc9_le h.ans
theorem Mok.round (h : Mok m) : m.round ≤ 9999 := h.2.2.2.2.1
theorem Mok.x (h : Mok m) : m.x < 31033 := h.2.2.2.2.2.1
theorem Mok.book (h : Mok m) : m.book.length ≤ 30 := h.2.2.2.2.2.2.1
end MoCFacts
