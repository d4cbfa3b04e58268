def memZ : Mem := (fun _ _ => 0, fun _ _ => 0, fun _ _ => none)
def zV (k : Nat) : Value := match k with
  | 1 => .long 0
  | 2 => va_rf none
  | _ => .int 0
def zF (ci : Nat) : List Value := (List.range (clN ci)).map fun j => zV (fk ci j)
theorem zF_val (X : WX) (ci a j : Nat) : fval X memZ ci a j = zV (fk ci j) := by
  unfold fval
  generalize fk ci j = k
  match k with
  | 0 => rfl
  | 1 => rfl
  | 2 => rfl
  | n + 3 => rfl
theorem wl_one (X : WX) (ci : Nat) : wl X (1, fun _ => (0, ci)) memZ = [(X.2.2 0, .inr (ci, zF ci))] := by
  show [(X.2.2 0, ecell X memZ (0, ci) 0)] = _
  have e : (List.range (clN ci)).map (fval X memZ ci 0) = zF ci := List.map_congr_left fun j _ => zF_val X ci 0 j
  show [(X.2.2 0, (Sum.inr (ci, (List.range (clN ci)).map (fval X memZ ci 0)) : va_E))] = _
  rw [e]
theorem zF_ok (ci : Nat) (hci : ci < NC) : ∀ j, j < clN ci → defaultValue (clY ci j) = vp_V (zF ci) j := fun j hj => by
  unfold vp_V zF
  rw [List.getD_eq_getElem?_getD, range_map_at _ hj, Option.getD_some]
  have hok := okk_all ci hci j hj
  unfold zV
  generalize fk ci j = kd at hok ⊢
  generalize clY ci j = ty at hok ⊢
  cases ty <;> (match kd, hok with
    | 0, h9 => first | rfl | (simp [okk] at h9)
    | 1, h9 => first | rfl | (simp [okk] at h9)
    | 2, h9 => first | rfl | (simp [okk] at h9)
    | 3, h9 => first | rfl | (simp [okk] at h9)
    | n + 4, h9 => exact absurd h9 (by simp [okk]))
theorem wl_re {X : WX} {G : Geo} {M : Mem} (f : Nat → Nat) (hf : ∀ k, k < G.1 → f k = X.2.2 k) (hR : RBd G.1 M) : wl (X.1, X.2.1, f) G M = wl X G M := by
  have hm : ∀ a j, (mR M a j).map f = (mR M a j).map X.2.2 := fun a j => by
    cases h : mR M a j with
    | none => rfl
    | some q => exact congrArg some (hf q (hR a j q h))
  unfold wl
  refine List.map_congr_left fun k hk => ?_
  have hk : k < G.1 := List.mem_range.mp hk
  have e : ecell (X.1, X.2.1, f) M (G.2 k) k = ecell X M (G.2 k) k := by
    unfold ecell
    split
    · have e2 : (List.range (clN (G.2 k).2)).map (fval (X.1, X.2.1, f) M (G.2 k).2 k) = (List.range (clN (G.2 k).2)).map (fval X M (G.2 k).2 k) := List.map_congr_left fun j _ => by
        unfold fval
        split
        · rfl
        · exact congrArg va_rf (hm k j)
        · rfl
      rw [e2]
    · rfl
    · rfl
    · rfl
    · have e2 : (fun j => (mR M k j).map f) = fun j => (mR M k j).map X.2.2 := funext fun j => hm k j
      exact congrArg (fun g => (Sum.inl (X.2.1 3, (G.2 k).2, Sum.inr (Sum.inr (Sum.inr (Sum.inr g)))) : va_E)) e2
    · have e2 : (fun j => (mR M k j).map f) = fun j => (mR M k j).map X.2.2 := funext fun j => hm k j
      exact congrArg (fun g => (Sum.inl (X.2.1 4, (G.2 k).2, Sum.inr (Sum.inr (Sum.inr (Sum.inr g)))) : va_E)) e2
  show (f k, _) = (X.2.2 k, _)
  rw [hf k hk, e]
theorem vaP_l {D : va_G} {cl : List vw_C} {w1 w2 : va_W} {H : Heap} (h : va_P D cl (w1 ++ w2) H) : va_P D cl w1 H := fun k q z => h k q (by rw [List.getElem?_append_left (List.getElem?_eq_some_iff.mp z).1]; exact z)
theorem vaP_r {D : va_G} {cl : List vw_C} {w1 w2 : va_W} {H : Heap} (h : va_P D cl (w1 ++ w2) H) : va_P D cl w2 H := fun k q z => h (w1.length + k) q (by rw [List.getElem?_append_right (by omega), Nat.add_sub_cancel_left]; exact z)
theorem vaD_l {A : Nat → Prop} {w1 w2 : va_W} (h : va_D A (w1 ++ w2)) : va_D A w1 := by
  have e : ∀ (k : Nat) (q : Nat × va_E), w1[k]? = some q → (w1 ++ w2)[k]? = some q := fun k q z => by rw [List.getElem?_append_left (List.getElem?_eq_some_iff.mp z).1]; exact z
  exact ⟨fun i j p q hp hq z => h.1 i j p q (e i p hp) (e j q hq) z, fun k q hq => h.2 k q (e k q hq)⟩
theorem vaD_r {A : Nat → Prop} {w1 w2 : va_W} (h : va_D A (w1 ++ w2)) : va_D A w2 := by
  have e : ∀ (k : Nat) (q : Nat × va_E), w2[k]? = some q → (w1 ++ w2)[w1.length + k]? = some q := fun k q z => by rw [List.getElem?_append_right (by omega), Nat.add_sub_cancel_left]; exact z
  exact ⟨fun i j p q hp hq z => by have := h.1 _ _ p q (e i p hp) (e j q hq) z; omega, fun k q hq => h.2 _ q (e k q hq)⟩
theorem vaD_x {A : Nat → Prop} {w1 : va_W} {a : Nat} {x : va_E} (h : va_D A (w1 ++ [(a, x)])) {k : Nat} {q : Nat × va_E} (hk : w1[k]? = some q) : q.1 ≠ a := fun z => by
  have hlt := (List.getElem?_eq_some_iff.mp hk).1
  have := h.1 k w1.length q (a, x) (by rw [List.getElem?_append_left hlt]; exact hk) (by rw [List.getElem?_append_right (Nat.le_refl _), Nat.sub_self]; rfl) z
  omega
section LWI
variable {p : Program} {l : Launch} {e : Env} {s : State} {m : MethodId} {below : List Frame} {meth : Method} {c : Code} {bq L : Nat} {xs : Nat → Int32} {X : WX} {G : Geo} {M : Mem} {H : Heap} {locs : List Loc} {cells slots : Nat} {la : Array Slot} {pc : Nat} {st : List Value} {QF : State → Prop}
/-- a constructor called out of the law -/
theorem L_ini (C0 : lw_At p s m meth c bq L xs) (k1 : va_K X.1 classes (tys X) s) (k2 : KS X (LA s) s) (k3 : Wd X G M (LA s) H) (k4 : Fr X G H) (hSS : va_S (LA s) s.heap H locs) {idx d' b' bs' : Nat} {y' : MethodName} {bt : ByteArray} {mL : Nat} {rest : List Value} {ls' : List (Option Value)} {Q' : Option Value → Geo → Mem → Prop}
    (spec : E d' b' bs' (y', bt, mL, none) 0 ls' [] G M Q') (hd : decode code pc = .ok (.invokespecial idx, 3)) (hl : Cond.methodLink R_law idx y' ∈ TB) (cb : CB (y', bt, mL, none) 0) (ct : CIt (y', bt, mL, none)) (hr : d' ≤ 300 ∧ mL ≤ 40)
    (hls : el mL [.ref 0] = ls') (hlen : ([Value.ref 0].flatMap el1).length ≤ mL) (hst : st = .ref (X.2.2 0) :: rest) (hroom : (rest.map fun v => v.category).sum ≤ 8) (hsz : la.size = 4) (hb : cells + b' ≤ 600000 ∧ slots + bs' ≤ 7302250)
    (kk : ∀ v G' M' H' locs', Q' v G' M' → Wd X G' M' (LA s) H' → Fr X G' H' → va_S (LA s) s.heap H' locs' → H.size ≤ H'.size → (∀ q, q < H.size → ¬ va_A (wl X G M) H.size q → H'[q]? = H[q]?) → W p l e room_1 s m #[Value.ref bq] below meth c H' locs' (cells + b') (slots + bs') QF (F0 m (pc + 3) la ((v.map (cv X)).toList ++ rest))) : W p l e room_1 s m #[Value.ref bq] below meth c H locs cells slots QF (F0 m pc la st) := by
  have hts := lwTB C0
  have hA2 : ∀ q, va_A (wl X G M) H.size q → LA s q := wl_va X G M H.size k3.2 (fun q hq => Nat.le_trans hSS.1 hq)
  have hrun := va_runI (As := ([] : List Value).map (cv X)) (rest := rest) (b := X.2.2 0) (l := l) (e := e) (below := below) (meth := meth) (cells := cells) (slots := slots) (locs := locs) (R := room_1) (g := F0 m pc la st) (H := H) (lw_fix C0) (E_met cb hls hlen spec l X H.size) ⟨callB_of 0 hts (TB_goodIn (y', bt, mL, none) cb.1) rfl rfl rfl (hts _ cb.2.1) (hts _ hl) ⟨cb.2.2.2.1, cb.2.2.2.2.1, cb.2.2.2.2.2⟩ ⟨by show d' + 1 ≤ 2048; omega, by show 8 + (mL + 11) + (60 * d' + 100) ≤ 84000; omega⟩, ct.2, hts _ ct.1⟩ ⟨PcE_blind X G M H.size _, fun U hU hW => ?_⟩ rfl rfl hsz hst (lv_room hroom) hd hb
  · intro T hT XX
    obtain ⟨v, st₀, t, T', Lo, h0, X', hL, e1, e2, ⟨v', G', M', hv, hq, hw, hfr, hF⟩, stp⟩ := hrun T hT XX
    cases hv
    obtain ⟨hz, hk⟩ := hF
    rw [h0] at hz hk
    have hS2 : va_S (LA s) s.heap T'.heap (locs ++ Lo) := ⟨Nat.le_trans hSS.1 (by rw [e1]; exact hz), fun q h1 h2 => by rw [e1, hk q (Nat.lt_of_lt_of_le h1 hSS.1) (fun z => h2 (hA2 q z))]; exact hSS.2.1 q h1 h2, fun q hq => by
      rcases List.mem_append.mp hq with z | z
      · exact hSS.2.2 q z
      · exact hA2 _ (hL q z)⟩
    obtain ⟨t2, a1, b1⟩ := kk v' G' M' T'.heap (locs ++ Lo) hq ⟨by rw [e1]; exact hw.1, hw.2.weaken (fun _ q _ z => hA2 q.1 z)⟩ (by rw [e1]; exact hfr) hS2 (by rw [e1]; exact hz) (by rw [e1]; exact hk) T' rfl X'
    exact ⟨t2, stp t2 a1, b1⟩
  · exact ⟨rfl, by rw [hU], ⟨by rw [hU]; exact k3.1, k3.2.weaken (fun _ _ _ _ => trivial)⟩, va_K.moved hW.alike k1, k2.warm hW hU (fun a h1 h2 => hSS.2.1 a h1 h2) hA2, by rw [hU]; exact k4⟩
end LWI
def σZ : St := (crZ, crZ, [], -1, -1)
theorem SI_Z : SI σZ := ⟨crZ_w, ⟨[], rfl⟩, fun x hx => absurd hx List.not_mem_nil⟩
theorem SM_Z {v : Option Value} {G : Geo} {M : Mem} (h : TMQ v G M) : SM σZ M := ⟨h.2.2.1, h.2.2.2.1, h.2.2.2.2.1, h.2.2.2.2.2.1, h.2.2.2.2.2.2.1, h.2.2.2.2.2.2.2.1, h.2.2.2.2.2.2.2.2⟩
theorem HC_Z {b : Nat} {G : Geo} {M : Mem} (h : CrF b M) : HC crZ b G M := by
  obtain ⟨h1, h2, h3, h4, h5, h6, h7, h8, h9⟩ := h
  refine ⟨⟨h6 2 (by decide), h6 3 (by decide), h6 4 (by decide), h6 5 (by decide), h7, h6 7 (by decide), fun p hp => absurd hp (Nat.not_lt_zero p), fun i hi => absurd hi (Nat.not_lt_zero i)⟩, fun p hp => absurd hp (Nat.not_lt_zero p), fun p hp => absurd hp (Nat.not_lt_zero p), fun p _ => h8 p, ⟨0, by decide, h4 5 (by decide), fun i m hm => (by cases hm)⟩, h4 6 (by decide), h4 8 (by decide), fun t ht => absurd ht (Nat.not_lt_zero t), h5, h4 12 (by decide), fun i hi => absurd hi (Nat.not_lt_zero i), h4 15 (by decide), fun i hi => absurd hi (Nat.not_lt_zero i), fun v _ => h9 v, crZ_w⟩
theorem rmC_lt {a j q : Nat} (h : rmC a j = some q) : a < 234 ∧ q < 234 := by
  unfold rmC at h
  split at h
  all_goals first | (have e := Option.some.inj h; omega) | (cases h; done)
theorem SC_Z {v : Option Value} {G : Geo} {M : Mem} (h : TPQ v G M) : SC σZ G M ∧ G.1 = 234 ∧ RBd 234 M := by
  obtain ⟨-, M1, hT, rfl⟩ := h
  obtain ⟨h0, h1, h2, h3, h4, h5, h6, h7, h8, h9⟩ := hT
  have eR : mR (wI (wI M1 0 11 (-1)) 0 12 (-1)) = mR M1 := rfl
  have eI : ∀ a, a ≠ 0 → mI (wI (wI M1 0 11 (-1)) 0 12 (-1)) a = mI M1 a := fun a ha => (mI_ne ha).trans (mI_ne ha)
  have hcf : ∀ b, CrAd b → CrF b (wI (wI M1 0 11 (-1)) 0 12 (-1)) := fun b hb => (h6 b hb (by unfold CrAd at hb; omega)).cg fun k hk => ⟨eI _ (by unfold CrAd at hb; omega), rfl⟩
  have f1 := hcf 1 (Or.inl rfl)
  have f2 := hcf 105 (Or.inr rfl)
  refine ⟨⟨⟨by omega, h2⟩, ⟨fun a j q z => ?_, fun a ha => h5 a ha (by unfold MoAd at ha; omega), fun b hb => (hcf b hb).1, fun b hb => (hcf b hb).2.1⟩, HC_Z f1, HC_Z f2, fun t _ => Or.inl (f1.2.2.1 t), fun t _ => Or.inl (f2.2.2.1 t), ⟨by decide, ?_, fun i hi => absurd hi (Nat.not_lt_zero i), fun b hb => absurd hb List.not_mem_nil⟩, ?_, ?_⟩, h1, h9⟩
  · obtain ⟨z1, z2⟩ := rmC_lt z
    by_cases y : a = 0
    · subst y; exact h3 j q z z2
    · exact h4 a j q (by omega) z1 z
  · rw [eI 220 (by decide)]; exact h8 (by decide)
  · show mI (wI (wI M1 0 11 (-1)) 0 12 (-1)) 0 11 = -1
    rw [mI_wa, if_neg (by decide), mI_wa, if_pos rfl]
  · show mI (wI (wI M1 0 11 (-1)) 0 12 (-1)) 0 12 = -1
    rw [mI_wa, if_pos rfl]
