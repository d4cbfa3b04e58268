section LWC
variable {p : Program} {l : Launch} {e : Env} {s : State} {m : MethodId} {below : List Frame} {meth : Method} {c : Code} {bq L : Nat} {xs : Nat → Int32} {X1 X2 : WX} {G1 : Geo} {M1 M2 : Mem} {H : Heap} {locs : List Loc} {cells slots : Nat} {la : Array Slot} {pc i : Nat} {st : List Value} {QF : State → Prop} {σ : St}
def LH (la : Array Slot) (bq i : Nat) (X1 X2 : WX) : Prop := lv_has la 4 [(3, .int (nI i)), (2, .ref (X2.2.2 0)), (1, .ref (X1.2.2 0)), (0, .ref bq)]
theorem LA_bq (C0 : lw_At p s m meth c bq L xs) : ¬ LA s bq := Nat.not_le.mpr C0.2.2.2.2.2.2.2.1
theorem vp_nI {j n : Nat} (h : j < n) (hn : n ≤ 3072) : vp_in (nI j) n := fun z => by
  rcases z with z | z
  · exact nI_pos (show j < 2147483648 by omega) z
  · have e : (nI j).toNatClampNeg = j := nI_clamp (show j < 2147483648 by omega)
    omega
/-- an int of the script, by five instructions -/
theorem L_arg (C0 : lw_At p s m meth c bq L xs) (hS : LSt s X1 X2 G1 M1 M2 H locs) (hl : LH la bq i X1 X2) (k : Nat) (hk : i + k < L) (hL : L ≤ 3072) (d1 : decode code pc = .ok (.aload_n 0, 1)) (d2 : decode code (pc + 1) = .ok (.iload_n 3, 1)) {kz : Int} (d3 : decode code (pc + 2) = .ok (.iconst kz, 1)) (hz : Int32.ofInt kz = nI k) (d4 : decode code (pc + 3) = .ok (.iadd, 1)) (d5 : decode code (pc + 4) = .ok (.iaload, 1))
    (kk : W p l e room_1 s m #[Value.ref bq] below meth c H locs cells slots QF (F0 m (pc + 5) la (.int (xs (i + k)) :: st))) : W p l e room_1 s m #[Value.ref bq] below meth c H locs cells slots QF (F0 m pc la st) := by
  have hx := C0.1
  have hb := C0.2.1
  refine lv_aload_n hx hb d1 rfl (lv_at hl 3 rfl) ?_
  refine lv_iload_n hx hb d2 rfl (lv_at hl 0 rfl) ?_
  refine lv_iconst (v := nI k) hx hb d3 hz ?_
  refine lv_iadd hx hb d4 ?_
  have e1 : nI i + nI k = nI (i + k) := nI_add i k
  rw [e1]
  refine va_sld hx hb C0.2.2.2.2.2.2.1 C0.2.2.2.2.2.2.2.1 (LA_bq C0) hS.2.2.2 (vp_nI hk hL) d5 ?_
  have e2 : (nI (i + k)).toNatClampNeg = i + k := nI_clamp (show i + k < 2147483648 by omega)
  rw [e2]
  exact kk
/-- an int of the script as 'not 0' -/
theorem L_bool (C0 : lw_At p s m meth c bq L xs) {x : Int32} (d1 : decode code pc = .ok (.ifCond .eq 7, 3)) (d2 : decode code (pc + 3) = .ok (.iconst 1, 1)) (d3 : decode code (pc + 4) = .ok (.goto 4, 3)) (d4 : decode code (pc + 7) = .ok (.iconst 0, 1))
    (kk : W p l e room_1 s m #[Value.ref bq] below meth c H locs cells slots QF (F0 m (pc + 8) la (.int (if x = 0 then nI 0 else nI 1) :: st))) : W p l e room_1 s m #[Value.ref bq] below meth c H locs cells slots QF (F0 m pc la (.int x :: st)) := by
  have hx := C0.1
  have hb := C0.2.1
  refine lv_if_eq hx hb d1 (tgt := pc + 7) (by omega) (fun z => ?_) (fun z => ?_)
  · rw [if_pos z] at kk
    exact lv_iconst (v := nI 0) hx hb d4 rfl kk
  · rw [if_neg z] at kk
    refine lv_iconst (v := nI 1) hx hb d2 rfl ?_
    exact lv_goto hx hb d3 (tgt := pc + 8) (by omega) kk
def LK (p : Program) (l : Launch) (e : Env) (s : State) (m : MethodId) (below : List Frame) (meth : Method) (c : Code) (bq : Nat) (X1 X2 : WX) (g cells slots : Nat) (la : Array Slot) (QF : State → Prop) : Prop :=
  ∀ (σ' : St) (G' : Geo) (M1' M2' : Mem) (H' : Heap) (locs' : List Loc) (cells' slots' : Nat), cells' ≤ cells + 6 → slots' ≤ slots + 1509 → G'.1 ≤ g + 6 → LSt s X1 X2 G' M1' M2' H' locs' → SC σ' G' M1' → SM σ' M2' → SI σ' → W p l e room_1 s m #[Value.ref bq] below meth c H' locs' cells' slots' QF (F0 m 2005 la [])
theorem qI {P : Int32 → Mem → Prop} {R : Mem → Prop} (h : ∀ r M', P r M' → R M') : ∀ v G' M', QI GM P v G' M' → G' = GM ∧ R M' := fun v G' M' q => ⟨q.1, by obtain ⟨-, r, -, z⟩ := q; exact h r M' z⟩
theorem qL {P : Int64 → Mem → Prop} {R : Mem → Prop} (h : ∀ r M', P r M' → R M') : ∀ v G' M', QL GM P v G' M' → G' = GM ∧ R M' := fun v G' M' q => ⟨q.1, by obtain ⟨-, r, -, z⟩ := q; exact h r M' z⟩
theorem lg_self (x : Int64) : lg_cmp x x = 0 := by
  unfold lg_cmp
  simp
end LWC
