section LWS
variable {p : Program} {e : Env} {s : State} {m : MethodId} {below : List Frame} {meth : Method} {c : Code}
/-- the map of a world's first cell and of the free addresses behind the heap -/
def fmap (X0 : WX) (q sz : Nat) : Nat → Nat := fun k => if k < 1000000 then (if k = 0 then q else sz + (k - 1)) else X0.2.2 k
theorem fmap_0 (X0 : WX) (q sz : Nat) : fmap X0 q sz 0 = q := rfl
theorem fmap_k (X0 : WX) (q sz : Nat) {k : Nat} (h : 1 ≤ k) (h2 : k < 1000000) : fmap X0 q sz k = sz + (k - 1) := by
  unfold fmap
  rw [if_pos h2, if_neg (by omega)]
theorem fmap_h (X0 : WX) (q sz : Nat) {k : Nat} (h : 1000000 ≤ k) : fmap X0 q sz k = X0.2.2 k := if_neg (by omega)
/-- the law from the two objects made: into its loop -/
theorem lw_go (l : Launch) {b L : Nat} {xs : Nat → Int32} (hL : L ≤ 3072) (C0 : lw_At p s m meth c b L xs) {X1 X2 : WX} {G1 : Geo} {M1 M2 : Mem} {H : Heap} {locs : List Loc} {la : Array Slot} (hS : LSt s X1 X2 G1 M1 M2 H locs) (hC : SC σZ G1 M1) (hM : SM σZ M2) (hg : G1.1 = 234)
    (hl : lv_has la 4 [(1, .ref (X1.2.2 0)), (0, .ref b)]) : W p l e room_1 s m #[Value.ref b] below meth c H locs 249 15938 (lw_Z below #[Value.ref b] s) (F0 m 15 la [.ref (X2.2.2 0)]) := by
  have hx := C0.1
  have hb := C0.2.1
  refine lv_astore_n (lv' := [(2, .ref (X2.2.2 0)), (1, .ref (X1.2.2 0)), (0, .ref b)]) hx hb d_La_15 rfl hl (by decide) rfl (fun la hl => ?_)
  refine lv_iconst (v := 0) hx hb d_La_16 (by decide) ?_
  refine lv_istore_n (lv' := [(3, .int 0), (2, .ref (X2.2.2 0)), (1, .ref (X1.2.2 0)), (0, .ref b)]) hx hb d_La_17 rfl hl (by decide) rfl (fun la hl => ?_)
  exact lw_loop C0 hL 513 0 σZ G1 M1 M2 H locs 249 15938 la rfl (Nat.zero_le _) (Nat.le_refl _) (Nat.le_refl _) (by omega) hS hl hC hM SI_Z
/-- the second object -/
theorem lw_two (l : Launch) {b L : Nat} {xs : Nat → Int32} (hL : L ≤ 3072) (C0 : lw_At p s m meth c b L xs) {X0 : WX} (k1 : va_K X0.1 classes (tys X0) s) (k2 : KS X0 (LA s) s) {f : Nat → Nat} {G1 : Geo} {M1 : Mem} {H : Heap} {locs : List Loc} {la : Array Slot} (hW : Wd (X0.1, X0.2.1, f) G1 M1 (LA s) H) (hSS : va_S (LA s) s.heap H locs) (hC : SC σZ G1 M1) (hg : G1.1 = 234) (hR : RBd 234 M1)
    (hl : lv_has la 4 [(1, .ref (f 0)), (0, .ref b)]) : W p l e room_1 s m #[Value.ref b] below meth c H locs 234 9053 (lw_Z below #[Value.ref b] s) (F0 m 8 la []) := by
  have hx := C0.1
  have hb := C0.2.1
  have hT := lwTB C0
  have hA : ∀ q : Nat, s.heap.size ≤ q → LA s q := fun _ h => h
  refine va_new (ci := 9) (own := R_law) (C := clC 9) (T := clT 9) (N := clN 9) (D := X0.1) (cl := classes) (tys := tys X0) (ws := wl (X0.1, X0.2.1, f) G1 M1) (A := LA s) (H0 := s.heap) hx hb hT (cl_in 9 (by decide)) (clY 9) (cl_ty 9 (by decide)) C0.2.2.2.2.1 (hT _ kl_La_10) (hT _ in_TM) (hT _ it_TM) k1 hW.1 hW.2 hSS hA (cl_at 9 (by decide)) (fs := zF 9) (zF_ok 9 (by decide)) (Nat.le_of_ble_eq_true rfl) (Nat.le_of_ble_eq_true rfl) d_La_8 (fun q2 H2 hP2 hD2 hS2 => ?_)
  refine lv_dup hx hb d_La_11 rfl ?_
  have w2 : Wd (X0.1, X0.2.1, fmap X0 q2 H2.size) g0M memZ (LA s) H2 := by
    have e : wl (X0.1, X0.2.1, fmap X0 q2 H2.size) g0M memZ = [(q2, .inr (9, zF 9))] := wl_one _ 9
    unfold Wd
    rw [e]
    exact ⟨vaP_r hP2, vaD_r hD2⟩
  have f2 : Fr (X0.1, X0.2.1, fmap X0 q2 H2.size) g0M H2 := ⟨by decide, fun k h1 h2 => fmap_k X0 q2 H2.size h1 h2⟩
  have s2 : KS (X0.1, X0.2.1, fmap X0 q2 H2.size) (LA s) s := k2.re _ fun k hk => fmap_h X0 q2 H2.size hk
  have lt1 : ∀ k, k < 234 → f k < H2.size := fun k hk => wl_lt (X := (X0.1, X0.2.1, f)) (G := G1) (M := M1) (vaP_l hP2) (by omega)
  have ne1 : ∀ k, k < 234 → f k ≠ q2 := fun k hk => vaD_x hD2 (wl_at (X0.1, X0.2.1, f) G1 M1 (show k < G1.1 by omega))
  refine L_ini C0 (X := (X0.1, X0.2.1, fmap X0 q2 H2.size)) (rest := [.ref q2]) k1 s2 w2 f2 hS2 (sp_TM_init (fun _ => rfl) rfl) d_La_12 ml_La_12 cb_TM_init ci_TM_init ⟨by decide, by decide⟩ rfl (Nat.le_of_ble_eq_true rfl) rfl (Nat.le_of_ble_eq_true rfl) hl.1 ⟨Nat.le_of_ble_eq_true rfl, Nat.le_of_ble_eq_true rfl⟩ (fun v G' M' H' locs' hq w3 f3 hS3 hz hkp => ?_)
  obtain ⟨rfl, rfl, hq3⟩ := id hq
  have hM := SM_Z hq
  have kept : ∀ (k : Nat) (x : Nat × va_E), (wl (X0.1, X0.2.1, f) G1 M1)[k]? = some x → H'[x.1]? = H2[x.1]? := fun k x hx => by
    have hk : k < 234 := by
      have := (List.getElem?_eq_some_iff.mp hx).1
      rw [← hg]
      simpa [wl] using this
    have ex : x.1 = f k := by
      rw [wl_at (X0.1, X0.2.1, f) G1 M1 (show k < G1.1 by omega)] at hx
      exact (congrArg Prod.fst (Option.some.inj hx)).symm
    rw [ex]
    refine hkp (f k) (lt1 k hk) (fun z => ?_)
    obtain ⟨j, hj, hje⟩ := wl_in2 z (lt1 k hk)
    have hj0 : j = 0 := by
      have : j < 1 := hj
      omega
    subst hj0
    exact ne1 k hk hje.symm
  have w1 : Wd (X0.1, X0.2.1, f) G1 M1 (LA s) H' := ⟨(vaP_l hP2).kept kept, hW.2⟩
  obtain ⟨g, hg1, hg2, hg3⟩ : ∃ g : Nat → Nat, (∀ k, k < 234 → g k = f k) ∧ (∀ k, 234 ≤ k → k < 1000000 → g k = H'.size + (k - 234)) ∧ ∀ k, 1000000 ≤ k → g k = X0.2.2 k := by
    refine ⟨fun k => if k < 234 then f k else if k < 1000000 then H'.size + (k - 234) else X0.2.2 k, fun k h => if_pos h, fun k h h2 => ?_, fun k h => ?_⟩
    · show (if k < 234 then f k else if k < 1000000 then H'.size + (k - 234) else X0.2.2 k) = _
      rw [if_neg (by omega), if_pos h2]
    · show (if k < 234 then f k else if k < 1000000 then H'.size + (k - 234) else X0.2.2 k) = _
      rw [if_neg (by omega), if_neg (by omega)]
  have ew : wl (X0.1, X0.2.1, g) G1 M1 = wl (X0.1, X0.2.1, f) G1 M1 := wl_re (X := (X0.1, X0.2.1, f)) g (fun k hk => hg1 k (by omega)) (by rw [hg]; exact hR)
  have hst : LSt s (X0.1, X0.2.1, g) (X0.1, X0.2.1, fmap X0 q2 H2.size) G1 M1 M' H' locs' := by
    refine ⟨⟨k1, k2.re g hg3, ?_, ⟨by omega, fun k h1 h2 => by rw [hg]; exact hg2 k (by omega) h2⟩⟩, ⟨k1, s2, w3⟩, fun k k' hk hk' => ?_, hS3⟩
    · unfold Wd
      rw [ew]
      exact w1
    · show g k ≠ fmap X0 q2 H2.size k'
      have hk4 : k < 234 := by omega
      rw [hg1 k hk4]
      by_cases z : k' = 0
      · subst z
        exact ne1 k hk4
      · rw [fmap_k X0 q2 H2.size (by omega) (by omega)]
        have := lt1 k hk4
        omega
  have hl2 : lv_has la 4 [(1, .ref (g 0)), (0, .ref b)] := by rw [hg1 0 (by decide)]; exact hl
  refine W.widen (k := 249) (n := 15938) (Nat.le_of_ble_eq_true rfl) (Nat.le_of_ble_eq_true rfl) ?_
  exact lw_go l hL C0 (X1 := (X0.1, X0.2.1, g)) (X2 := (X0.1, X0.2.1, fmap X0 q2 H2.size)) hst hC hM hg hl2
set_option maxHeartbeats 4000000 in
theorem whole_start (l : Launch) (hflags : l.flags = flags0) {b L : Nat} {xs : Nat → Int32} (hL : L ≤ 3072) (C0 : lw_At p s m meth c b L xs) : W p l e room_1 s m #[Value.ref b] below meth c s.heap [] 0 0 (lw_Z below #[Value.ref b] s) (entryFrame m ([Value.ref b] : List Value).toArray 4) := by
  have hx := C0.1
  have hb := C0.2.1
  have hT := lwTB C0
  have hA : ∀ q : Nat, s.heap.size ≤ q → LA s q := fun _ h => h
  obtain ⟨X0, k1, k2⟩ := lw_env C0
  have hl := lv_entry ([.ref b]) (n := 4) (Nat.le_of_ble_eq_true rfl)
  rw [lg_entry_eq]
  generalize (lg_sl ([.ref b]) ++ List.replicate (4 - (lg_sl ([.ref b])).length) Slot.unset).toArray = la at hl ⊢
  have hl : lv_has la 4 [(0, .ref b)] := hl
  refine va_new (ci := 8) (own := R_law) (C := clC 8) (T := clT 8) (N := clN 8) (D := X0.1) (cl := classes) (tys := tys X0) (ws := []) (A := LA s) (H0 := s.heap) hx hb hT (cl_in 8 (by decide)) (clY 8) (cl_ty 8 (by decide)) C0.2.2.2.2.1 (hT _ kl_La_7) (hT _ in_TP) (hT _ it_TP) k1 (fun k q h => by simp at h) ⟨fun i j p q h => by simp at h, fun k q h => by simp at h⟩ va_S.rf hA (cl_at 8 (by decide)) (fs := zF 8) (zF_ok 8 (by decide)) (Nat.le_of_ble_eq_true rfl) (Nat.le_of_ble_eq_true rfl) d_La_0 (fun q1 H1 hP1 hD1 hS1 => ?_)
  refine lv_dup hx hb d_La_3 rfl ?_
  have w1 : Wd (X0.1, X0.2.1, fmap X0 q1 H1.size) (1, fun _ => (0, 8)) memZ (LA s) H1 := by
    have e : wl (X0.1, X0.2.1, fmap X0 q1 H1.size) (1, fun _ => (0, 8)) memZ = [(q1, .inr (8, zF 8))] := wl_one _ 8
    unfold Wd
    rw [e]
    exact ⟨hP1, hD1⟩
  have f1 : Fr (X0.1, X0.2.1, fmap X0 q1 H1.size) (1, fun _ => (0, 8)) H1 := ⟨by decide, fun k h1 h2 => fmap_k X0 q1 H1.size h1 h2⟩
  have s1 : KS (X0.1, X0.2.1, fmap X0 q1 H1.size) (LA s) s := k2.re _ fun k hk => fmap_h X0 q1 H1.size hk
  refine L_ini C0 (X := (X0.1, X0.2.1, fmap X0 q1 H1.size)) (G := (1, fun _ => (0, 8))) (M := memZ) (rest := [.ref q1]) k1 s1 w1 f1 hS1 (sp_TP_init rfl rfl (fun _ => rfl) (fun a j q z => by cases z)) d_La_4 ml_La_9 cb_TP_init ci_TP_init ⟨by decide, by decide⟩ rfl (Nat.le_of_ble_eq_true rfl) rfl (Nat.le_of_ble_eq_true rfl) hl.1 ⟨Nat.le_of_ble_eq_true rfl, Nat.le_of_ble_eq_true rfl⟩ (fun v G' M' H' locs' hq w3 f3 hS3 hz hkp => ?_)
  obtain ⟨hC, hg, hR⟩ := SC_Z hq
  obtain ⟨rfl, -⟩ := hq
  refine lv_astore_n (lv' := [(1, .ref q1), (0, .ref b)]) hx hb d_La_7 rfl hl (by decide) rfl (fun la hl => ?_)
  refine W.widen (k := 234) (n := 9053) (Nat.le_of_ble_eq_true rfl) (Nat.le_of_ble_eq_true rfl) ?_
  exact lw_two l hL C0 k1 k2 (f := fmap X0 q1 H1.size) w3 hS3 hC hg hR hl
end LWS
