section CMf
variable {c : Cr} {G : Geo} {M : Mem}
def cU (c : Cr) (a : Nat) (m : Mo) : Cr := if a = 2 then c.setNow m else c
theorem cU_sort (c : Cr) (a : Nat) (m : Mo) : (cU c a m).sort = c.sort := by unfold cU; split <;> rfl
theorem cU_hears (c : Cr) (a : Nat) (m : Mo) : (cU c a m).hears = c.hears := by unfold cU; split <;> rfl
theorem cU_ruler (c : Cr) (a : Nat) (m : Mo) : ruler (cU c a m) = ruler c := by unfold cU; split <;> rfl
def SR (a k : Nat) : Prop := Bk a k ∨ k = 212 ∨ k = 213 ∨ k = 215
theorem SR.lt {a k : Nat} (ha : MoAd a) (h : SR a k) : k < 234 := by have := ha.lt; unfold SR Bk at h; omega
theorem AB_up {a : Nat} {m1 m2 : Mo} {M1 M2 : Mem} (h2 : a = 2 ∨ a = 209) (hA : AB (cU c a m1) m1 a G M1) (hX : Sc (SR a) M1 M2) (hm : MoC m2 a M2) (hk : Mok m2) (hp : m2.people = m1.people) : AB (cU c a m2) m2 a G M2 := by
  obtain ⟨a1, a2, a3, a4, a5⟩ := hA
  rcases h2 with rfl | rfl
  · have e1 : cU c 2 m1 = c.setNow m1 := rfl
    have e2 : cU c 2 m2 = (c.setNow m1).setNow m2 := rfl
    rw [e1] at a1
    rw [e2]
    refine ⟨CM_now a1 hX (fun k hk => (hX.2 k (by unfold SR Bk; omega)).1) hp hm (Wf_now a1.w hk hp), a2, hm, hk, Nat.le_refl _⟩
  · have e1 : cU c 209 m1 = c := rfl
    have e2 : cU c 209 m2 = c := rfl
    rw [e1] at a1 a5
    rw [e2]
    exact ⟨a1.sc hX (fun k q => by unfold SR Bk at q; omega), a2, hm, hk, by rw [hp]; exact a5⟩
theorem setX_people (m : Mo) (x y : Nat) : (m.setX x).people = (m.setX y).people := rfl
theorem nx_lt31 (x : Nat) : nx x < 31033 := Nat.mod_lt _ (by decide)
theorem bset_orA {P : Nat → Bool} {n : Nat} (h : P n = true) : bset P n ||| 2 ^ n = bset P (n + 1) := by
  apply Nat.eq_of_testBit_eq
  intro k
  rw [Nat.testBit_or, bset_bit, bset_bit, Nat.testBit_two_pow]
  by_cases q : k = n
  · subst q; simp [h]
  · have e : (decide (k < n + 1)) = decide (k < n) := by rw [decide_eq_decide]; omega
    rw [e]; simp [Ne.symm q]
theorem bset_no {P : Nat → Bool} {n : Nat} (h : P n = false) : bset P n = bset P (n + 1) := by rw [bset, if_neg (by rw [h]; decide), Nat.add_zero]
theorem lp_Ro_pass1 {a f : Nat} {m : Mo} {M0 : Mem} {Q : Option Value → Geo → Mem → Prop} (h2 : a = 2 ∨ a = 209) (hk : Mok m) (hf : f ≤ 8) (r : Option Nat)
    (K : ∀ M u1 u2, AB (cU c a (m.setX (nxs m.people m.x))) (m.setX (nxs m.people m.x)) a G M → Sc (SR a) M0 M → E 4 0 0 Y_Ro_pass 76 [some (.ref 214), some (.ref a), some (.int (nI f)), some (oV r), some (.int (nI (answered c m f))), some (.int (nI m.people)), u1, u2] [] G M Q) :
    ∀ k p M u1 u2, p + k = m.people → AB (cU c a (m.setX (nxs p m.x))) (m.setX (nxs p m.x)) a G M → LawV (ruler c) r G M → Sc (SR a) M0 M → E 4 0 0 Y_Ro_pass 14 [some (.ref 214), some (.ref a), some (.int (nI f)), some (oV r), some (.int (nI (bset (fun q => (isYes c m (ruler c) q f) != (decide (nxs q m.x % 20 = 0))) p))), some (.int (nI p)), u1, u2] [] G M Q := by
  have hp8 := hk.p8
  intro k
  induction k with
  | zero =>
    intro p M u1 u2 hp hA hL hX
    have hG := hA.1.G
    have hR := hA.1.R
    have ha := hA.2.1
    have hm := hA.2.2.1
    have hp2 : p = m.people := by omega
    subst hp2
    have K1 := K M u1 u2 hA hX
    have hpp : mI M a 2 = nI m.people := hm.people
    refine E_iload d_Ro_pass_14 rfl ?_
    first | refine E_aload_n d_Ro_pass_16 rfl ?_ | refine E_aload_nN d_Ro_pass_16 rfl ?_
    refine E_getI d_Ro_pass_17 gf_Ro_29 (by first | exact hG.s (by decide) rfl | exact hG.m ha | exact hG.m1 ha) (by exact hpp) ?_
    first | (with_reducible refine E_isN2 ?_; refine E_icmp_ge 76 d_Ro_pass_20 rfl (nb_le (by omega) (by omega) fun h20 => ?_) (nb_nle (by omega) (by omega) fun h20 => ?_)) | refine E_icmp_ge 76 d_Ro_pass_20 rfl (fun h20 => ?_) (fun h20 => ?_)
    rotate_left
    · exfalso; omega
    exact K1
  | succ k ih =>
    intro p M u1 u2 hp hA hL hX
    have hG := hA.1.G
    have hR := hA.1.R
    have ha := hA.2.1
    have hm := hA.2.2.1
    have hb := bset_lt (fun q => (isYes c m (ruler c) q f) != (decide (nxs q m.x % 20 = 0))) p
    have hpp : mI M a 2 = nI m.people := hm.people
    have hs := sp_As_saysYes hA hL (show p < m.people by omega) hf
    rw [isYes_cg (c := c) (c' := cU c a (m.setX (nxs p m.x))) (m := m) (m' := m.setX (nxs p m.x)) (cU_sort _ _ _) (cU_hears _ _ _) rfl rfl rfl rfl (ruler c) p f] at hs
    have hxl := hA.2.2.2.1.x
    have hxl2 : nxs p m.x < 31033 := hxl
    have N : ∀ M1 u1 u2, Sc SA M M1 → (∀ b, (if ((isYes c m (ruler c) p f) != (decide (nxs p m.x % 20 = 0))) = true then b = bset (fun q => (isYes c m (ruler c) q f) != (decide (nxs q m.x % 20 = 0))) p ||| 2 ^ p else b = bset (fun q => (isYes c m (ruler c) q f) != (decide (nxs q m.x % 20 = 0))) p) → E 4 0 0 Y_Ro_pass 70 [some (.ref 214), some (.ref a), some (.int (nI f)), some (oV r), some (.int (nI b)), some (.int (nI p)), u1, u2] [] G (wI M1 a 6 (nI (nx (nxs p m.x)))) Q) := by
      intro M1 u1 u2 hS b hb2
      have eb : b = bset (fun q => (isYes c m (ruler c) q f) != (decide (nxs q m.x % 20 = 0))) (p + 1) := by
        by_cases hy : ((isYes c m (ruler c) p f) != (decide (nxs p m.x % 20 = 0))) = true
        · rw [if_pos hy] at hb2; rw [hb2]; exact bset_orA hy
        · rw [if_neg hy] at hb2; rw [hb2]; exact bset_no (by simpa using hy)
      subst eb
      have hA1 := hA.sc hS
      have s2 : Sc (SR a) M1 (wI M1 a 6 (nI (nx (nxs p m.x)))) := Sc.rf.wI (Or.inl ⟨Nat.le_refl _, by omega⟩)
      have s1 : Sc (SR a) M M1 := hS.wk (fun k q => by unfold SA at q; unfold SR; omega)
      have hm2' : MoC ((m.setX (nxs p m.x)).setX (nx (nxs p m.x))) a (wI M1 a 6 (nI (nx (nxs p m.x)))) := MoC.setX hA1.2.2.1
      have hm2 : MoC (m.setX (nxs (p + 1) m.x)) a (wI M1 a 6 (nI (nx (nxs p m.x)))) := hm2'
      have hx2 : nxs (p + 1) m.x < 31033 := nxs_lt hk.x (p + 1)
      have hk2 : Mok (m.setX (nxs (p + 1) m.x)) := Mok_setX hk hx2
      have hA2 : AB (cU c a (m.setX (nxs (p + 1) m.x))) (m.setX (nxs (p + 1) m.x)) a G (wI M1 a 6 (nI (nx (nxs p m.x)))) := AB_up h2 hA1 s2 hm2 hk2 (setX_people m _ _)
      have k2 := fun u1 u2 => ih (p + 1) _ u1 u2 (by omega) hA2 (hL.sc (s1.tr s2) (fun _ => SR.lt ha)) (hX.tr (s1.tr s2))
      first | (with_reducible refine E_isL5 ?_; refine E_iincN5 (m := 1) d_Ro_pass_70 rfl rfl ?_) | refine E_iinc_5 d_Ro_pass_70 rfl rfl ?_
      refine E_goto 14 d_Ro_pass_73 rfl ?_
      exact k2 _ _
    have t1 : nxs p m.x % 20 = 0 → pI (isYes c m (ruler c) p f = true) = nI 1 → ∀ {α : Prop} {β : Prop}, β → (if ((isYes c m (ruler c) p f) != (decide (nxs p m.x % 20 = 0))) = true then α else β) := fun q1 q2 α β h => by
      have hy : isYes c m (ruler c) p f = true := by
        by_cases h' : isYes c m (ruler c) p f = true
        · exact h'
        · rw [pI_f h'] at q2; exact absurd q2 (by decide)
      rw [if_neg (by rw [hy, decide_eq_true q1]; decide)]; exact h
    have t2 : nxs p m.x % 20 = 0 → ¬ pI (isYes c m (ruler c) p f = true) = nI 1 → ∀ {α : Prop} {β : Prop}, α → (if ((isYes c m (ruler c) p f) != (decide (nxs p m.x % 20 = 0))) = true then α else β) := fun q1 q2 α β h => by
      have hy : ¬ isYes c m (ruler c) p f = true := fun h' => q2 (pI_t h')
      have hy2 : isYes c m (ruler c) p f = false := by simpa using hy
      rw [if_pos (by rw [hy2, decide_eq_true q1]; decide)]; exact h
    have t3 : ¬ nxs p m.x % 20 = 0 → pI (isYes c m (ruler c) p f = true) = nI 0 → ∀ {α : Prop} {β : Prop}, β → (if ((isYes c m (ruler c) p f) != (decide (nxs p m.x % 20 = 0))) = true then α else β) := fun q1 q2 α β h => by
      have hy : ¬ isYes c m (ruler c) p f = true := fun h' => by rw [pI_t h'] at q2; exact absurd q2 (by decide)
      have hy2 : isYes c m (ruler c) p f = false := by simpa using hy
      rw [if_neg (by rw [hy2, decide_eq_false q1]; decide)]; exact h
    have t4 : ¬ nxs p m.x % 20 = 0 → ¬ pI (isYes c m (ruler c) p f = true) = nI 0 → ∀ {α : Prop} {β : Prop}, α → (if ((isYes c m (ruler c) p f) != (decide (nxs p m.x % 20 = 0))) = true then α else β) := fun q1 q2 α β h => by
      have hy : isYes c m (ruler c) p f = true := by
        by_cases h' : isYes c m (ruler c) p f = true
        · exact h'
        · exact absurd (pI_f h') q2
      rw [if_pos (by rw [hy, decide_eq_false q1]; decide)]; exact h
    clear ih K
    revert hs N
    cases r with
    | none =>
      intro hs N
      refine E_iload d_Ro_pass_14 rfl ?_
      first | refine E_aload_n d_Ro_pass_16 rfl ?_ | refine E_aload_nN d_Ro_pass_16 rfl ?_
      refine E_getI d_Ro_pass_17 gf_Ro_29 (by first | exact hG.s (by decide) rfl | exact hG.m ha | exact hG.m1 ha) (by exact hpp) ?_
      first | (with_reducible refine E_isN2 ?_; refine E_icmp_ge 76 d_Ro_pass_20 rfl (nb_le (by omega) (by omega) fun h20 => ?_) (nb_nle (by omega) (by omega) fun h20 => ?_)) | refine E_icmp_ge 76 d_Ro_pass_20 rfl (fun h20 => ?_) (fun h20 => ?_)
      · exfalso; omega
      first | refine E_aload_n d_Ro_pass_23 rfl ?_ | refine E_aload_nN d_Ro_pass_23 rfl ?_
      refine E_getR d_Ro_pass_24 gf_Ro_19 (by first | exact hG.s (by decide) rfl | exact hG.m ha | exact hG.m1 ha) (by first | exact hR.o rfl | exact hR.c cr1 rfl | exact hR.m0 ha) ?_
      first | refine E_aload_n d_Ro_pass_27 rfl ?_ | refine E_aload_nN d_Ro_pass_27 rfl ?_
      first | refine E_aload_n d_Ro_pass_28 rfl ?_ | refine E_aload_nN d_Ro_pass_28 rfl ?_
      refine E_iload d_Ro_pass_29 rfl ?_
      refine E_iload_n d_Ro_pass_31 rfl ?_
      refine E_V4 (hs) d_Ro_pass_32 ml_Ro_35 cb_As_saysYes cv_As_saysYes (by first | exact hG.s (by decide) rfl | exact hG.m ha | exact hG.m1 ha) ⟨by decide, rfl⟩ ⟨by decide, by decide⟩ rfl (Nat.le_of_ble_eq_true rfl) (Nat.le_of_ble_eq_true rfl) (kI fun r1 M1 hc => ?_)
      obtain ⟨rfl, hS1⟩ := hc; have hA1 := hA.sc hS1
      refine E_istore_6 d_Ro_pass_35 rfl ?_
      first | refine E_aload_n d_Ro_pass_37 rfl ?_ | refine E_aload_nN d_Ro_pass_37 rfl ?_
      refine E_V0 (sp_Mo_drawX hG ha hA1.2.2.1 hA1.2.2.2.1) d_Ro_pass_38 ml_Ro_41 cb_Mo_drawX cv_Mo_drawX (by first | exact hG.s (by decide) rfl | exact hG.m ha | exact hG.m1 ha) ⟨by decide, rfl⟩ ⟨by decide, by decide⟩ rfl (Nat.le_of_ble_eq_true rfl) (Nat.le_of_ble_eq_true rfl) (kI fun r1 M1 hc => ?_)
      obtain ⟨rfl, rfl⟩ := hc
      refine E_bipush (v := nI 20) d_Ro_pass_41 (by decide) ?_
      first | (with_reducible refine E_isN2 ?_; refine E_iremN d_Ro_pass_43 (by omega) (by omega) (by omega) ?_) | refine E_irem d_Ro_pass_43 (by decide) ?_
      first | (with_reducible refine E_isP ?_; refine E_if_ne 51 d_Ro_pass_44 rfl (pb_1 fun h44 => ?_) (pb_0 fun h44 => ?_)) | (with_reducible refine E_isN1 ?_; refine E_if_ne 51 d_Ro_pass_44 rfl (nz_ne fun h44 => ?_) (nz_eq (by omega) fun h44 => ?_)) | refine E_if_ne 51 d_Ro_pass_44 rfl (fun h44 => ?_) (fun h44 => ?_)
      · refine E_iconst (v := nI 0) d_Ro_pass_51 rfl ?_
        refine E_istore_7 d_Ro_pass_52 rfl ?_
        refine E_iload d_Ro_pass_54 rfl ?_
        refine E_iload d_Ro_pass_56 rfl ?_
        first | (with_reducible refine E_isN2 ?_; refine E_icmp_eq 70 d_Ro_pass_58 rfl (nb_eq (by omega) (by omega) fun h58 => ?_) (nb_ne fun h58 => ?_)) | refine E_icmp_eq 70 d_Ro_pass_58 rfl (fun h58 => ?_) (fun h58 => ?_)
        · first | exact N _ _ _ hS1 _ (t1 h44 h58 rfl) | exact N _ _ _ hS1 _ (t2 h44 h58 rfl) | exact N _ _ _ hS1 _ (t3 h44 h58 rfl) | exact N _ _ _ hS1 _ (t4 h44 h58 rfl)
        · refine E_iload d_Ro_pass_61 rfl ?_
          refine E_iconst (v := nI 1) d_Ro_pass_63 rfl ?_
          refine E_iload d_Ro_pass_64 rfl ?_
          first | (with_reducible refine E_isN2 ?_; first | refine E_ishl1 d_Ro_pass_66 (by omega) ?_ | refine E_ishlN d_Ro_pass_66 (by omega) (by omega) ?_) | refine E_ishl d_Ro_pass_66 ?_
          first | (with_reducible refine E_isN2 ?_; refine E_iorN d_Ro_pass_67 ?_) | refine E_ior d_Ro_pass_67 ?_
          refine E_istore_4 d_Ro_pass_68 rfl ?_
          first | exact N _ _ _ hS1 _ (t1 h44 h58 rfl) | exact N _ _ _ hS1 _ (t2 h44 h58 rfl) | exact N _ _ _ hS1 _ (t3 h44 h58 rfl) | exact N _ _ _ hS1 _ (t4 h44 h58 rfl)
      · refine E_iconst (v := nI 1) d_Ro_pass_47 rfl ?_
        refine E_goto 52 d_Ro_pass_48 rfl ?_
        refine E_istore_7 d_Ro_pass_52 rfl ?_
        refine E_iload d_Ro_pass_54 rfl ?_
        refine E_iload d_Ro_pass_56 rfl ?_
        first | (with_reducible refine E_isN2 ?_; refine E_icmp_eq 70 d_Ro_pass_58 rfl (nb_eq (by omega) (by omega) fun h58 => ?_) (nb_ne fun h58 => ?_)) | refine E_icmp_eq 70 d_Ro_pass_58 rfl (fun h58 => ?_) (fun h58 => ?_)
        · first | exact N _ _ _ hS1 _ (t1 h44 h58 rfl) | exact N _ _ _ hS1 _ (t2 h44 h58 rfl) | exact N _ _ _ hS1 _ (t3 h44 h58 rfl) | exact N _ _ _ hS1 _ (t4 h44 h58 rfl)
        · refine E_iload d_Ro_pass_61 rfl ?_
          refine E_iconst (v := nI 1) d_Ro_pass_63 rfl ?_
          refine E_iload d_Ro_pass_64 rfl ?_
          first | (with_reducible refine E_isN2 ?_; first | refine E_ishl1 d_Ro_pass_66 (by omega) ?_ | refine E_ishlN d_Ro_pass_66 (by omega) (by omega) ?_) | refine E_ishl d_Ro_pass_66 ?_
          first | (with_reducible refine E_isN2 ?_; refine E_iorN d_Ro_pass_67 ?_) | refine E_ior d_Ro_pass_67 ?_
          refine E_istore_4 d_Ro_pass_68 rfl ?_
          first | exact N _ _ _ hS1 _ (t1 h44 h58 rfl) | exact N _ _ _ hS1 _ (t2 h44 h58 rfl) | exact N _ _ _ hS1 _ (t3 h44 h58 rfl) | exact N _ _ _ hS1 _ (t4 h44 h58 rfl)
    | some la =>
      intro hs N
      refine E_iload d_Ro_pass_14 rfl ?_
      first | refine E_aload_n d_Ro_pass_16 rfl ?_ | refine E_aload_nN d_Ro_pass_16 rfl ?_
      refine E_getI d_Ro_pass_17 gf_Ro_29 (by first | exact hG.s (by decide) rfl | exact hG.m ha | exact hG.m1 ha) (by exact hpp) ?_
      first | (with_reducible refine E_isN2 ?_; refine E_icmp_ge 76 d_Ro_pass_20 rfl (nb_le (by omega) (by omega) fun h20 => ?_) (nb_nle (by omega) (by omega) fun h20 => ?_)) | refine E_icmp_ge 76 d_Ro_pass_20 rfl (fun h20 => ?_) (fun h20 => ?_)
      · exfalso; omega
      first | refine E_aload_n d_Ro_pass_23 rfl ?_ | refine E_aload_nN d_Ro_pass_23 rfl ?_
      refine E_getR d_Ro_pass_24 gf_Ro_19 (by first | exact hG.s (by decide) rfl | exact hG.m ha | exact hG.m1 ha) (by first | exact hR.o rfl | exact hR.c cr1 rfl | exact hR.m0 ha) ?_
      first | refine E_aload_n d_Ro_pass_27 rfl ?_ | refine E_aload_nN d_Ro_pass_27 rfl ?_
      first | refine E_aload_n d_Ro_pass_28 rfl ?_ | refine E_aload_nN d_Ro_pass_28 rfl ?_
      refine E_iload d_Ro_pass_29 rfl ?_
      refine E_iload_n d_Ro_pass_31 rfl ?_
      refine E_V4 (hs) d_Ro_pass_32 ml_Ro_35 cb_As_saysYes cv_As_saysYes (by first | exact hG.s (by decide) rfl | exact hG.m ha | exact hG.m1 ha) ⟨by decide, rfl⟩ ⟨by decide, by decide⟩ rfl (Nat.le_of_ble_eq_true rfl) (Nat.le_of_ble_eq_true rfl) (kI fun r1 M1 hc => ?_)
      obtain ⟨rfl, hS1⟩ := hc; have hA1 := hA.sc hS1
      refine E_istore_6 d_Ro_pass_35 rfl ?_
      first | refine E_aload_n d_Ro_pass_37 rfl ?_ | refine E_aload_nN d_Ro_pass_37 rfl ?_
      refine E_V0 (sp_Mo_drawX hG ha hA1.2.2.1 hA1.2.2.2.1) d_Ro_pass_38 ml_Ro_41 cb_Mo_drawX cv_Mo_drawX (by first | exact hG.s (by decide) rfl | exact hG.m ha | exact hG.m1 ha) ⟨by decide, rfl⟩ ⟨by decide, by decide⟩ rfl (Nat.le_of_ble_eq_true rfl) (Nat.le_of_ble_eq_true rfl) (kI fun r1 M1 hc => ?_)
      obtain ⟨rfl, rfl⟩ := hc
      refine E_bipush (v := nI 20) d_Ro_pass_41 (by decide) ?_
      first | (with_reducible refine E_isN2 ?_; refine E_iremN d_Ro_pass_43 (by omega) (by omega) (by omega) ?_) | refine E_irem d_Ro_pass_43 (by decide) ?_
      first | (with_reducible refine E_isP ?_; refine E_if_ne 51 d_Ro_pass_44 rfl (pb_1 fun h44 => ?_) (pb_0 fun h44 => ?_)) | (with_reducible refine E_isN1 ?_; refine E_if_ne 51 d_Ro_pass_44 rfl (nz_ne fun h44 => ?_) (nz_eq (by omega) fun h44 => ?_)) | refine E_if_ne 51 d_Ro_pass_44 rfl (fun h44 => ?_) (fun h44 => ?_)
      · refine E_iconst (v := nI 0) d_Ro_pass_51 rfl ?_
        refine E_istore_7 d_Ro_pass_52 rfl ?_
        refine E_iload d_Ro_pass_54 rfl ?_
        refine E_iload d_Ro_pass_56 rfl ?_
        first | (with_reducible refine E_isN2 ?_; refine E_icmp_eq 70 d_Ro_pass_58 rfl (nb_eq (by omega) (by omega) fun h58 => ?_) (nb_ne fun h58 => ?_)) | refine E_icmp_eq 70 d_Ro_pass_58 rfl (fun h58 => ?_) (fun h58 => ?_)
        · first | exact N _ _ _ hS1 _ (t1 h44 h58 rfl) | exact N _ _ _ hS1 _ (t2 h44 h58 rfl) | exact N _ _ _ hS1 _ (t3 h44 h58 rfl) | exact N _ _ _ hS1 _ (t4 h44 h58 rfl)
        · refine E_iload d_Ro_pass_61 rfl ?_
          refine E_iconst (v := nI 1) d_Ro_pass_63 rfl ?_
          refine E_iload d_Ro_pass_64 rfl ?_
          first | (with_reducible refine E_isN2 ?_; first | refine E_ishl1 d_Ro_pass_66 (by omega) ?_ | refine E_ishlN d_Ro_pass_66 (by omega) (by omega) ?_) | refine E_ishl d_Ro_pass_66 ?_
          first | (with_reducible refine E_isN2 ?_; refine E_iorN d_Ro_pass_67 ?_) | refine E_ior d_Ro_pass_67 ?_
          refine E_istore_4 d_Ro_pass_68 rfl ?_
          first | exact N _ _ _ hS1 _ (t1 h44 h58 rfl) | exact N _ _ _ hS1 _ (t2 h44 h58 rfl) | exact N _ _ _ hS1 _ (t3 h44 h58 rfl) | exact N _ _ _ hS1 _ (t4 h44 h58 rfl)
      · refine E_iconst (v := nI 1) d_Ro_pass_47 rfl ?_
        refine E_goto 52 d_Ro_pass_48 rfl ?_
        refine E_istore_7 d_Ro_pass_52 rfl ?_
        refine E_iload d_Ro_pass_54 rfl ?_
        refine E_iload d_Ro_pass_56 rfl ?_
        first | (with_reducible refine E_isN2 ?_; refine E_icmp_eq 70 d_Ro_pass_58 rfl (nb_eq (by omega) (by omega) fun h58 => ?_) (nb_ne fun h58 => ?_)) | refine E_icmp_eq 70 d_Ro_pass_58 rfl (fun h58 => ?_) (fun h58 => ?_)
        · first | exact N _ _ _ hS1 _ (t1 h44 h58 rfl) | exact N _ _ _ hS1 _ (t2 h44 h58 rfl) | exact N _ _ _ hS1 _ (t3 h44 h58 rfl) | exact N _ _ _ hS1 _ (t4 h44 h58 rfl)
        · refine E_iload d_Ro_pass_61 rfl ?_
          refine E_iconst (v := nI 1) d_Ro_pass_63 rfl ?_
          refine E_iload d_Ro_pass_64 rfl ?_
          first | (with_reducible refine E_isN2 ?_; first | refine E_ishl1 d_Ro_pass_66 (by omega) ?_ | refine E_ishlN d_Ro_pass_66 (by omega) (by omega) ?_) | refine E_ishl d_Ro_pass_66 ?_
          first | (with_reducible refine E_isN2 ?_; refine E_iorN d_Ro_pass_67 ?_) | refine E_ior d_Ro_pass_67 ?_
          refine E_istore_4 d_Ro_pass_68 rfl ?_
          first | exact N _ _ _ hS1 _ (t1 h44 h58 rfl) | exact N _ _ _ hS1 _ (t2 h44 h58 rfl) | exact N _ _ _ hS1 _ (t3 h44 h58 rfl) | exact N _ _ _ hS1 _ (t4 h44 h58 rfl)
end CMf
