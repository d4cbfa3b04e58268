section MQg
variable {M M0 : Mem} {l : List Nat} {k t s w0 : Nat} {p : List Nat} {cm : Cd}
theorem mpO_rg (h : PlA M p) : mpO p = 0 ∨ (40 ≤ mpO p ∧ mpO p < 100) := by
  unfold mpO
  cases hL : mpL p with
  | nil => exact Or.inl rfl
  | cons o q =>
    obtain ⟨a, b, d, e⟩ := mpL_at p h o q hL
    exact Or.inr ⟨d, b⟩
theorem sp_TM_behindOne (h : MSg l t s w0 M0 (k, p, true, cm) M) (hL : p.length ≤ 150) : E 4 0 0 Y_TM_behindOne 0 [some (.ref 0), none, none, none] [] GM M (QI GM fun r M' => MOb l t s w0 M0 (mpD (SS l) k p cm) r M M') := by
  have hP : PS M p := h.2.2.2.1
  by_cases c1 : mpB p (SS l k) = 0
  · by_cases c2 : mpT (mpO p) p (SS l k) = 0
    · refine bh_no h hL c1 c2 ?_ (mpO_rg hP.1)
      unfold mpD
      rw [if_neg (fun z => z c1), if_pos c2]
      by_cases c3 : mpO p ≠ 0
      · rw [if_pos c3]; show ¬ 2 = 0; decide
      · rw [if_neg c3]; show ¬ 1 = 0; decide
    · obtain ⟨-, -, o1, o2⟩ := mpT_rg c2
      have hq : ∃ o q, mpL p = o :: q := by
        unfold mpO at o1
        cases hL : mpL p with
        | nil => rw [hL] at o1; exact absurd o1 (by decide)
        | cons o q => exact ⟨o, q, rfl⟩
      obtain ⟨o, q, hq⟩ := hq
      have hO : mpO p = o := by unfold mpO; rw [hq]; rfl
      have e1 : (mpS 1 p cm).1 = o :: q := (mpS_1 p cm).trans hq
      have hb := bh_pt h hL c1 rfl c2 hq
      have e : mpD (SS l) k p cm = (0, k + 1, (if 1 < mpT (mpO p) p (SS l k) then (mpT (mpO p) p (SS l k) - 1) :: q else (mpS 7 q ((mpS 1 p cm).2 ++ (if o = 43 then [(3, 0)] else []))).1), (if 1 < mpT (mpO p) p (SS l k) then false else true), (if 1 < mpT (mpO p) p (SS l k) then (mpS 1 p cm).2 else (mpS 7 q ((mpS 1 p cm).2 ++ (if o = 43 then [(3, 0)] else []))).2)) := by
        unfold mpD
        rw [if_neg (fun z => z c1), if_neg c2, e1, hO]
        by_cases c4 : 1 < mpT o p (SS l k)
        · rw [if_pos c4, if_pos c4, if_pos c4, if_pos c4]; rfl
        · rw [if_neg c4, if_neg c4, if_neg c4, if_neg c4]; rfl
      rw [e]
      exact hb
  · have e : mpD (SS l) k p cm = (0, k + 1, mpB p (SS l k) :: (mpS (mpJ (mpB p (SS l k))) p cm).1, false, (mpS (mpJ (mpB p (SS l k))) p cm).2) := by unfold mpD; rw [if_pos c1]
    rw [e]
    exact bh_bi h hL rfl c1
def MFi (l : List Nat) (t s w0 : Nat) (M0 : Mem) (f k : Nat) (c : Cd) (M' : Mem) : Prop := ∃ cm', (f = 0 → cm' = c) ∧ EmS l t s w0 M0 cm' M' ∧ TKM l k M' ∧ vk l k ∧ w0 + cm'.length ≤ k
theorem MSg.fi {g : MpG} {f : Nat} {c : Cd} (h : MSg l t s w0 M0 g M) (hf : f = 0 → g.2.2.2 = c) : MFi l t s w0 M0 f g.1 c M := ⟨g.2.2.2, hf, h.1, h.2.1, h.2.2.1, by have := h.2.2.2.2.2.1; omega⟩
theorem lp_TM_sumx {f k' : Nat} {c : Cd} : ∀ n (g : MpG) (M : Mem), MSg l t s w0 M0 g M → mpRun (SS l) (VV l) s n g = some (f, k', c) → ∀ x : Option Value, c1 x = true → E 7 0 0 Y_TM_summed 15 [some (.ref 0), x] [] GM M (QI GM fun r M' => r = nI f ∧ MFi l t s w0 M0 f k' c M') := by
  intro n
  induction n with
  | zero => intro g M _ h; exact absurd h (by rw [mpRun]; exact fun z => by cases z)
  | succ n ih =>
    intro g M hM hr x hx
    obtain ⟨k, p, wh, cm⟩ := g
    rw [mpRun] at hr
    by_cases hL : 150 < (k, p, wh, cm).2.1.length
    · rw [if_pos hL] at hr; cases hr
    · rw [if_neg hL] at hr
      have hL5 : p.length ≤ 150 := Nat.not_lt.mp hL
      have hR := hM.1.R
      have hP : PS M p := hM.2.2.2.1
      cases wh with
      | true =>
        rw [mpM_d] at hr
        have h18 : mI M 0 18 = nI 1 := hM.2.2.2.2.1
        have bh := sp_TM_behindOne hM hL5
        by_cases c0 : (mpD (SS l) k p cm).1 = 0
        · rw [if_pos c0] at hr
          have bh1 : E 4 0 0 Y_TM_behindOne 0 [some (.ref 0), none, none, none] [] GM M (QI GM fun r M' => r = nI 1 ∧ MSg l t s w0 M0 (mpD (SS l) k p cm).2 M') := E_mono bh (fun _ _ _ q => by obtain ⟨a, r, b, z⟩ := q; exact ⟨a, r, b, z.1 c0⟩)
          first | refine E_aload_n d_TM_summed_15 rfl ?_ | refine E_aload_nN d_TM_summed_15 rfl ?_
          refine E_getZ d_TM_summed_16 gf_TM_174 (by exact ⟨by decide, rfl⟩) (by exact h18) ?_
          first | (with_reducible refine E_isP ?_; refine E_if_eq 48 d_TM_summed_19 rfl (pb_0 fun h19 => ?_) (pb_1 fun h19 => ?_)) | (with_reducible refine E_isN1 ?_; refine E_if_eq 48 d_TM_summed_19 rfl (nz_eq (by omega) fun h19 => ?_) (nz_ne fun h19 => ?_)) | refine E_if_eq 48 d_TM_summed_19 rfl (fun h19 => ?_) (fun h19 => ?_)
          · exfalso; omega
          first | refine E_aload_n d_TM_summed_22 rfl ?_ | refine E_aload_nN d_TM_summed_22 rfl ?_
          refine E_V0 (bh1) d_TM_summed_23 ml_TM_203 cb_TM_behindOne cv_TM_behindOne (by exact ⟨by decide, rfl⟩) ⟨by decide, rfl⟩ ⟨by decide, by decide⟩ rfl (Nat.le_of_ble_eq_true rfl) (Nat.le_of_ble_eq_true rfl) (kI fun r1 M1 hc => ?_)
          obtain ⟨rfl, hc⟩ := hc
          first | (with_reducible refine E_isP ?_; refine E_if_eq 32 d_TM_summed_26 rfl (pb_0 fun h26 => ?_) (pb_1 fun h26 => ?_)) | (with_reducible refine E_isN1 ?_; refine E_if_eq 32 d_TM_summed_26 rfl (nz_eq (by omega) fun h26 => ?_) (nz_ne fun h26 => ?_)) | refine E_if_eq 32 d_TM_summed_26 rfl (fun h26 => ?_) (fun h26 => ?_)
          · exfalso; omega
          refine E_goto 15 d_TM_summed_29 rfl ?_
          exact ih _ _ hc hr x hx
        · rw [if_neg c0] at hr
          have bh0 : E 4 0 0 Y_TM_behindOne 0 [some (.ref 0), none, none, none] [] GM M (QI GM fun r M' => r = nI 0 ∧ M' = M) := E_mono bh (fun _ _ _ q => by obtain ⟨a, r, b, z⟩ := q; exact ⟨a, r, b, z.2 c0⟩)
          have on := sp_TM_openNow hR hP (by omega)
          have cB : mpB p (SS l k) = 0 := Decidable.byContradiction fun z => c0 (by unfold mpD; rw [if_pos z])
          have cT : mpT (mpO p) p (SS l k) = 0 := Decidable.byContradiction fun z => c0 (by unfold mpD; rw [if_neg (fun y => y cB), if_neg z]; split <;> rfl)
          by_cases cO : mpO p ≠ 0
          · have e : mpD (SS l) k p cm = (2, k, p, true, cm) := by unfold mpD; rw [if_neg (fun y => y cB), if_pos cT, if_pos cO]
            rw [e] at hr
            injection hr with hr
            injection hr with hf hr
            injection hr with hk hc
            have hf : 1 = f := hf
            have hk : k = k' := hk
            subst hf
            subst hk
            rw [wO_t cO] at on
            have hO := mpO_rg hP.1
            first | refine E_aload_n d_TM_summed_15 rfl ?_ | refine E_aload_nN d_TM_summed_15 rfl ?_
            refine E_getZ d_TM_summed_16 gf_TM_174 (by exact ⟨by decide, rfl⟩) (by exact h18) ?_
            first | (with_reducible refine E_isP ?_; refine E_if_eq 48 d_TM_summed_19 rfl (pb_0 fun h19 => ?_) (pb_1 fun h19 => ?_)) | (with_reducible refine E_isN1 ?_; refine E_if_eq 48 d_TM_summed_19 rfl (nz_eq (by omega) fun h19 => ?_) (nz_ne fun h19 => ?_)) | refine E_if_eq 48 d_TM_summed_19 rfl (fun h19 => ?_) (fun h19 => ?_)
            · exfalso; omega
            first | refine E_aload_n d_TM_summed_22 rfl ?_ | refine E_aload_nN d_TM_summed_22 rfl ?_
            refine E_V0 (bh0) d_TM_summed_23 ml_TM_203 cb_TM_behindOne cv_TM_behindOne (by exact ⟨by decide, rfl⟩) ⟨by decide, rfl⟩ ⟨by decide, by decide⟩ rfl (Nat.le_of_ble_eq_true rfl) (Nat.le_of_ble_eq_true rfl) (kI fun r1 M1 hc => ?_)
            obtain ⟨rfl, rfl⟩ := hc
            first | (with_reducible refine E_isP ?_; refine E_if_eq 32 d_TM_summed_26 rfl (pb_0 fun h26 => ?_) (pb_1 fun h26 => ?_)) | (with_reducible refine E_isN1 ?_; refine E_if_eq 32 d_TM_summed_26 rfl (nz_eq (by omega) fun h26 => ?_) (nz_ne fun h26 => ?_)) | refine E_if_eq 32 d_TM_summed_26 rfl (fun h26 => ?_) (fun h26 => ?_)
            rotate_left
            · exfalso; omega
            first | refine E_aload_n d_TM_summed_32 rfl ?_ | refine E_aload_nN d_TM_summed_32 rfl ?_
            refine E_V0 (on) d_TM_summed_33 ml_TM_162 cb_TM_openNow cv_TM_openNow (by exact ⟨by decide, rfl⟩) ⟨by decide, rfl⟩ ⟨by decide, by decide⟩ rfl (Nat.le_of_ble_eq_true rfl) (Nat.le_of_ble_eq_true rfl) (kI fun r1 M1 hc => ?_)
            obtain ⟨rfl, rfl⟩ := hc
            first | (with_reducible refine E_isN1 ?_; refine E_if_lt 41 d_TM_summed_36 rfl (nz_lt (by omega) fun h36 => ?_) (nz_nlt (by omega) fun h36 => ?_)) | refine E_if_lt 41 d_TM_summed_36 rfl (fun h36 => ?_) (fun h36 => ?_)
            · exfalso; omega
            refine E_iconst (v := nI 1) d_TM_summed_39 rfl ?_
            refine E_retI d_TM_summed_40 rfl ?_
            exact ⟨rfl, hM.fi (fun z => absurd z (by decide))⟩
          · have cO := Decidable.not_not.mp cO
            have e : mpD (SS l) k p cm = (1, k, (mpS 1 p cm).1, true, (mpS 1 p cm).2) := by unfold mpD; rw [if_neg (fun y => y cB), if_pos cT, if_neg (fun y => y cO)]
            rw [e] at hr
            injection hr with hr
            injection hr with hf hr
            injection hr with hk hc
            have hf : 0 = f := hf
            have hk : k = k' := hk
            have hc : (mpS 1 p cm).2 = c := hc
            subst hf
            subst hk
            subst hc
            rw [cO] at on
            have hk3 := hM.k3
            have hk3 : k ≤ 300 ∧ w0 + cm.length + p.length ≤ 300 := hk3
            have st := sp_TM_settle (n := 1) (by decide) hM.1 hP hk3.2 (by omega)
            have hw : w0 + cm.length + p.length ≤ k := hM.2.2.2.2.2.1
            obtain ⟨a1, a2, a3⟩ := mpS_len 1 p cm
            first | refine E_aload_n d_TM_summed_15 rfl ?_ | refine E_aload_nN d_TM_summed_15 rfl ?_
            refine E_getZ d_TM_summed_16 gf_TM_174 (by exact ⟨by decide, rfl⟩) (by exact h18) ?_
            first | (with_reducible refine E_isP ?_; refine E_if_eq 48 d_TM_summed_19 rfl (pb_0 fun h19 => ?_) (pb_1 fun h19 => ?_)) | (with_reducible refine E_isN1 ?_; refine E_if_eq 48 d_TM_summed_19 rfl (nz_eq (by omega) fun h19 => ?_) (nz_ne fun h19 => ?_)) | refine E_if_eq 48 d_TM_summed_19 rfl (fun h19 => ?_) (fun h19 => ?_)
            · exfalso; omega
            first | refine E_aload_n d_TM_summed_22 rfl ?_ | refine E_aload_nN d_TM_summed_22 rfl ?_
            refine E_V0 (bh0) d_TM_summed_23 ml_TM_203 cb_TM_behindOne cv_TM_behindOne (by exact ⟨by decide, rfl⟩) ⟨by decide, rfl⟩ ⟨by decide, by decide⟩ rfl (Nat.le_of_ble_eq_true rfl) (Nat.le_of_ble_eq_true rfl) (kI fun r1 M1 hc => ?_)
            obtain ⟨rfl, rfl⟩ := hc
            first | (with_reducible refine E_isP ?_; refine E_if_eq 32 d_TM_summed_26 rfl (pb_0 fun h26 => ?_) (pb_1 fun h26 => ?_)) | (with_reducible refine E_isN1 ?_; refine E_if_eq 32 d_TM_summed_26 rfl (nz_eq (by omega) fun h26 => ?_) (nz_ne fun h26 => ?_)) | refine E_if_eq 32 d_TM_summed_26 rfl (fun h26 => ?_) (fun h26 => ?_)
            rotate_left
            · exfalso; omega
            first | refine E_aload_n d_TM_summed_32 rfl ?_ | refine E_aload_nN d_TM_summed_32 rfl ?_
            refine E_V0 (on) d_TM_summed_33 ml_TM_162 cb_TM_openNow cv_TM_openNow (by exact ⟨by decide, rfl⟩) ⟨by decide, rfl⟩ ⟨by decide, by decide⟩ rfl (Nat.le_of_ble_eq_true rfl) (Nat.le_of_ble_eq_true rfl) (kI fun r1 M1 hc => ?_)
            obtain ⟨rfl, rfl⟩ := hc
            first | (with_reducible refine E_isN1 ?_; refine E_if_lt 41 d_TM_summed_36 rfl (nz_lt (by omega) fun h36 => ?_) (nz_nlt (by omega) fun h36 => ?_)) | refine E_if_lt 41 d_TM_summed_36 rfl (fun h36 => ?_) (fun h36 => ?_)
            rotate_left
            · exfalso; exact absurd (show (-1 : Int32) < 0 by decide) h36
            first | refine E_aload_n d_TM_summed_41 rfl ?_ | refine E_aload_nN d_TM_summed_41 rfl ?_
            refine E_iconst (v := nI 1) d_TM_summed_42 rfl ?_
            refine E_V1 (st) d_TM_summed_43 ml_TM_177 cb_TM_settle cv_TM_settle (by exact ⟨by decide, rfl⟩) ⟨by decide, rfl⟩ ⟨by decide, by decide⟩ rfl (Nat.le_of_ble_eq_true rfl) (Nat.le_of_ble_eq_true rfl) (kV fun M1 hc => ?_)
            skip
            refine E_iconst (v := nI 0) d_TM_summed_46 rfl ?_
            refine E_retI d_TM_summed_47 rfl ?_
            exact ⟨rfl, _, fun _ => rfl, hc.1, hM.2.1.fo hc.2.2 (fun j z => by unfold JSt at z; omega), hM.2.2.1, by omega⟩
      | false =>
        rw [mpM_i] at hr
        have h18 : mI M 0 18 = nI 0 := hM.2.2.2.2.1
        have bo := sp_TM_beginOne hM hL5
        by_cases c0 : (mpI (SS l) (VV l) s k p cm).1 = 0
        · rw [if_pos c0] at hr
          have bo1 : E 6 0 0 Y_TM_beginOne 0 [some (.ref 0), none] [] GM M (QI GM fun r M' => r = nI 0 ∧ MSg l t s w0 M0 (mpI (SS l) (VV l) s k p cm).2 M') := E_mono bo (fun _ _ _ q => by obtain ⟨a, r, b, z⟩ := q; exact ⟨a, r, b, z.1 c0⟩)
          first | refine E_aload_n d_TM_summed_15 rfl ?_ | refine E_aload_nN d_TM_summed_15 rfl ?_
          refine E_getZ d_TM_summed_16 gf_TM_174 (by exact ⟨by decide, rfl⟩) (by exact h18) ?_
          first | (with_reducible refine E_isP ?_; refine E_if_eq 48 d_TM_summed_19 rfl (pb_0 fun h19 => ?_) (pb_1 fun h19 => ?_)) | (with_reducible refine E_isN1 ?_; refine E_if_eq 48 d_TM_summed_19 rfl (nz_eq (by omega) fun h19 => ?_) (nz_ne fun h19 => ?_)) | refine E_if_eq 48 d_TM_summed_19 rfl (fun h19 => ?_) (fun h19 => ?_)
          rotate_left
          · exfalso; omega
          first | refine E_aload_n d_TM_summed_48 rfl ?_ | refine E_aload_nN d_TM_summed_48 rfl ?_
          refine E_V0 (bo1) d_TM_summed_49 ml_TM_206 cb_TM_beginOne cv_TM_beginOne (by exact ⟨by decide, rfl⟩) ⟨by decide, rfl⟩ ⟨by decide, by decide⟩ rfl (Nat.le_of_ble_eq_true rfl) (Nat.le_of_ble_eq_true rfl) (kI fun r1 M1 hc => ?_)
          obtain ⟨rfl, hc⟩ := hc
          refine E_istore_1 d_TM_summed_52 rfl ?_
          refine E_iload_n d_TM_summed_53 rfl ?_
          first | (with_reducible refine E_isP ?_; refine E_if_eq 59 d_TM_summed_54 rfl (pb_0 fun h54 => ?_) (pb_1 fun h54 => ?_)) | (with_reducible refine E_isN1 ?_; refine E_if_eq 59 d_TM_summed_54 rfl (nz_eq (by omega) fun h54 => ?_) (nz_ne fun h54 => ?_)) | refine E_if_eq 59 d_TM_summed_54 rfl (fun h54 => ?_) (fun h54 => ?_)
          rotate_left
          · exfalso; omega
          refine E_goto 15 d_TM_summed_59 rfl ?_
          exact ih _ _ hc hr _ rfl
        · rw [if_neg c0] at hr
          have bo0 : E 6 0 0 Y_TM_beginOne 0 [some (.ref 0), none] [] GM M (QI GM fun r M' => r = nI ((mpI (SS l) (VV l) s k p cm).1 - 1) ∧ M' = M) := E_mono bo (fun _ _ _ q => by obtain ⟨a, r, b, z⟩ := q; exact ⟨a, r, b, z.2 c0⟩)
          have c9 : (mpI (SS l) (VV l) s k p cm).1 ≤ 9 ∧ (mpI (SS l) (VV l) s k p cm).1 ≠ 1 ∧ ((mpI (SS l) (VV l) s k p cm).1 ≠ 0 → (mpI (SS l) (VV l) s k p cm).2.1 = k) := by
            unfold mpI mpW
            repeat' split
            all_goals refine ⟨?_, ?_, fun z => ?_⟩
            all_goals first | rfl | exact absurd rfl z | simp
          obtain ⟨c91, c92, c93⟩ := c9
          have c93 := c93 c0
          injection hr with hr
          injection hr with hf hr
          injection hr with hk hc
          rw [c93] at hk
          subst hk
          generalize (mpI (SS l) (VV l) s k p cm).1 = tag at *
          subst hf
          first | refine E_aload_n d_TM_summed_15 rfl ?_ | refine E_aload_nN d_TM_summed_15 rfl ?_
          refine E_getZ d_TM_summed_16 gf_TM_174 (by exact ⟨by decide, rfl⟩) (by exact h18) ?_
          first | (with_reducible refine E_isP ?_; refine E_if_eq 48 d_TM_summed_19 rfl (pb_0 fun h19 => ?_) (pb_1 fun h19 => ?_)) | (with_reducible refine E_isN1 ?_; refine E_if_eq 48 d_TM_summed_19 rfl (nz_eq (by omega) fun h19 => ?_) (nz_ne fun h19 => ?_)) | refine E_if_eq 48 d_TM_summed_19 rfl (fun h19 => ?_) (fun h19 => ?_)
          rotate_left
          · exfalso; omega
          first | refine E_aload_n d_TM_summed_48 rfl ?_ | refine E_aload_nN d_TM_summed_48 rfl ?_
          refine E_V0 (bo0) d_TM_summed_49 ml_TM_206 cb_TM_beginOne cv_TM_beginOne (by exact ⟨by decide, rfl⟩) ⟨by decide, rfl⟩ ⟨by decide, by decide⟩ rfl (Nat.le_of_ble_eq_true rfl) (Nat.le_of_ble_eq_true rfl) (kI fun r1 M1 hc => ?_)
          obtain ⟨rfl, rfl⟩ := hc
          refine E_istore_1 d_TM_summed_52 rfl ?_
          refine E_iload_n d_TM_summed_53 rfl ?_
          first | (with_reducible refine E_isP ?_; refine E_if_eq 59 d_TM_summed_54 rfl (pb_0 fun h54 => ?_) (pb_1 fun h54 => ?_)) | (with_reducible refine E_isN1 ?_; refine E_if_eq 59 d_TM_summed_54 rfl (nz_eq (by omega) fun h54 => ?_) (nz_ne fun h54 => ?_)) | refine E_if_eq 59 d_TM_summed_54 rfl (fun h54 => ?_) (fun h54 => ?_)
          · exfalso; omega
          refine E_iload_n d_TM_summed_57 rfl ?_
          refine E_retI d_TM_summed_58 rfl ?_
          exact ⟨rfl, hM.fi (fun z => by omega)⟩
theorem sp_TM_summed (hE : EmS l t s w0 M0 [] M) (hK : TKM l k M) (hv : vk l k) (hw : w0 ≤ k) (b : Nat) :
    E 7 0 0 Y_TM_summed 0 [some (.ref 0), none] [] GM M (QI GM fun r M' => r = nI (sumR (SS l) (RDF (SS l) (VV l) s 8).1 k b).f ∧ MFi l t s w0 M0 (sumR (SS l) (RDF (SS l) (VV l) s 8).1 k b).f (sumR (SS l) (RDF (SS l) (VV l) s 8).1 k b).k (sumR (SS l) (RDF (SS l) (VV l) s 8).1 k b).cm M') := by
  have hN : ∀ k, Nz (SS l) k → k ≤ 300 := fun k hz => by
    have h1 : vk l k := fun j hj => by
      have := PP_le l j
      have h2 := hz j hj
      have h3 := mt (SS_40 l j).mpr h2
      omega
    exact Nat.le_trans h1.le hE.T.1
  have hz : Nz (SS l) k := fun j hj z => by
    have h1 := hv j hj
    have h2 := (SS_40 l j).mp z
    omega
  have mx := mp_sum (S := SS l) (V := VV l) (sw := s) (VV_0 l) hN hz b
  obtain ⟨n, c, m1, m2⟩ := mx
  generalize sumR (SS l) (RDF (SS l) (VV l) s 8).1 k b = r at *
  have m1 : mpRun (SS l) (VV l) s n (k, [], false, []) = some (r.f, r.k, c) := m1
  have m2 : r.f = 0 → c = r.cm := m2
  have x3 : Fo 0 (fun j => 16 ≤ j ∧ j ≤ 18) An M (wI (wI (wI M 0 16 (nI 0)) 0 17 (nI 0)) 0 18 (nI 0)) := (((Fo.rf (o := 0)).wI (by decide)).wI (by decide)).wI (by decide)
  have hR := hE.R
  have st : MSg l t s w0 M0 (k, [], false, []) (wI (wI (wI M 0 16 (nI 0)) 0 17 (nI 0)) 0 18 (nI 0)) := ⟨hE.cg x3.fx (fun j z => by unfold JP; omega) (fun a z => absurd z (fun y => y)), hK.fo x3 (fun j z => by omega), hv, ⟨trivial, by rw [mI_wa, if_neg (by decide), mI_wa, if_neg (by decide), mI_wa, if_pos rfl]; rfl, by rw [mI_wa, if_neg (by decide), mI_wa, if_pos rfl]; rfl⟩, by rw [mI_wa, if_pos rfl]; rfl, by show w0 + 0 + 0 ≤ k; omega, by show 0 ≤ 8; decide⟩
  have lp : ∀ x : Option Value, c1 x = true → E 7 0 0 Y_TM_summed 15 [some (.ref 0), x] [] GM (wI (wI (wI M 0 16 (nI 0)) 0 17 (nI 0)) 0 18 (nI 0)) (QI GM fun r' M' => r' = nI r.f ∧ MFi l t s w0 M0 r.f r.k r.cm M') := fun x hx => E_mono (lp_TM_sumx n _ _ st m1 x hx) (fun _ _ _ q => by
    obtain ⟨a, v, b, e, cm', z1, z2⟩ := q
    exact ⟨a, v, b, e, cm', fun y => (z1 y).trans (m2 y), z2⟩)
  first | refine E_aload_n d_TM_summed_0 rfl ?_ | refine E_aload_nN d_TM_summed_0 rfl ?_
  refine E_iconst (v := nI 0) d_TM_summed_1 rfl ?_
  refine E_putI d_TM_summed_2 gf_TM_145 (by exact ⟨by decide, rfl⟩) rfl rfl ?_
  first | refine E_aload_n d_TM_summed_5 rfl ?_ | refine E_aload_nN d_TM_summed_5 rfl ?_
  refine E_iconst (v := nI 0) d_TM_summed_6 rfl ?_
  refine E_putI d_TM_summed_7 gf_TM_155 (by exact ⟨by decide, rfl⟩) rfl rfl ?_
  first | refine E_aload_n d_TM_summed_10 rfl ?_ | refine E_aload_nN d_TM_summed_10 rfl ?_
  refine E_iconst (v := nI 0) d_TM_summed_11 rfl ?_
  refine E_putZ d_TM_summed_12 gf_TM_174 (by exact ⟨by decide, rfl⟩) rfl rfl (by decide) ?_
  exact lp _ rfl
end MQg
