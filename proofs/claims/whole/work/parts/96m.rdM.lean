section RDm
variable {G : Geo} {M : Mem} {l : List Nat}
def TOK (t : CT) : Prop := WTx t ∧ TxB t
theorem kdS_01 {s : Nat} (hs : s ≤ 9 ∧ s ≠ 3 ∧ s ≠ 5) : (kdS s = 0 ↔ s = 0) ∧ (kdS s = 1 ↔ s = 1) := by
  rcases (show s = 0 ∨ s = 1 ∨ s = 2 ∨ s = 4 ∨ s = 6 ∨ s = 7 ∨ s = 8 ∨ s = 9 by omega) with rfl | rfl | rfl | rfl | rfl | rfl | rfl | rfl <;> decide
theorem ex_snoc {cl : List (Nat × Nat × Nat)} {e : Nat × Nat × Nat} {v : Nat} : (∃ k, k < (cl ++ [e]).length ∧ ((cl ++ [e]).getD k (0, 0, 0)).1 = v) ↔ (∃ k, k < cl.length ∧ (cl.getD k (0, 0, 0)).1 = v) ∨ e.1 = v := by
  have hl : (cl ++ [e]).length = cl.length + 1 := by rw [List.length_append]; rfl
  constructor
  · rintro ⟨k, h1, h2⟩
    rw [hl] at h1
    rw [getD_snoc] at h2
    by_cases q : k < cl.length
    · rw [if_pos q] at h2; exact Or.inl ⟨k, q, h2⟩
    · rw [if_neg q, if_pos (by omega)] at h2; exact Or.inr h2
  · rintro (⟨k, h1, h2⟩ | h)
    · exact ⟨k, by omega, by rw [getD_snoc, if_pos h1]; exact h2⟩
    · exact ⟨cl.length, by omega, by rw [getD_snoc, if_neg (Nat.lt_irrefl _), if_pos rfl]; exact h⟩
theorem TOK.clR {t : CT} {k b : Nat} (ht : TOK t) (h : (clR (SS l) (VV l) k t b).f = 0) : TOK (clR (SS l) (VV l) k t b).t := by
  have hq : ∀ f k' , ¬ (CR.f (f + 1, k', t, b)) = 0 := fun f k' => Nat.succ_ne_zero f
  unfold Jvm.Pilot.CTruePollLaw_law_r8010_968f2b.clR at h ⊢
  by_cases d1 : ¬ (SS l k ≤ 9 ∧ SS l k ≠ 3 ∧ SS l k ≠ 5)
  · rw [if_pos d1] at h; exact absurd h (hq _ _)
  · rw [if_neg d1] at h ⊢
    by_cases d2 : (SS l k = 0 ∧ t.sy.isSome = true) ∨ (SS l k = 1 ∧ t.sw.isSome = true)
    · rw [if_pos d2] at h; exact absurd h (hq _ _)
    · rw [if_neg d2] at h ⊢
      by_cases d3 : 24 ≤ t.cl.length
      · rw [if_pos d3] at h; exact absurd h (hq _ _)
      · rw [if_neg d3] at h ⊢
        have d1 := Decidable.not_not.mp d1
        generalize SS l k = s at *
        have gn := Gn.rest (S := SS l) (V := VV l) s (k + 1) b
        have lv := fun q => law_vc (l := l) (s := s) (k := k + 1) (b := b) (q := q)
        have ls := lawN_some (l := l) (s := s) (k := k + 1) (b := b)
        generalize restR (SS l) (VV l) s (k + 1) b = r at *
        unfold cluN at h ⊢
        by_cases g0 : r.f ≠ 0
        · rw [if_pos g0] at h; exact absurd h g0
        · rw [if_neg g0] at h ⊢
          have g0 := Decidable.not_not.mp g0
          by_cases g1 : SS l r.k ≠ 38
          · rw [if_pos g1] at h; exact absurd h (hq _ _)
          · rw [if_neg g1]
            obtain ⟨u1, u2, u3, u4⟩ := gn.2.2.2 g0
            obtain ⟨m1, m2, m3, m4⟩ := kd_km d1
            obtain ⟨z0, z1⟩ := kdS_01 d1
            obtain ⟨⟨w1, w2, w3, w4, w5, w6⟩, w7⟩ := ht
            show TOK (t.cl ++ [(kdS s, r.a, r.b)], if s = 0 then r.q else t.sy, if s = 1 then r.q else t.sw)
            have hl : (t.cl ++ [(kdS s, r.a, r.b)]).length = t.cl.length + 1 := by rw [List.length_append]; rfl
            refine ⟨⟨?_, fun i hi => ?_, ?_, ?_, fun q hq => ?_, fun q hq => ?_⟩, fun q hq => ?_⟩
            · show (t.cl ++ [(kdS s, r.a, r.b)]).length ≤ 24
              omega
            · show ((t.cl ++ [(kdS s, r.a, r.b)]).getD i (0, 0, 0)).1 ≤ 8
              have hi : i < (t.cl ++ [(kdS s, r.a, r.b)]).length := hi
              rw [getD_snoc]
              by_cases q : i < t.cl.length
              · rw [if_pos q]; exact w2 i q
              · rw [if_neg q, if_pos (by omega)]; show kdS s ≤ 8; omega
            · show (if s = 0 then r.q else t.sy).isSome = true ↔ ∃ k, k < (t.cl ++ [(kdS s, r.a, r.b)]).length ∧ ((t.cl ++ [(kdS s, r.a, r.b)]).getD k (0, 0, 0)).1 = 0
              rw [ex_snoc]
              by_cases e : s = 0
              · rw [if_pos e]
                obtain ⟨q, hq⟩ := ls (by omega)
                rw [hq]
                exact ⟨fun _ => Or.inr (z0.mpr e), fun _ => rfl⟩
              · rw [if_neg e]
                exact ⟨fun q => Or.inl (w3.mp q), fun q => by rcases q with q | q; exact w3.mpr q; exact absurd (z0.mp q) e⟩
            · show (if s = 1 then r.q else t.sw).isSome = true ↔ ∃ k, k < (t.cl ++ [(kdS s, r.a, r.b)]).length ∧ ((t.cl ++ [(kdS s, r.a, r.b)]).getD k (0, 0, 0)).1 = 1
              rw [ex_snoc]
              by_cases e : s = 1
              · rw [if_pos e]
                obtain ⟨q, hq⟩ := ls (by omega)
                rw [hq]
                exact ⟨fun _ => Or.inr (z1.mpr e), fun _ => rfl⟩
              · rw [if_neg e]
                exact ⟨fun q => Or.inl (w4.mp q), fun q => by rcases q with q | q; exact w4.mpr q; exact absurd (z1.mp q) e⟩
            · have hq : (if s = 0 then r.q else t.sy) = some q := hq
              by_cases e : s = 0
              · rw [if_pos e] at hq; exact (lv q (by omega) g0 hq).1.wc
              · rw [if_neg e] at hq; exact w5 q hq
            · have hq : (if s = 1 then r.q else t.sw) = some q := hq
              by_cases e : s = 1
              · rw [if_pos e] at hq; exact (lv q (by omega) g0 hq).1.wc
              · rw [if_neg e] at hq; exact w6 q hq
            · rcases List.mem_append.mp hq with q2 | q2
              · exact w7 q q2
              · rw [List.mem_singleton.mp q2]; exact ⟨u2, u3⟩
theorem TOK.all : ∀ n (c : CR), TOK c.t → (allR (SS l) (VV l) n c).f = 0 → TOK (allR (SS l) (VV l) n c).t := by
  intro n
  induction n with
  | zero => intro c h _; exact h
  | succ n ih =>
    intro c h h0
    rw [allR] at h0 ⊢
    by_cases q : c.f = 0 ∧ SS l c.k ≠ 40
    · rw [if_pos q] at h0 ⊢
      refine ih _ ?_ h0
      have hf : (Jvm.Pilot.CTruePollLaw_law_r8010_968f2b.clR (SS l) (VV l) c.k c.t c.b).f = 0 := by
        cases n with
        | zero => exact h0
        | succ n =>
          rw [allR] at h0
          by_cases q2 : (Jvm.Pilot.CTruePollLaw_law_r8010_968f2b.clR (SS l) (VV l) c.k c.t c.b).f = 0 ∧ SS l (Jvm.Pilot.CTruePollLaw_law_r8010_968f2b.clR (SS l) (VV l) c.k c.t c.b).k ≠ 40
          · exact q2.1
          · rw [if_neg q2] at h0; exact h0
      exact h.clR hf
    · rw [if_neg q]; exact h
def c00 : CR := (0, 0, ([], none, none), 0)
def prs (l : List Nat) : CR := allR (SS l) (VV l) 25 c00
theorem TOK.prs (h : (prs l).f = 0) : TOK (prs l).t := TOK.all 25 c00 ⟨⟨by decide, fun k hk => absurd hk (Nat.not_lt_zero k), ⟨fun h => (by cases h), fun ⟨k, hk, _⟩ => absurd hk (Nat.not_lt_zero k)⟩, ⟨fun h => (by cases h), fun ⟨k, hk, _⟩ => absurd hk (Nat.not_lt_zero k)⟩, fun q h => by (have h : (none : Option (Cd × Cd)) = some q := h; cases h), fun q h => by (have h : (none : Option (Cd × Cd)) = some q := h; cases h)⟩, fun q h => absurd h List.not_mem_nil⟩ h
theorem nI_ex (x : Int32) : ∃ n, x = nI n := ⟨x.toBitVec.toNat, by
  apply Int32.toBitVec_inj.mp
  apply BitVec.eq_of_toNat_eq
  rw [pk_tn x.toBitVec.isLt]⟩
theorem lp_Re_readAll (hG : GC G) (h3 : l.length ≤ 300) {M0 : Mem} {Q : Option Value → Geo → Mem → Prop} : ∀ n i (c : CR) M, i + n = 25 → CP l c M0 M → (∀ M', CP l (allR (SS l) (VV l) n c) M0 M' → E 217 6 1509 Y_Re_readAll 80 [some (.ref 225), none] [] G M' Q) → E 217 6 1509 Y_Re_readAll 48 [some (.ref 225), some (.int (nI i))] [] G M Q := by
  intro n
  induction n with
  | zero =>
    intro i c M hi hC K
    have e : i = 25 := by omega
    subst e
    refine E_iload_n d_Re_readAll_48 rfl ?_
    refine E_bipush (v := nI 24) d_Re_readAll_49 (by decide) ?_
    first | (with_reducible refine E_isN2 ?_; refine E_icmp_gt 80 d_Re_readAll_51 rfl (nb_lt (by omega) (by omega) fun h51 => ?_) (nb_nlt (by omega) (by omega) fun h51 => ?_)) | refine E_icmp_gt 80 d_Re_readAll_51 rfl (fun h51 => ?_) (fun h51 => ?_)
    rotate_left
    · exfalso; omega
    exact E_wk (ls' := [some (.ref 225), none]) ⟨Or.inl rfl, Or.inr rfl, trivial⟩ (K M hC)
  | succ n ih =>
    intro i c M hi hC K
    rw [allR] at K
    by_cases q : c.f = 0 ∧ SS l c.k ≠ 40
    · rw [if_pos q] at K
      have hc0 := hC.2.1 q.1
      obtain ⟨sw, hs⟩ := hc0.1
      have hR := hs.R
      have hsr := SS_rg l c.k
      have rc := sp_Re_readClause hG h3 hc0 q.2
      refine E_iload_n d_Re_readAll_48 rfl ?_
      refine E_bipush (v := nI 24) d_Re_readAll_49 (by decide) ?_
      first | (with_reducible refine E_isN2 ?_; refine E_icmp_gt 80 d_Re_readAll_51 rfl (nb_lt (by omega) (by omega) fun h51 => ?_) (nb_nlt (by omega) (by omega) fun h51 => ?_)) | refine E_icmp_gt 80 d_Re_readAll_51 rfl (fun h51 => ?_) (fun h51 => ?_)
      · exfalso; omega
      first | refine E_aload_n d_Re_readAll_54 rfl ?_ | refine E_aload_nN d_Re_readAll_54 rfl ?_
      refine E_getI d_Re_readAll_55 gf_Re_44 (by exact hG.s (by decide) rfl) (by exact hs.f) ?_
      first | (with_reducible refine E_isP ?_; refine E_if_ne 80 d_Re_readAll_58 rfl (pb_1 fun h58 => ?_) (pb_0 fun h58 => ?_)) | (with_reducible refine E_isN1 ?_; refine E_if_ne 80 d_Re_readAll_58 rfl (nz_ne fun h58 => ?_) (nz_eq (by omega) fun h58 => ?_)) | refine E_if_ne 80 d_Re_readAll_58 rfl (fun h58 => ?_) (fun h58 => ?_)
      · exfalso; omega
      first | refine E_aload_n d_Re_readAll_61 rfl ?_ | refine E_aload_nN d_Re_readAll_61 rfl ?_
      refine E_getI d_Re_readAll_62 gf_Re_61 (by exact hG.s (by decide) rfl) (by exact hs.s) ?_
      refine E_bipush (v := nI 40) d_Re_readAll_65 (by decide) ?_
      first | (with_reducible refine E_isN2 ?_; refine E_icmp_eq 80 d_Re_readAll_67 rfl (nb_eq (by omega) (by omega) fun h67 => ?_) (nb_ne fun h67 => ?_)) | refine E_icmp_eq 80 d_Re_readAll_67 rfl (fun h67 => ?_) (fun h67 => ?_)
      · exfalso; exact q.2 h67
      first | refine E_aload_n d_Re_readAll_70 rfl ?_ | refine E_aload_nN d_Re_readAll_70 rfl ?_
      refine E_V0 (rc) d_Re_readAll_71 ml_Re_66 cb_Re_readClause cv_Re_readClause (by exact hG.s (by decide) rfl) ⟨by decide, rfl⟩ ⟨by omega, by decide⟩ rfl (Nat.le_of_ble_eq_true rfl) (Nat.le_of_ble_eq_true rfl) (kV fun M1 hc => ?_)
      skip
      first | (with_reducible refine E_isL1 ?_; refine E_iincN1 (m := 1) d_Re_readAll_74 rfl rfl ?_) | refine E_iinc_1 d_Re_readAll_74 rfl rfl ?_
      refine E_goto 48 d_Re_readAll_77 rfl ?_
      exact ih (i + 1) _ _ (by omega) ⟨hC.1.tr hc.1, hc.2.1, hc.2.2⟩ K
    · rw [if_neg q] at K
      by_cases f0 : c.f = 0
      · have hc0 := hC.2.1 f0
        obtain ⟨sw, hs⟩ := hc0.1
        have hR := hs.R
        have e40 : SS l c.k = 40 := Decidable.byContradiction fun z => q ⟨f0, z⟩
        refine E_iload_n d_Re_readAll_48 rfl ?_
        refine E_bipush (v := nI 24) d_Re_readAll_49 (by decide) ?_
        first | (with_reducible refine E_isN2 ?_; refine E_icmp_gt 80 d_Re_readAll_51 rfl (nb_lt (by omega) (by omega) fun h51 => ?_) (nb_nlt (by omega) (by omega) fun h51 => ?_)) | refine E_icmp_gt 80 d_Re_readAll_51 rfl (fun h51 => ?_) (fun h51 => ?_)
        · exfalso; omega
        first | refine E_aload_n d_Re_readAll_54 rfl ?_ | refine E_aload_nN d_Re_readAll_54 rfl ?_
        refine E_getI d_Re_readAll_55 gf_Re_44 (by exact hG.s (by decide) rfl) (by exact hs.f) ?_
        first | (with_reducible refine E_isP ?_; refine E_if_ne 80 d_Re_readAll_58 rfl (pb_1 fun h58 => ?_) (pb_0 fun h58 => ?_)) | (with_reducible refine E_isN1 ?_; refine E_if_ne 80 d_Re_readAll_58 rfl (nz_ne fun h58 => ?_) (nz_eq (by omega) fun h58 => ?_)) | refine E_if_ne 80 d_Re_readAll_58 rfl (fun h58 => ?_) (fun h58 => ?_)
        · exfalso; omega
        first | refine E_aload_n d_Re_readAll_61 rfl ?_ | refine E_aload_nN d_Re_readAll_61 rfl ?_
        refine E_getI d_Re_readAll_62 gf_Re_61 (by exact hG.s (by decide) rfl) (by exact hs.s) ?_
        refine E_bipush (v := nI 40) d_Re_readAll_65 (by decide) ?_
        first | (with_reducible refine E_isN2 ?_; refine E_icmp_eq 80 d_Re_readAll_67 rfl (nb_eq (by omega) (by omega) fun h67 => ?_) (nb_ne fun h67 => ?_)) | refine E_icmp_eq 80 d_Re_readAll_67 rfl (fun h67 => ?_) (fun h67 => ?_)
        rotate_left
        · exfalso; omega
        exact E_wk (ls' := [some (.ref 225), none]) ⟨Or.inl rfl, Or.inr rfl, trivial⟩ (K M hC)
      · have hF := hC.2.2 f0
        have hR := hF.1
        have hf0 := hF.2.2.2.2.1
        have hf6 := hF.2.2.2.2.2
        refine E_iload_n d_Re_readAll_48 rfl ?_
        refine E_bipush (v := nI 24) d_Re_readAll_49 (by decide) ?_
        first | (with_reducible refine E_isN2 ?_; refine E_icmp_gt 80 d_Re_readAll_51 rfl (nb_lt (by omega) (by omega) fun h51 => ?_) (nb_nlt (by omega) (by omega) fun h51 => ?_)) | refine E_icmp_gt 80 d_Re_readAll_51 rfl (fun h51 => ?_) (fun h51 => ?_)
        · exfalso; omega
        first | refine E_aload_n d_Re_readAll_54 rfl ?_ | refine E_aload_nN d_Re_readAll_54 rfl ?_
        refine E_getI d_Re_readAll_55 gf_Re_44 (by exact hG.s (by decide) rfl) (by exact hF.2.2.1) ?_
        first | (with_reducible refine E_isP ?_; refine E_if_ne 80 d_Re_readAll_58 rfl (pb_1 fun h58 => ?_) (pb_0 fun h58 => ?_)) | (with_reducible refine E_isN1 ?_; refine E_if_ne 80 d_Re_readAll_58 rfl (nz_ne fun h58 => ?_) (nz_eq (by omega) fun h58 => ?_)) | refine E_if_ne 80 d_Re_readAll_58 rfl (fun h58 => ?_) (fun h58 => ?_)
        rotate_left
        · exfalso; omega
        exact E_wk (ls' := [some (.ref 225), none]) ⟨Or.inl rfl, Or.inr rfl, trivial⟩ (K M hC)
def RA (l : List Nat) (G : Geo) (M : Mem) (v : Option Value) (G' : Geo) (M' : Mem) : Prop :=
  ∃ M1, Sc (fun a => 220 ≤ a ∧ a ≤ 230) M M1 ∧ TapeC l M1 ∧ RC M1 ∧ ((prs l).f ≠ 0 → v = some .null ∧ G' = G ∧ M' = M1 ∧ FS l (prs l).f (prs l).k M1) ∧ ((prs l).f = 0 → CuSt l (prs l).t (prs l).k (prs l).b M1 ∧ Mde (prs l).t.cl.length (prs l).b (mI M1 225 8) (mI M1 225 9) (mI M1 225 10) (mI M1 225 11) G M1 v G' M')
theorem Fo.sc {o : Nat} {J A : Nat → Prop} {M1 : Mem} {P : Nat → Prop} (h : Fo o J A M M1) (ho : P o) (hA : ∀ a, A a → P a) : Sc P M M1 := ⟨fun a j _ => by rw [h.1], fun a ha => ⟨h.2.1 a (fun e => ha (by rw [e]; exact ho)) (fun q => ha (hA a q)), by rw [h.2.2.2]⟩⟩
def m0A (M : Mem) : Mem := wI (wI (wI (wI (wI (wI M 225 6 (nI 0)) 225 7 (nI 0)) 225 8 (-1)) 225 10 (-1)) 225 16 (nI 0)) 225 17 (-1)
theorem m0A_fo : Fo 225 (fun j => 6 ≤ j) An M (m0A M) := (((((Fo.rf.wI (by decide)).wI (by decide)).wI (by decide)).wI (by decide)).wI (by decide)).wI (by decide)
theorem m0A_f : mI (m0A M) 225 6 = nI 0 ∧ mI (m0A M) 225 7 = nI 0 ∧ mI (m0A M) 225 8 = -1 ∧ mI (m0A M) 225 10 = -1 ∧ mI (m0A M) 225 16 = nI 0 ∧ mI (m0A M) 225 17 = -1 := by
  unfold m0A
  refine ⟨?_, ?_, ?_, ?_, ?_, ?_⟩ <;> simp [mI_wI]
theorem sp_Re_readAll (hG : GC G) (hR : RC M) (hT : TapeC l M) (hlt : G.1 + 6 < 1000000) : E 217 6 1509 Y_Re_readAll 0 [some (.ref 225), none] [] G M (RA l G M) := by
  have h3 := hT.1
  have x0 := m0A_fo (M := M)
  have hR0 : RC (m0A M) := hR.fo x0
  have hT0 : TapeC l (m0A M) := ⟨hT.1, by rw [x0.2.1 220 (by decide) (fun z => z)]; exact hT.2.1, fun i hi => by rw [x0.2.1 221 (by decide) (fun z => z)]; exact hT.2.2.1 i hi, hT.2.2.2⟩
  obtain ⟨f6, f7, f8, f10, f16, f17⟩ := m0A_f (M := M)
  have top : ∀ M3, RC M3 → TapeC l M3 → Sc (fun a => 220 ≤ a ∧ a ≤ 230) M M3 → CuSt l c00.t c00.k c00.b M3 → E 217 6 1509 Y_Re_readAll 48 [some (.ref 225), some (.int (nI 0))] [] G M3 (RA l G M) := by
    intro M3 hR3 hT3 hS3 hC3
    refine lp_Re_readAll hG h3 (M0 := M3) 25 0 c00 M3 rfl ⟨Fo.rf, fun _ => hC3, fun q => absurd rfl q⟩ (fun M4 hP => ?_)
    have hS4 : Sc (fun a => 220 ≤ a ∧ a ≤ 230) M M4 := hS3.tr (hP.1.sc (by decide) (fun a ha => by unfold AC at ha; omega))
    have hT4 : TapeC l M4 := ⟨hT3.1, by rw [hP.1.2.1 220 (by decide) (by unfold AC; omega)]; exact hT3.2.1, fun i hi => by rw [hP.1.2.1 221 (by decide) (by unfold AC; omega)]; exact hT3.2.2.1 i hi, hT3.2.2.2⟩
    have hR4 : RC M4 := hR3.fo hP.1
    by_cases q : (prs l).f = 0
    · have hC := hP.2.1 q
      obtain ⟨⟨sw, hs⟩, hn, hn24, hbk, -⟩ := id hC
      have hvk := hs.v.le
      have mk := sp_Re_made hG hR4 hn hs.z hn24 (by omega) rfl rfl rfl rfl hlt
      first | refine E_aload_n d_Re_readAll_80 rfl ?_ | refine E_aload_nN d_Re_readAll_80 rfl ?_
      refine E_getI d_Re_readAll_81 gf_Re_44 (by exact hG.s (by decide) rfl) (by exact hs.f) ?_
      first | (with_reducible refine E_isP ?_; refine E_if_ne 94 d_Re_readAll_84 rfl (pb_1 fun h84 => ?_) (pb_0 fun h84 => ?_)) | (with_reducible refine E_isN1 ?_; refine E_if_ne 94 d_Re_readAll_84 rfl (nz_ne fun h84 => ?_) (nz_eq (by omega) fun h84 => ?_)) | refine E_if_ne 94 d_Re_readAll_84 rfl (fun h84 => ?_) (fun h84 => ?_)
      · exfalso; omega
      first | refine E_aload_n d_Re_readAll_87 rfl ?_ | refine E_aload_nN d_Re_readAll_87 rfl ?_
      refine E_callV (As := []) (rest := []) (b' := 6) (bs' := 1509) (b2 := 0) (bs2 := 0) d_Re_readAll_88 ml_Re_69 cb_Re_made cv_Re_made (hG.s (k := 225) (by decide) rfl) ⟨by decide, rfl⟩ rfl ⟨by decide, by decide⟩ rfl (Nat.le_of_ble_eq_true rfl) rfl (Nat.le_of_ble_eq_true rfl) (by omega) (by omega) mk (fun v G' M' hM => ?_)
      obtain ⟨rfl, hM2⟩ := hM
      refine E_goto 95 d_Re_readAll_91 rfl ?_
      exact E_aretR d_Re_readAll_95 rfl rfl ⟨M4, hS4, hT4, hR4, fun z => absurd q z, fun _ => ⟨hC, rfl, hM2⟩⟩
    · have hF := hP.2.2 q
      have hf := hF.2.2.1
      have hf0 := hF.2.2.2.2.1
      have hf6 := hF.2.2.2.2.2
      first | refine E_aload_n d_Re_readAll_80 rfl ?_ | refine E_aload_nN d_Re_readAll_80 rfl ?_
      refine E_getI d_Re_readAll_81 gf_Re_44 (by exact hG.s (by decide) rfl) (by exact hf) ?_
      first | (with_reducible refine E_isP ?_; refine E_if_ne 94 d_Re_readAll_84 rfl (pb_1 fun h84 => ?_) (pb_0 fun h84 => ?_)) | (with_reducible refine E_isN1 ?_; refine E_if_ne 94 d_Re_readAll_84 rfl (nz_ne fun h84 => ?_) (nz_eq (by omega) fun h84 => ?_)) | refine E_if_ne 94 d_Re_readAll_84 rfl (fun h84 => ?_) (fun h84 => ?_)
      rotate_left
      · exfalso; omega
      refine E_null d_Re_readAll_94 ?_
      exact E_aretN d_Re_readAll_95 rfl rfl ⟨M4, hS4, hT4, hR4, fun _ => ⟨rfl, rfl, rfl, hF⟩, fun z => absurd z q⟩
  have nxt : ∀ M2, TokC l M2 ∧ Fo 220 J56 A3 (m0A M) M2 → ∀ M3, mI M3 225 13 = nI 0 ∧ mI M3 225 14 = nI (SS l 0) ∧ mI M3 225 15 = nI (VV l 0) ∧ Fo 225 J1 An (wI M2 225 13 (-1)) M3 → RC M3 ∧ TapeC l M3 ∧ Sc (fun a => 220 ≤ a ∧ a ≤ 230) M M3 ∧ CuSt l c00.t c00.k c00.b M3 := by
    intro M2 h2 M3 h3'
    obtain ⟨t2, x2⟩ := h2
    obtain ⟨a1, a2, a3, x3⟩ := h3'
    have x23 : Fo 225 J1 An M2 (wI M2 225 13 (-1)) := Fo.rf.wI (by unfold J1; omega)
    have x24 := x23.tr x3
    have e2 : mI M2 225 = mI (m0A M) 225 := x2.2.1 225 (by decide) (by unfold A3; omega)
    have e3 : ∀ j, ¬ J1 j → mI M3 225 j = mI (m0A M) 225 j := fun j hj => by rw [x24.2.2.1 j hj, e2]
    have hR2 := hR0.fo x2
    have hT2 := hT0.fo x2 (by unfold J56; omega) (by unfold A3; omega)
    obtain ⟨sw, hsw⟩ := nI_ex (mI M3 225 12)
    refine ⟨hR2.fo x24, ⟨hT2.1, by rw [x24.2.1 220 (by decide) (fun z => z)]; exact hT2.2.1, fun i hi => by rw [x24.2.1 221 (by decide) (fun z => z)]; exact hT2.2.2.1 i hi, hT2.2.2.2⟩, ((x0.sc (by decide) (fun a ha => absurd ha (fun z => z))).tr (x2.sc (by decide) (fun a ha => by unfold A3 at ha; omega))).tr (x24.sc (by decide) (fun a ha => absurd ha (fun z => z))), ⟨sw, hR2.fo x24, t2.fo x24 (by decide) (fun _ => An.o), vk0 l, a1, a2, a3, (e3 16 (by unfold J1; omega)).trans f16, (e3 7 (by unfold J1; omega)).trans f7, hsw, (e3 17 (by unfold J1; omega)).trans f17⟩, (e3 6 (by unfold J1; omega)).trans f6, by decide, Nat.le_refl _, fun i hi => absurd hi (Nat.not_lt_zero i), (e3 8 (by unfold J1; omega)).trans f8, (e3 10 (by unfold J1; omega)).trans f10⟩
  have ct := sp_Ta_cutTokens hG hR0 hT0
  have adv := fun M2 (h : TokC l M2 ∧ Fo 220 J56 A3 (m0A M) M2) => sp_Re_advanceG (l := l) (k := 0) (x := -1) (M := wI M2 225 13 (-1)) hG ((hR0.fo h.2).fo (Fo.rf.wI (J := J1) (A := An) (o := 225) (j := 13) (by unfold J1; omega))) (h.1.fo (Fo.rf.wI (J := J1) (A := An) (o := 225) (j := 13) (by unfold J1; omega)) (by decide) (fun _ => An.o)) (vk0 l) h3 (by rw [mI_wa, if_pos rfl]) (by decide)
  have hRx := hR0
  first | refine E_aload_n d_Re_readAll_0 rfl ?_ | refine E_aload_nN d_Re_readAll_0 rfl ?_
  refine E_iconst (v := nI 0) d_Re_readAll_1 rfl ?_
  refine E_putI d_Re_readAll_2 gf_Re_31 (by exact hG.s (by decide) rfl) rfl rfl ?_
  first | refine E_aload_n d_Re_readAll_5 rfl ?_ | refine E_aload_nN d_Re_readAll_5 rfl ?_
  refine E_iconst (v := nI 0) d_Re_readAll_6 rfl ?_
  refine E_putI d_Re_readAll_7 gf_Re_35 (by exact hG.s (by decide) rfl) rfl rfl ?_
  first | refine E_aload_n d_Re_readAll_10 rfl ?_ | refine E_aload_nN d_Re_readAll_10 rfl ?_
  refine E_iconst (v := (-1)) d_Re_readAll_11 rfl ?_
  refine E_putI d_Re_readAll_12 gf_Re_38 (by exact hG.s (by decide) rfl) rfl rfl ?_
  first | refine E_aload_n d_Re_readAll_15 rfl ?_ | refine E_aload_nN d_Re_readAll_15 rfl ?_
  refine E_iconst (v := (-1)) d_Re_readAll_16 rfl ?_
  refine E_putI d_Re_readAll_17 gf_Re_41 (by exact hG.s (by decide) rfl) rfl rfl ?_
  first | refine E_aload_n d_Re_readAll_20 rfl ?_ | refine E_aload_nN d_Re_readAll_20 rfl ?_
  refine E_iconst (v := nI 0) d_Re_readAll_21 rfl ?_
  refine E_putI d_Re_readAll_22 gf_Re_44 (by exact hG.s (by decide) rfl) rfl rfl ?_
  first | refine E_aload_n d_Re_readAll_25 rfl ?_ | refine E_aload_nN d_Re_readAll_25 rfl ?_
  refine E_iconst (v := (-1)) d_Re_readAll_26 rfl ?_
  refine E_putI d_Re_readAll_27 gf_Re_47 (by exact hG.s (by decide) rfl) rfl rfl ?_
  first | refine E_aload_n d_Re_readAll_30 rfl ?_ | refine E_aload_nN d_Re_readAll_30 rfl ?_
  refine E_getR d_Re_readAll_31 gf_Re_27 (by exact hG.s (by decide) rfl) (by exact hR0.o rfl) ?_
  refine E_V0 (ct) d_Re_readAll_34 ml_Re_50 cb_Ta_cutTokens cv_Ta_cutTokens (by exact hG.s (by decide) rfl) ⟨by decide, rfl⟩ ⟨by omega, by decide⟩ rfl (Nat.le_of_ble_eq_true rfl) (Nat.le_of_ble_eq_true rfl) (kV fun M1 hc => ?_)
  have hct := hc
  first | refine E_aload_n d_Re_readAll_37 rfl ?_ | refine E_aload_nN d_Re_readAll_37 rfl ?_
  refine E_iconst (v := (-1)) d_Re_readAll_38 rfl ?_
  refine E_putI d_Re_readAll_39 gf_Re_55 (by exact hG.s (by decide) rfl) rfl rfl ?_
  first | refine E_aload_n d_Re_readAll_42 rfl ?_ | refine E_aload_nN d_Re_readAll_42 rfl ?_
  refine E_V0 (adv _ hct) d_Re_readAll_43 ml_Re_58 cb_Re_advance cv_Re_advance (by exact hG.s (by decide) rfl) ⟨by decide, rfl⟩ ⟨by omega, by decide⟩ rfl (Nat.le_of_ble_eq_true rfl) (Nat.le_of_ble_eq_true rfl) (kV fun M1 hc => ?_)
  skip
  refine E_iconst (v := nI 0) d_Re_readAll_46 rfl ?_
  refine E_istore_1 d_Re_readAll_47 rfl ?_
  obtain ⟨z1, z2, z3, z4⟩ := nxt _ hct _ hc
  exact top _ z1 z2 z3 z4
end RDm
