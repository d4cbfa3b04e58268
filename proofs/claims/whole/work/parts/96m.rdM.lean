section RDm
variable {G : Geo} {M : Mem} {l : List Nat}
def TOK (t : CT) : Prop := WTx t ∧ TxB t
theorem kdS_01 {s : Nat} (hs : s ≤ 9 ∧ s ≠ 3 ∧ s ≠ 5) : (kdS s = 0 ↔ s = 0) ∧ (kdS s = 1 ↔ s = 1) := by
  rcases (show s = 0 ∨ s = 1 ∨ s = 2 ∨ s = 4 ∨ s = 6 ∨ s = 7 ∨ s = 8 ∨ s = 9 by omega) with rfl | rfl | rfl | rfl | rfl | rfl | rfl | rfl <;> decide
theorem ex_snoc {cl : List (Nat × Nat × Nat)} {e : Nat × Nat × Nat} {v : Nat} : (∃ k, k < (cl ++ [e]).length ∧ ((cl ++ [e]).getD k (0, 0, 0)).1 = v) ↔ (∃ k, k < cl.length ∧ (cl.getD k (0, 0, 0)).1 = v) ∨ e.1 = v := by
  have hl : (cl ++ [e]).length = cl.length + 1 := by rw [List.length_append]; rfl
  constructor
  · rintro ⟨k, h1, h2⟩
    rw [hl] at h1
    rw [getD_snoc] at h2
    by_cases q : k < cl.length
    · rw [if_pos q] at h2; exact Or.inl ⟨k, q, h2⟩
    · rw [if_neg q, if_pos (by omega)] at h2; exact Or.inr h2
  · rintro (⟨k, h1, h2⟩ | h)
    · exact ⟨k, by omega, by rw [getD_snoc, if_pos h1]; exact h2⟩
    · exact ⟨cl.length, by omega, by rw [getD_snoc, if_neg (Nat.lt_irrefl _), if_pos rfl]; exact h⟩
theorem TOK.clR {t : CT} {k b : Nat} (ht : TOK t) (h : (clR (SS l) (VV l) k t b).f = 0) : TOK (clR (SS l) (VV l) k t b).t := by
  have hq : ∀ f k' , ¬ (CR.f (f + 1, k', t, b)) = 0 := fun f k' => Nat.succ_ne_zero f
  unfold Jvm.Pilot.CTruePollLaw_law_r8010_968f2b.clR at h ⊢
  by_cases d1 : ¬ (SS l k ≤ 9 ∧ SS l k ≠ 3 ∧ SS l k ≠ 5)
  · rw [if_pos d1] at h; exact absurd h (hq _ _)
  · rw [if_neg d1] at h ⊢
    by_cases d2 : (SS l k = 0 ∧ t.sy.isSome = true) ∨ (SS l k = 1 ∧ t.sw.isSome = true)
    · rw [if_pos d2] at h; exact absurd h (hq _ _)
    · rw [if_neg d2] at h ⊢
      by_cases d3 : 24 ≤ t.cl.length
      · rw [if_pos d3] at h; exact absurd h (hq _ _)
      · rw [if_neg d3] at h ⊢
        have d1 := Decidable.not_not.mp d1
        generalize SS l k = s at *
        have gn := Gn.rest (S := SS l) (V := VV l) s (k + 1) b
        have lv := fun q => law_vc (l := l) (s := s) (k := k + 1) (b := b) (q := q)
        have ls := lawN_some (l := l) (s := s) (k := k + 1) (b := b)
        generalize restR (SS l) (VV l) s (k + 1) b = r at *
        unfold cluN at h ⊢
        by_cases g0 : r.f ≠ 0
        · rw [if_pos g0] at h; exact absurd h g0
        · rw [if_neg g0] at h ⊢
          have g0 := Decidable.not_not.mp g0
          by_cases g1 : SS l r.k ≠ 38
          · rw [if_pos g1] at h; exact absurd h (hq _ _)
          · rw [if_neg g1]
            obtain ⟨u1, u2, u3, u4⟩ := gn.2.2.2 g0
            obtain ⟨m1, m2, m3, m4⟩ := kd_km d1
            obtain ⟨z0, z1⟩ := kdS_01 d1
            obtain ⟨⟨w1, w2, w3, w4, w5, w6⟩, w7⟩ := ht
            show TOK (t.cl ++ [(kdS s, r.a, r.b)], if s = 0 then r.q else t.sy, if s = 1 then r.q else t.sw)
            have hl : (t.cl ++ [(kdS s, r.a, r.b)]).length = t.cl.length + 1 := by rw [List.length_append]; rfl
            refine ⟨⟨?_, fun i hi => ?_, ?_, ?_, fun q hq => ?_, fun q hq => ?_⟩, fun q hq => ?_⟩
            · show (t.cl ++ [(kdS s, r.a, r.b)]).length ≤ 24
              omega
            · show ((t.cl ++ [(kdS s, r.a, r.b)]).getD i (0, 0, 0)).1 ≤ 8
              have hi : i < (t.cl ++ [(kdS s, r.a, r.b)]).length := hi
              rw [getD_snoc]
              by_cases q : i < t.cl.length
              · rw [if_pos q]; exact w2 i q
              · rw [if_neg q, if_pos (by omega)]; show kdS s ≤ 8; omega
            · show (if s = 0 then r.q else t.sy).isSome = true ↔ ∃ k, k < (t.cl ++ [(kdS s, r.a, r.b)]).length ∧ ((t.cl ++ [(kdS s, r.a, r.b)]).getD k (0, 0, 0)).1 = 0
              rw [ex_snoc]
              by_cases e : s = 0
              · rw [if_pos e]
                obtain ⟨q, hq⟩ := ls (by omega)
                rw [hq]
                exact ⟨fun _ => Or.inr (z0.mpr e), fun _ => rfl⟩
              · rw [if_neg e]
                exact ⟨fun q => Or.inl (w3.mp q), fun q => by rcases q with q | q; exact w3.mpr q; exact absurd (z0.mp q) e⟩
            · show (if s = 1 then r.q else t.sw).isSome = true ↔ ∃ k, k < (t.cl ++ [(kdS s, r.a, r.b)]).length ∧ ((t.cl ++ [(kdS s, r.a, r.b)]).getD k (0, 0, 0)).1 = 1
              rw [ex_snoc]
              by_cases e : s = 1
              · rw [if_pos e]
                obtain ⟨q, hq⟩ := ls (by omega)
                rw [hq]
                exact ⟨fun _ => Or.inr (z1.mpr e), fun _ => rfl⟩
              · rw [if_neg e]
                exact ⟨fun q => Or.inl (w4.mp q), fun q => by rcases q with q | q; exact w4.mpr q; exact absurd (z1.mp q) e⟩
            · have hq : (if s = 0 then r.q else t.sy) = some q := hq
              by_cases e : s = 0
              · rw [if_pos e] at hq; exact (lv q (by omega) g0 hq).1.wc
              · rw [if_neg e] at hq; exact w5 q hq
            · have hq : (if s = 1 then r.q else t.sw) = some q := hq
              by_cases e : s = 1
              · rw [if_pos e] at hq; exact (lv q (by omega) g0 hq).1.wc
              · rw [if_neg e] at hq; exact w6 q hq
            · rcases List.mem_append.mp hq with q2 | q2
              · exact w7 q q2
              · rw [List.mem_singleton.mp q2]; exact ⟨u2, u3⟩
theorem TOK.all : ∀ n (c : CR), TOK c.t → (allR (SS l) (VV l) n c).f = 0 → TOK (allR (SS l) (VV l) n c).t := by
  intro n
  induction n with
  | zero => intro c h _; exact h
  | succ n ih =>
    intro c h h0
    rw [allR] at h0 ⊢
    by_cases q : c.f = 0 ∧ SS l c.k ≠ 40
    · rw [if_pos q] at h0 ⊢
      refine ih _ ?_ h0
      have hf : (Jvm.Pilot.CTruePollLaw_law_r8010_968f2b.clR (SS l) (VV l) c.k c.t c.b).f = 0 := by
        cases n with
        | zero => exact h0
        | succ n =>
          rw [allR] at h0
          by_cases q2 : (Jvm.Pilot.CTruePollLaw_law_r8010_968f2b.clR (SS l) (VV l) c.k c.t c.b).f = 0 ∧ SS l (Jvm.Pilot.CTruePollLaw_law_r8010_968f2b.clR (SS l) (VV l) c.k c.t c.b).k ≠ 40
          · exact q2.1
          · rw [if_neg q2] at h0; exact h0
      exact h.clR hf
    · rw [if_neg q]; exact h
def c00 : CR := (0, 0, ([], none, none), 0)
def prs (l : List Nat) : CR := allR (SS l) (VV l) 25 c00
theorem TOK.prs (h : (prs l).f = 0) : TOK (prs l).t := TOK.all 25 c00 ⟨⟨by decide, fun k hk => absurd hk (Nat.not_lt_zero k), ⟨fun h => by cases h, fun ⟨k, hk, _⟩ => absurd hk (Nat.not_lt_zero k)⟩, ⟨fun h => by cases h, fun ⟨k, hk, _⟩ => absurd hk (Nat.not_lt_zero k)⟩, fun q h => by (have h : (none : Option (Cd × Cd)) = some q := h; cases h), fun q h => by (have h : (none : Option (Cd × Cd)) = some q := h; cases h)⟩, fun q h => absurd h List.not_mem_nil⟩ h
theorem nI_ex (x : Int32) : ∃ n, x = nI n := ⟨x.toBitVec.toNat, by
  apply Int32.toBitVec_inj.mp
  apply BitVec.eq_of_toNat_eq
  rw [pk_tn x.toBitVec.isLt]⟩
theorem lp_Re_readAll (hG : GC G) (h3 : l.length ≤ 300) {M0 : Mem} {Q : Option Value → Geo → Mem → Prop} : ∀ n i (c : CR) M, i + n = 25 → CP l c M0 M → (∀ M', CP l (allR (SS l) (VV l) n c) M0 M' → E 217 6 1509 Y_Re_readAll 80 [some (.ref 225), none] [] G M' Q) → E 217 6 1509 Y_Re_readAll 48 [some (.ref 225), some (.int (nI i))] [] G M Q := by
  intro n
  induction n with
  | zero =>
    intro i c M hi hC K
    have e : i = 25 := by omega
    subst e
    refine E_iload_n d_Re_readAll_48 rfl ?_
    refine E_bipush (v := nI 24) d_Re_readAll_49 (by decide) ?_
    first | (with_reducible refine E_isN2 ?_; refine E_icmp_gt 80 d_Re_readAll_51 rfl (nb_lt (by omega) (by omega) fun h51 => ?_) (nb_nlt (by omega) (by omega) fun h51 => ?_)) | refine E_icmp_gt 80 d_Re_readAll_51 rfl (fun h51 => ?_) (fun h51 => ?_)
    rotate_left
    · exfalso; omega
    exact E_wk (ls' := [some (.ref 225), none]) ⟨Or.inl rfl, Or.inr rfl, trivial⟩ (K M hC)
  | succ n ih =>
    intro i c M hi hC K
    rw [allR] at K
    by_cases q : c.f = 0 ∧ SS l c.k ≠ 40
    · rw [if_pos q] at K
      have hc0 := hC.2.1 q.1
      obtain ⟨sw, hs⟩ := hc0.1
      have hR := hs.R
      have hsr := SS_rg l c.k
      have rc := sp_Re_readClause hG h3 hc0 q.2
      refine E_iload_n d_Re_readAll_48 rfl ?_
      refine E_bipush (v := nI 24) d_Re_readAll_49 (by decide) ?_
      first | (with_reducible refine E_isN2 ?_; refine E_icmp_gt 80 d_Re_readAll_51 rfl (nb_lt (by omega) (by omega) fun h51 => ?_) (nb_nlt (by omega) (by omega) fun h51 => ?_)) | refine E_icmp_gt 80 d_Re_readAll_51 rfl (fun h51 => ?_) (fun h51 => ?_)
      · exfalso; omega
      first | refine E_aload_n d_Re_readAll_54 rfl ?_ | refine E_aload_nN d_Re_readAll_54 rfl ?_
      refine E_getI d_Re_readAll_55 gf_Re_44 (by exact hG.s (by decide) rfl) (by exact hs.f) ?_
      first | (with_reducible refine E_isP ?_; refine E_if_ne 80 d_Re_readAll_58 rfl (pb_1 fun h58 => ?_) (pb_0 fun h58 => ?_)) | (with_reducible refine E_isN1 ?_; refine E_if_ne 80 d_Re_readAll_58 rfl (nz_ne fun h58 => ?_) (nz_eq (by omega) fun h58 => ?_)) | refine E_if_ne 80 d_Re_readAll_58 rfl (fun h58 => ?_) (fun h58 => ?_)
      · exfalso; omega
      first | refine E_aload_n d_Re_readAll_61 rfl ?_ | refine E_aload_nN d_Re_readAll_61 rfl ?_
      refine E_getI d_Re_readAll_62 gf_Re_61 (by exact hG.s (by decide) rfl) (by exact hs.s) ?_
      refine E_bipush (v := nI 40) d_Re_readAll_65 (by decide) ?_
      first | (with_reducible refine E_isN2 ?_; refine E_icmp_eq 80 d_Re_readAll_67 rfl (nb_eq (by omega) (by omega) fun h67 => ?_) (nb_ne fun h67 => ?_)) | refine E_icmp_eq 80 d_Re_readAll_67 rfl (fun h67 => ?_) (fun h67 => ?_)
      · exfalso; exact q.2 h67
      first | refine E_aload_n d_Re_readAll_70 rfl ?_ | refine E_aload_nN d_Re_readAll_70 rfl ?_
      refine E_V0 (rc) d_Re_readAll_71 ml_Re_66 cb_Re_readClause cv_Re_readClause (by exact hG.s (by decide) rfl) ⟨by decide, rfl⟩ ⟨by omega, by decide⟩ rfl (Nat.le_of_ble_eq_true rfl) (Nat.le_of_ble_eq_true rfl) (kV fun M1 hc => ?_)
      skip
      first | (with_reducible refine E_isL1 ?_; refine E_iincN1 (m := 1) d_Re_readAll_74 rfl rfl ?_) | refine E_iinc_1 d_Re_readAll_74 rfl rfl ?_
      refine E_goto 48 d_Re_readAll_77 rfl ?_
      exact ih (i + 1) _ _ (by omega) ⟨hC.1.tr hc.1, hc.2.1, hc.2.2⟩ K
    · rw [if_neg q] at K
      by_cases f0 : c.f = 0
      · have hc0 := hC.2.1 f0
        obtain ⟨sw, hs⟩ := hc0.1
        have hR := hs.R
        have e40 : SS l c.k = 40 := Decidable.byContradiction fun z => q ⟨f0, z⟩
        refine E_iload_n d_Re_readAll_48 rfl ?_
        refine E_bipush (v := nI 24) d_Re_readAll_49 (by decide) ?_
        first | (with_reducible refine E_isN2 ?_; refine E_icmp_gt 80 d_Re_readAll_51 rfl (nb_lt (by omega) (by omega) fun h51 => ?_) (nb_nlt (by omega) (by omega) fun h51 => ?_)) | refine E_icmp_gt 80 d_Re_readAll_51 rfl (fun h51 => ?_) (fun h51 => ?_)
        · exfalso; omega
        first | refine E_aload_n d_Re_readAll_54 rfl ?_ | refine E_aload_nN d_Re_readAll_54 rfl ?_
        refine E_getI d_Re_readAll_55 gf_Re_44 (by exact hG.s (by decide) rfl) (by exact hs.f) ?_
        first | (with_reducible refine E_isP ?_; refine E_if_ne 80 d_Re_readAll_58 rfl (pb_1 fun h58 => ?_) (pb_0 fun h58 => ?_)) | (with_reducible refine E_isN1 ?_; refine E_if_ne 80 d_Re_readAll_58 rfl (nz_ne fun h58 => ?_) (nz_eq (by omega) fun h58 => ?_)) | refine E_if_ne 80 d_Re_readAll_58 rfl (fun h58 => ?_) (fun h58 => ?_)
        · exfalso; omega
        first | refine E_aload_n d_Re_readAll_61 rfl ?_ | refine E_aload_nN d_Re_readAll_61 rfl ?_
        refine E_getI d_Re_readAll_62 gf_Re_61 (by exact hG.s (by decide) rfl) (by exact hs.s) ?_
        refine E_bipush (v := nI 40) d_Re_readAll_65 (by decide) ?_
        first | (with_reducible refine E_isN2 ?_; refine E_icmp_eq 80 d_Re_readAll_67 rfl (nb_eq (by omega) (by omega) fun h67 => ?_) (nb_ne fun h67 => ?_)) | refine E_icmp_eq 80 d_Re_readAll_67 rfl (fun h67 => ?_) (fun h67 => ?_)
        rotate_left
        · exfalso; omega
        exact E_wk (ls' := [some (.ref 225), none]) ⟨Or.inl rfl, Or.inr rfl, trivial⟩ (K M hC)
      · have hF := hC.2.2 f0
        have hR := hF.1
        have hf0 := hF.2.2.2.2.1
        have hf6 := hF.2.2.2.2.2
        refine E_iload_n d_Re_readAll_48 rfl ?_
        refine E_bipush (v := nI 24) d_Re_readAll_49 (by decide) ?_
        first | (with_reducible refine E_isN2 ?_; refine E_icmp_gt 80 d_Re_readAll_51 rfl (nb_lt (by omega) (by omega) fun h51 => ?_) (nb_nlt (by omega) (by omega) fun h51 => ?_)) | refine E_icmp_gt 80 d_Re_readAll_51 rfl (fun h51 => ?_) (fun h51 => ?_)
        · exfalso; omega
        first | refine E_aload_n d_Re_readAll_54 rfl ?_ | refine E_aload_nN d_Re_readAll_54 rfl ?_
        refine E_getI d_Re_readAll_55 gf_Re_44 (by exact hG.s (by decide) rfl) (by exact hF.2.2.1) ?_
        first | (with_reducible refine E_isP ?_; refine E_if_ne 80 d_Re_readAll_58 rfl (pb_1 fun h58 => ?_) (pb_0 fun h58 => ?_)) | (with_reducible refine E_isN1 ?_; refine E_if_ne 80 d_Re_readAll_58 rfl (nz_ne fun h58 => ?_) (nz_eq (by omega) fun h58 => ?_)) | refine E_if_ne 80 d_Re_readAll_58 rfl (fun h58 => ?_) (fun h58 => ?_)
        rotate_left
        · exfalso; omega
        exact E_wk (ls' := [some (.ref 225), none]) ⟨Or.inl rfl, Or.inr rfl, trivial⟩ (K M hC)
def RA (l : List Nat) (G : Geo) (M : Mem) (v : Option Value) (G' : Geo) (M' : Mem) : Prop :=
  ∃ M1, Sc (fun a => 220 ≤ a ∧ a ≤ 230) M M1 ∧ TapeC l M1 ∧ RC M1 ∧ ((prs l).f ≠ 0 → v = some .null ∧ G' = G ∧ M' = M1 ∧ FS l (prs l).f (prs l).k M1) ∧ ((prs l).f = 0 → CuSt l (prs l).t (prs l).k (prs l).b M1 ∧ mI M1 225 16 = nI 0 ∧ mI M1 225 17 = -1 ∧ Mde (prs l).t.cl.length (prs l).b (mI M1 225 8) (mI M1 225 9) (mI M1 225 10) (mI M1 225 11) G M1 v G' M')
end RDm
