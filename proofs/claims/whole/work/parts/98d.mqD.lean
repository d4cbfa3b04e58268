section MQd
variable {M M0 : Mem} {l : List Nat} {k t s w0 : Nat} {p : List Nat} {cm : Cd}
theorem MSg.k3 {g : MpG} (h : MSg l t s w0 M0 g M) : g.1 ≤ 300 ∧ w0 + g.2.2.2.length + g.2.1.length ≤ 300 := by
  have h1 := h.2.2.1.le
  have h2 := h.1.T.1
  have h3 := h.2.2.2.2.2.1
  omega
theorem bo_other (h : MSg l t s w0 M0 (k, p, false, cm) M) (hL : p.length ≤ 150) (cS : SS l k ≠ 39) (cn : ¬ ((19 ≤ SS l k ∧ SS l k ≤ 25) ∨ SS l k = 3)) : E 6 0 0 Y_TM_beginOne 0 [some (.ref 0), none] [] GM M (QI GM fun r M' => MOu l t s w0 M0 (mpI (SS l) (VV l) s k p cm) r M M') := by
  have hE : EmS l t s w0 M0 cm M := h.1
  have hK : TKM l k M := h.2.1
  have hP : PS M p := h.2.2.2.1
  have hR := hE.R
  obtain ⟨-, -, tk, n, w, h9, -, -, hT⟩ := id hK
  obtain ⟨-, -, -, -, -, -, -, t8, -, -, t11, -, -, -, t15, -, -⟩ := hT.tk
  have hlt := hT.2.2.2.1
  clear hT
  have ct : tk ≠ 1 := fun z => cS (t15.mp z)
  clear t15
  have e1 : ¬ (SS l k = 39 ∧ 9999 < VV l k) := fun z => cS z.1
  have e2 : ¬ (SS l k = 25 ∧ s ≠ 1) := fun z => cn (by omega)
  have e3 : ¬ (SS l k = 39 ∨ ((19 ≤ SS l k ∧ SS l k ≤ 25) ∨ SS l k = 3)) := fun z => by rcases z with z | z; exact cS z; exact cn z
  have nm := sp_TM_nameOf hK
  have f36 : Unit → SS l k = 36 → mpI (SS l) (VV l) s k p cm = mpW k p cm 40 := fun _ z => by unfold mpI; rw [if_neg e1, if_neg e2, if_neg e3, if_pos z]
  have f33 : Unit → SS l k = 33 → mpI (SS l) (VV l) s k p cm = mpW k p cm 5 := fun _ z => by unfold mpI; rw [if_neg e1, if_neg e2, if_neg e3, if_neg (by omega), if_pos z]
  have f10 : Unit → SS l k = 10 → mpI (SS l) (VV l) s k p cm = mpW k p cm 2 := fun _ z => by unfold mpI; rw [if_neg e1, if_neg e2, if_neg e3, if_neg (by omega), if_neg (by omega), if_pos z]
  have f11 : Unit → SS l k = 11 → mpI (SS l) (VV l) s k p cm = mpW k p cm 4 := fun _ z => by unfold mpI; rw [if_neg e1, if_neg e2, if_neg e3, if_neg (by omega), if_neg (by omega), if_neg (by omega), if_pos z]
  have f12 : Unit → SS l k = 12 → mpI (SS l) (VV l) s k p cm = mpW k p cm 41 := fun _ z => by unfold mpI; rw [if_neg e1, if_neg e2, if_neg e3, if_neg (by omega), if_neg (by omega), if_neg (by omega), if_neg (by omega), if_pos z]
  have f18 : Unit → SS l k = 18 → (mpO p = 41 ∧ mpH p ≤ 3) → mpI (SS l) (VV l) s k p cm = mpW k p cm 20 := fun _ z z2 => mpI_nt z z2
  have f0 : Unit → SS l k ≠ 36 → SS l k ≠ 33 → SS l k ≠ 10 → SS l k ≠ 11 → SS l k ≠ 12 → ¬ (SS l k = 18 ∧ mpO p = 41 ∧ mpH p ≤ 3) → mpI (SS l) (VV l) s k p cm = (2, k, p, false, cm) := fun _ a1 a2 a3 a4 a5 a6 => by unfold mpI; rw [if_neg e1, if_neg e2, if_neg e3, if_neg a1, if_neg a2, if_neg a3, if_neg a4, if_neg a5, if_neg a6]
  rw [show nmV (SS l k) = -1 from if_neg cn] at nm
  have aa := sp_TM_isAskAhead hR hP (show p.length ≤ 155 by omega)
  have o36 := fun (_ : Unit) (z : SS l k = 36) => sp_TM_opened (o := 40) h hL (by decide) (by decide) (by omega)
  have o33 := fun (_ : Unit) (z : SS l k = 33) => sp_TM_opened (o := 5) h hL (by decide) (by decide) (by omega)
  have o10 := fun (_ : Unit) (z : SS l k = 10) => sp_TM_opened (o := 2) h hL (by decide) (by decide) (by omega)
  have o11 := fun (_ : Unit) (z : SS l k = 11) => sp_TM_opened (o := 4) h hL (by decide) (by decide) (by omega)
  have o12 := fun (_ : Unit) (z : SS l k = 12) => sp_TM_opened (o := 41) h hL (by decide) (by decide) (by omega)
  have o18 := fun (_ : Unit) (z : SS l k = 18) => sp_TM_opened (o := 20) h hL (by decide) (by decide) (by omega)
  have g0 : ∀ (_ : Unit) r M', (2, k, p, false, cm) = mpI (SS l) (VV l) s k p cm → r = nI 1 → M' = M → MOu l t s w0 M0 (mpI (SS l) (VV l) s k p cm) r M M' := fun _ r M' z y x => by rw [← z]; exact ⟨fun q => absurd q (show ¬ 2 = 0 by decide), fun _ => ⟨y, x⟩⟩
  have iw10 := sp_TM_isWord hK 10 1818583406 (by decide) rfl (by decide)
  have iw11 := sp_TM_isWord hK 11 1935763812 (by decide) rfl (by decide)
  have iw12 := sp_TM_isWord hK 12 26982 (by decide) rfl (by decide)
  have iw18 := sp_TM_isWord hK 18 7237492 (by decide) rfl (by decide)
  have n36 : Unit → tk ≠ 40 → SS l k ≠ 36 := fun _ z y => z (t11.mpr y)
  have n33 : Unit → tk ≠ 45 → SS l k ≠ 33 := fun _ z y => z (t8.mpr y)
  have p36 := fun (_ : Unit) => t11.mp
  have p33 := fun (_ : Unit) => t8.mp
  clear t11 t8 e1 e2 e3 cn cS h hE hP hK
  generalize mpI (SS l) (VV l) s k p cm = g at *
  generalize SS l k = S at *
  first | refine E_aload_n d_TM_beginOne_0 rfl ?_ | refine E_aload_nN d_TM_beginOne_0 rfl ?_
  refine E_getI d_TM_beginOne_1 gf_TM_94 (by exact ⟨by decide, rfl⟩) (by exact h9) ?_
  refine E_iconst (v := nI 1) d_TM_beginOne_4 rfl ?_
  first | (with_reducible refine E_isN2 ?_; refine E_icmp_ne 20 d_TM_beginOne_5 rfl (nb_ne fun h5 => ?_) (nb_eq (by omega) (by omega) fun h5 => ?_)) | refine E_icmp_ne 20 d_TM_beginOne_5 rfl (fun h5 => ?_) (fun h5 => ?_)
  rotate_left
  · exfalso; exact ct h5
  first | refine E_aload_n d_TM_beginOne_20 rfl ?_ | refine E_aload_nN d_TM_beginOne_20 rfl ?_
  refine E_V0 (nm) d_TM_beginOne_21 ml_TM_168 cb_TM_nameOf cv_TM_nameOf (by exact ⟨by decide, rfl⟩) ⟨by decide, rfl⟩ ⟨by decide, by decide⟩ rfl (Nat.le_of_ble_eq_true rfl) (Nat.le_of_ble_eq_true rfl) (kI fun r1 M1 hc => ?_)
  obtain ⟨rfl, rfl⟩ := hc
  refine E_istore_1 d_TM_beginOne_24 rfl ?_
  refine E_iload_n d_TM_beginOne_25 rfl ?_
  first | (with_reducible refine E_isN1 ?_; refine E_if_lt 39 d_TM_beginOne_26 rfl (nz_lt (by omega) fun h26 => ?_) (nz_nlt (by omega) fun h26 => ?_)) | refine E_if_lt 39 d_TM_beginOne_26 rfl (fun h26 => ?_) (fun h26 => ?_)
  rotate_left
  · exfalso; exact absurd (show (-1 : Int32) < 0 by decide) h26
  first | refine E_aload_n d_TM_beginOne_39 rfl ?_ | refine E_aload_nN d_TM_beginOne_39 rfl ?_
  refine E_getI d_TM_beginOne_40 gf_TM_94 (by exact ⟨by decide, rfl⟩) (by exact h9) ?_
  refine E_iconst (v := nI 1) d_TM_beginOne_43 rfl ?_
  first | (with_reducible refine E_isN2 ?_; refine E_icmp_eq 51 d_TM_beginOne_44 rfl (nb_eq (by omega) (by omega) fun h44 => ?_) (nb_ne fun h44 => ?_)) | refine E_icmp_eq 51 d_TM_beginOne_44 rfl (fun h44 => ?_) (fun h44 => ?_)
  · exfalso; exact ct h44
  refine E_iload_n d_TM_beginOne_47 rfl ?_
  first | (with_reducible refine E_isN1 ?_; refine E_if_lt 101 d_TM_beginOne_48 rfl (nz_lt (by omega) fun h48 => ?_) (nz_nlt (by omega) fun h48 => ?_)) | refine E_if_lt 101 d_TM_beginOne_48 rfl (fun h48 => ?_) (fun h48 => ?_)
  rotate_left
  · exfalso; exact absurd (show (-1 : Int32) < 0 by decide) h48
  first | refine E_aload_n d_TM_beginOne_101 rfl ?_ | refine E_aload_nN d_TM_beginOne_101 rfl ?_
  refine E_getI d_TM_beginOne_102 gf_TM_94 (by exact ⟨by decide, rfl⟩) (by exact h9) ?_
  refine E_bipush (v := nI 40) d_TM_beginOne_105 (by decide) ?_
  first | (with_reducible refine E_isN2 ?_; refine E_icmp_ne 117 d_TM_beginOne_107 rfl (nb_ne fun h107 => ?_) (nb_eq (by omega) (by omega) fun h107 => ?_)) | refine E_icmp_ne 117 d_TM_beginOne_107 rfl (fun h107 => ?_) (fun h107 => ?_)
  · first | refine E_aload_n d_TM_beginOne_117 rfl ?_ | refine E_aload_nN d_TM_beginOne_117 rfl ?_
    refine E_getI d_TM_beginOne_118 gf_TM_94 (by exact ⟨by decide, rfl⟩) (by exact h9) ?_
    refine E_bipush (v := nI 45) d_TM_beginOne_121 (by decide) ?_
    first | (with_reducible refine E_isN2 ?_; refine E_icmp_ne 132 d_TM_beginOne_123 rfl (nb_ne fun h123 => ?_) (nb_eq (by omega) (by omega) fun h123 => ?_)) | refine E_icmp_ne 132 d_TM_beginOne_123 rfl (fun h123 => ?_) (fun h123 => ?_)
    · first | refine E_aload_n d_TM_beginOne_132 rfl ?_ | refine E_aload_nN d_TM_beginOne_132 rfl ?_
      refine E_bipush (v := nI 108) d_TM_beginOne_133 (by decide) ?_
      refine E_bipush (v := nI 101) d_TM_beginOne_135 (by decide) ?_
      refine E_bipush (v := nI 97) d_TM_beginOne_137 (by decide) ?_
      refine E_bipush (v := nI 110) d_TM_beginOne_139 (by decide) ?_
      refine E_S4 (sp_TM_w4 108 101 97 110 1818583406 (by decide) (by decide)) d_TM_beginOne_141 ml_TM_124 cb_TM_w4 cs_TM_w4 ⟨by decide, by decide⟩ rfl (Nat.le_of_ble_eq_true rfl) (Nat.le_of_ble_eq_true rfl) (kL fun r1 M1 hc => ?_)
      obtain ⟨rfl, rfl⟩ := hc
      refine E_V1 (iw10) d_TM_beginOne_144 ml_TM_183 cb_TM_isWord cv_TM_isWord (by exact ⟨by decide, rfl⟩) ⟨by decide, rfl⟩ ⟨by decide, by decide⟩ rfl (Nat.le_of_ble_eq_true rfl) (Nat.le_of_ble_eq_true rfl) (kI fun r1 M1 hc => ?_)
      obtain ⟨rfl, rfl⟩ := hc
      first | (with_reducible refine E_isP ?_; refine E_if_eq 156 d_TM_beginOne_147 rfl (pb_0 fun h147 => ?_) (pb_1 fun h147 => ?_)) | (with_reducible refine E_isN1 ?_; refine E_if_eq 156 d_TM_beginOne_147 rfl (nz_eq (by omega) fun h147 => ?_) (nz_ne fun h147 => ?_)) | refine E_if_eq 156 d_TM_beginOne_147 rfl (fun h147 => ?_) (fun h147 => ?_)
      · first | refine E_aload_n d_TM_beginOne_156 rfl ?_ | refine E_aload_nN d_TM_beginOne_156 rfl ?_
        refine E_bipush (v := nI 115) d_TM_beginOne_157 (by decide) ?_
        refine E_bipush (v := nI 97) d_TM_beginOne_159 (by decide) ?_
        refine E_bipush (v := nI 105) d_TM_beginOne_161 (by decide) ?_
        refine E_bipush (v := nI 100) d_TM_beginOne_163 (by decide) ?_
        refine E_S4 (sp_TM_w4 115 97 105 100 1935763812 (by decide) (by decide)) d_TM_beginOne_165 ml_TM_124 cb_TM_w4 cs_TM_w4 ⟨by decide, by decide⟩ rfl (Nat.le_of_ble_eq_true rfl) (Nat.le_of_ble_eq_true rfl) (kL fun r1 M1 hc => ?_)
        obtain ⟨rfl, rfl⟩ := hc
        refine E_V1 (iw11) d_TM_beginOne_168 ml_TM_183 cb_TM_isWord cv_TM_isWord (by exact ⟨by decide, rfl⟩) ⟨by decide, rfl⟩ ⟨by decide, by decide⟩ rfl (Nat.le_of_ble_eq_true rfl) (Nat.le_of_ble_eq_true rfl) (kI fun r1 M1 hc => ?_)
        obtain ⟨rfl, rfl⟩ := hc
        first | (with_reducible refine E_isP ?_; refine E_if_eq 180 d_TM_beginOne_171 rfl (pb_0 fun h171 => ?_) (pb_1 fun h171 => ?_)) | (with_reducible refine E_isN1 ?_; refine E_if_eq 180 d_TM_beginOne_171 rfl (nz_eq (by omega) fun h171 => ?_) (nz_ne fun h171 => ?_)) | refine E_if_eq 180 d_TM_beginOne_171 rfl (fun h171 => ?_) (fun h171 => ?_)
        · first | refine E_aload_n d_TM_beginOne_180 rfl ?_ | refine E_aload_nN d_TM_beginOne_180 rfl ?_
          refine E_bipush (v := nI 105) d_TM_beginOne_181 (by decide) ?_
          refine E_bipush (v := nI 102) d_TM_beginOne_183 (by decide) ?_
          refine E_S2 (sp_TM_w2 105 102 26982 (by decide) (by decide)) d_TM_beginOne_185 ml_TM_116 cb_TM_w2 cs_TM_w2 ⟨by decide, by decide⟩ rfl (Nat.le_of_ble_eq_true rfl) (Nat.le_of_ble_eq_true rfl) (kL fun r1 M1 hc => ?_)
          obtain ⟨rfl, rfl⟩ := hc
          refine E_V1 (iw12) d_TM_beginOne_188 ml_TM_183 cb_TM_isWord cv_TM_isWord (by exact ⟨by decide, rfl⟩) ⟨by decide, rfl⟩ ⟨by decide, by decide⟩ rfl (Nat.le_of_ble_eq_true rfl) (Nat.le_of_ble_eq_true rfl) (kI fun r1 M1 hc => ?_)
          obtain ⟨rfl, rfl⟩ := hc
          first | (with_reducible refine E_isP ?_; refine E_if_eq 201 d_TM_beginOne_191 rfl (pb_0 fun h191 => ?_) (pb_1 fun h191 => ?_)) | (with_reducible refine E_isN1 ?_; refine E_if_eq 201 d_TM_beginOne_191 rfl (nz_eq (by omega) fun h191 => ?_) (nz_ne fun h191 => ?_)) | refine E_if_eq 201 d_TM_beginOne_191 rfl (fun h191 => ?_) (fun h191 => ?_)
          · first | refine E_aload_n d_TM_beginOne_201 rfl ?_ | refine E_aload_nN d_TM_beginOne_201 rfl ?_
            refine E_bipush (v := nI 110) d_TM_beginOne_202 (by decide) ?_
            refine E_bipush (v := nI 111) d_TM_beginOne_204 (by decide) ?_
            refine E_bipush (v := nI 116) d_TM_beginOne_206 (by decide) ?_
            refine E_S3 (sp_TM_w3 110 111 116 7237492 (by decide) (by decide)) d_TM_beginOne_208 ml_TM_120 cb_TM_w3 cs_TM_w3 ⟨by decide, by decide⟩ rfl (Nat.le_of_ble_eq_true rfl) (Nat.le_of_ble_eq_true rfl) (kL fun r1 M1 hc => ?_)
            obtain ⟨rfl, rfl⟩ := hc
            refine E_V1 (iw18) d_TM_beginOne_211 ml_TM_183 cb_TM_isWord cv_TM_isWord (by exact ⟨by decide, rfl⟩) ⟨by decide, rfl⟩ ⟨by decide, by decide⟩ rfl (Nat.le_of_ble_eq_true rfl) (Nat.le_of_ble_eq_true rfl) (kI fun r1 M1 hc => ?_)
            obtain ⟨rfl, rfl⟩ := hc
            first | (with_reducible refine E_isP ?_; refine E_if_eq 233 d_TM_beginOne_214 rfl (pb_0 fun h214 => ?_) (pb_1 fun h214 => ?_)) | (with_reducible refine E_isN1 ?_; refine E_if_eq 233 d_TM_beginOne_214 rfl (nz_eq (by omega) fun h214 => ?_) (nz_ne fun h214 => ?_)) | refine E_if_eq 233 d_TM_beginOne_214 rfl (fun h214 => ?_) (fun h214 => ?_)
            · refine E_iconst (v := nI 1) d_TM_beginOne_233 rfl ?_
              refine E_retI d_TM_beginOne_234 rfl ?_
              first | exact (f18 () h214 h221).symm ▸ hc | exact g0 () _ _ (f0 () (n36 () h107) (n33 () h123) h147 h171 h191 (fun z => h221 z.2)).symm rfl rfl | exact g0 () _ _ (f0 () (n36 () h107) (n33 () h123) h147 h171 h191 (fun z => h214 z.1)).symm rfl rfl
            · first | refine E_aload_n d_TM_beginOne_217 rfl ?_ | refine E_aload_nN d_TM_beginOne_217 rfl ?_
              refine E_V0 (aa) d_TM_beginOne_218 ml_TM_187 cb_TM_isAskAhead cv_TM_isAskAhead (by exact ⟨by decide, rfl⟩) ⟨by decide, rfl⟩ ⟨by decide, by decide⟩ rfl (Nat.le_of_ble_eq_true rfl) (Nat.le_of_ble_eq_true rfl) (kI fun r1 M1 hc => ?_)
              obtain ⟨rfl, rfl⟩ := hc
              first | (with_reducible refine E_isP ?_; refine E_if_eq 233 d_TM_beginOne_221 rfl (pb_0 fun h221 => ?_) (pb_1 fun h221 => ?_)) | (with_reducible refine E_isN1 ?_; refine E_if_eq 233 d_TM_beginOne_221 rfl (nz_eq (by omega) fun h221 => ?_) (nz_ne fun h221 => ?_)) | refine E_if_eq 233 d_TM_beginOne_221 rfl (fun h221 => ?_) (fun h221 => ?_)
              · refine E_iconst (v := nI 1) d_TM_beginOne_233 rfl ?_
                refine E_retI d_TM_beginOne_234 rfl ?_
                first | exact (f18 () h214 h221).symm ▸ hc | exact g0 () _ _ (f0 () (n36 () h107) (n33 () h123) h147 h171 h191 (fun z => h221 z.2)).symm rfl rfl | exact g0 () _ _ (f0 () (n36 () h107) (n33 () h123) h147 h171 h191 (fun z => h214 z.1)).symm rfl rfl
              · first | refine E_aload_n d_TM_beginOne_224 rfl ?_ | refine E_aload_nN d_TM_beginOne_224 rfl ?_
                refine E_bipush (v := nI 20) d_TM_beginOne_225 (by decide) ?_
                refine E_V1 (o18 () h214) d_TM_beginOne_227 ml_TM_180 cb_TM_opened cv_TM_opened (by exact ⟨by decide, rfl⟩) ⟨by decide, rfl⟩ ⟨by decide, by decide⟩ rfl (Nat.le_of_ble_eq_true rfl) (Nat.le_of_ble_eq_true rfl) (kI fun r1 M1 hc => ?_)
                skip
                refine E_goto 234 d_TM_beginOne_230 rfl ?_
                refine E_retI d_TM_beginOne_234 rfl ?_
                first | exact (f18 () h214 h221).symm ▸ hc | exact g0 () _ _ (f0 () (n36 () h107) (n33 () h123) h147 h171 h191 (fun z => h221 z.2)).symm rfl rfl | exact g0 () _ _ (f0 () (n36 () h107) (n33 () h123) h147 h171 h191 (fun z => h214 z.1)).symm rfl rfl
          · first | refine E_aload_n d_TM_beginOne_194 rfl ?_ | refine E_aload_nN d_TM_beginOne_194 rfl ?_
            refine E_bipush (v := nI 41) d_TM_beginOne_195 (by decide) ?_
            refine E_V1 (o12 () h191) d_TM_beginOne_197 ml_TM_180 cb_TM_opened cv_TM_opened (by exact ⟨by decide, rfl⟩) ⟨by decide, rfl⟩ ⟨by decide, by decide⟩ rfl (Nat.le_of_ble_eq_true rfl) (Nat.le_of_ble_eq_true rfl) (kI fun r1 M1 hc => ?_)
            skip
            refine E_retI d_TM_beginOne_200 rfl ?_
            rw [f12 () h191]; exact hc
        · first | refine E_aload_n d_TM_beginOne_174 rfl ?_ | refine E_aload_nN d_TM_beginOne_174 rfl ?_
          refine E_iconst (v := nI 4) d_TM_beginOne_175 rfl ?_
          refine E_V1 (o11 () h171) d_TM_beginOne_176 ml_TM_180 cb_TM_opened cv_TM_opened (by exact ⟨by decide, rfl⟩) ⟨by decide, rfl⟩ ⟨by decide, by decide⟩ rfl (Nat.le_of_ble_eq_true rfl) (Nat.le_of_ble_eq_true rfl) (kI fun r1 M1 hc => ?_)
          skip
          refine E_retI d_TM_beginOne_179 rfl ?_
          rw [f11 () h171]; exact hc
      · first | refine E_aload_n d_TM_beginOne_150 rfl ?_ | refine E_aload_nN d_TM_beginOne_150 rfl ?_
        refine E_iconst (v := nI 2) d_TM_beginOne_151 rfl ?_
        refine E_V1 (o10 () h147) d_TM_beginOne_152 ml_TM_180 cb_TM_opened cv_TM_opened (by exact ⟨by decide, rfl⟩) ⟨by decide, rfl⟩ ⟨by decide, by decide⟩ rfl (Nat.le_of_ble_eq_true rfl) (Nat.le_of_ble_eq_true rfl) (kI fun r1 M1 hc => ?_)
        skip
        refine E_retI d_TM_beginOne_155 rfl ?_
        rw [f10 () h147]; exact hc
    · first | refine E_aload_n d_TM_beginOne_126 rfl ?_ | refine E_aload_nN d_TM_beginOne_126 rfl ?_
      refine E_iconst (v := nI 5) d_TM_beginOne_127 rfl ?_
      refine E_V1 (o33 () (p33 () h123)) d_TM_beginOne_128 ml_TM_180 cb_TM_opened cv_TM_opened (by exact ⟨by decide, rfl⟩) ⟨by decide, rfl⟩ ⟨by decide, by decide⟩ rfl (Nat.le_of_ble_eq_true rfl) (Nat.le_of_ble_eq_true rfl) (kI fun r1 M1 hc => ?_)
      skip
      refine E_retI d_TM_beginOne_131 rfl ?_
      rw [f33 () (p33 () h123)]; exact hc
  · first | refine E_aload_n d_TM_beginOne_110 rfl ?_ | refine E_aload_nN d_TM_beginOne_110 rfl ?_
    refine E_bipush (v := nI 40) d_TM_beginOne_111 (by decide) ?_
    refine E_V1 (o36 () (p36 () h107)) d_TM_beginOne_113 ml_TM_180 cb_TM_opened cv_TM_opened (by exact ⟨by decide, rfl⟩) ⟨by decide, rfl⟩ ⟨by decide, by decide⟩ rfl (Nat.le_of_ble_eq_true rfl) (Nat.le_of_ble_eq_true rfl) (kI fun r1 M1 hc => ?_)
    skip
    refine E_retI d_TM_beginOne_116 rfl ?_
    rw [f36 () (p36 () h107)]; exact hc
theorem sp_TM_beginOne (h : MSg l t s w0 M0 (k, p, false, cm) M) (hL : p.length ≤ 150) : E 6 0 0 Y_TM_beginOne 0 [some (.ref 0), none] [] GM M (QI GM fun r M' => MOu l t s w0 M0 (mpI (SS l) (VV l) s k p cm) r M M') := by
  have hk3 := h.k3
  obtain ⟨hE, hK, hv, hP, h18, hw, hN⟩ := id h
  have hE : EmS l t s w0 M0 cm M := hE
  have hK : TKM l k M := hK
  have hv : vk l k := hv
  have hP : PS M p := hP
  have hN : mpN p ≤ 8 := hN
  have hw : w0 + cm.length + p.length ≤ k := hw
  have hk3 : k ≤ 300 := hk3.1
  have hR := hE.R
  obtain ⟨-, -, tk, n, w, h9, h10, -, hT⟩ := id hK
  obtain ⟨-, -, -, -, -, -, -, t8, -, -, t11, -, -, -, t15, -, -⟩ := hT.tk
  have hlt := hT.2.2.2.1
  have hn6 := hT.2.2.2.2.1
  have hvn : tk = 1 → VV l k = mn n := hT.2.1
  have h14 : mI M 0 14 = nI s := hE.2.2.2.2.1
  have hs1 : s ≤ 1 := hE.2.2.2.2.2.2.2.2.2
  have nm := sp_TM_nameOf hK
  have tl : ∀ (x : Nat × Nat) (y : Int32) M1, EmS l t s w0 M0 (cm ++ [x]) M1 → Fo 0 J13 A3' M M1 → SS l k ≠ 40 → E 6 0 0 Y_TM_beginOne 84 [some (.ref 0), some (.int y)] [] GM M1 (QI GM fun r M' => MOu l t s w0 M0 (0, k + 1, (mpS 7 p (cm ++ [x])).1, true, (mpS 7 p (cm ++ [x])).2) r M M') := by
    intro x y M1 hE1 hX1 h40
    have hlx : (cm ++ [x]).length = cm.length + 1 := by rw [List.length_append]; rfl
    have hk1 : k + 1 ≤ 300 := Nat.le_trans (hv.s h40).le hE.T.1
    have hK1 : TKM l k M1 := hK.fo hX1 (fun j q => by unfold J13 at q; omega)
    have nx := sp_TM_next hE1.R hE1.T hK1
    have st : ∀ M2, TKM l (k + 1) M2 ∧ Fx Jn An M1 M2 → E 1 0 0 Y_TM_settle 0 [some (.ref 0), some (.int (nI 7))] [] GM (wI M2 0 18 (nI 1)) (QV GM fun M' => EmS l t s w0 M0 (mpS 7 p (cm ++ [x])).2 M' ∧ PS M' (mpS 7 p (cm ++ [x])).1 ∧ Fo 0 JSt A3' (wI M2 0 18 (nI 1)) M') := fun M2 hc => by
      have x3 : Fo 0 (fun j => j = 18) An M2 (wI M2 0 18 (nI 1)) := Fo.rf.wI rfl
      exact sp_TM_settle (by decide) ((hE1.cg hc.2 (fun j q => by unfold Jn at q; unfold JP; omega) (fun a q => absurd q (fun z => z))).cg x3.fx (fun j q => by unfold JP; omega) (fun a q => absurd q (fun z => z))) ((((hP.fo hX1.fx (by decide) (by decide) (by decide)).fo hc.2 (by unfold Jn; omega) (by unfold Jn; omega) (fun z => z))).fo x3.fx (by decide) (by decide) (fun z => z)) (by rw [hlx]; omega) (by omega)
    have fin : ∀ M2, TKM l (k + 1) M2 ∧ Fx Jn An M1 M2 → ∀ M4, EmS l t s w0 M0 (mpS 7 p (cm ++ [x])).2 M4 ∧ PS M4 (mpS 7 p (cm ++ [x])).1 ∧ Fo 0 JSt A3' (wI M2 0 18 (nI 1)) M4 → MSg l t s w0 M0 (k + 1, (mpS 7 p (cm ++ [x])).1, true, (mpS 7 p (cm ++ [x])).2) M4 := fun M2 hc M4 hd => by
      have x3 : Fo 0 (fun j => j = 18) An M2 (wI M2 0 18 (nI 1)) := Fo.rf.wI rfl
      obtain ⟨a1, a2, a3⟩ := mpS_len 7 p (cm ++ [x])
      exact ⟨hd.1, (hc.1.fo x3 (fun j q => by omega)).fo hd.2.2 (fun j q => by unfold JSt at q; omega), hv.s h40, hd.2.1, (hd.2.2.2.2.1 18 (by decide)).trans (by rw [mI_wa, if_pos rfl]; rfl), by show w0 + (mpS 7 p (cm ++ [x])).2.length + (mpS 7 p (cm ++ [x])).1.length ≤ k + 1; omega, by show mpN (mpS 7 p (cm ++ [x])).1 ≤ 8; omega⟩
    first | refine E_aload_n d_TM_beginOne_84 rfl ?_ | refine E_aload_nN d_TM_beginOne_84 rfl ?_
    refine E_V0 (nx) d_TM_beginOne_85 ml_TM_165 cb_TM_nextToken cv_TM_nextToken (by exact ⟨by decide, rfl⟩) ⟨by decide, rfl⟩ ⟨by decide, by decide⟩ rfl (Nat.le_of_ble_eq_true rfl) (Nat.le_of_ble_eq_true rfl) (kV fun M1 hc => ?_)
    have hcn := hc
    first | refine E_aload_n d_TM_beginOne_88 rfl ?_ | refine E_aload_nN d_TM_beginOne_88 rfl ?_
    refine E_iconst (v := nI 1) d_TM_beginOne_89 rfl ?_
    refine E_putZ d_TM_beginOne_90 gf_TM_174 (by exact ⟨by decide, rfl⟩) rfl rfl (by decide) ?_
    first | refine E_aload_n d_TM_beginOne_93 rfl ?_ | refine E_aload_nN d_TM_beginOne_93 rfl ?_
    refine E_bipush (v := nI 7) d_TM_beginOne_94 (by decide) ?_
    refine E_V1 (st _ hcn) d_TM_beginOne_96 ml_TM_177 cb_TM_settle cv_TM_settle (by exact ⟨by decide, rfl⟩) ⟨by decide, rfl⟩ ⟨by decide, by decide⟩ rfl (Nat.le_of_ble_eq_true rfl) (Nat.le_of_ble_eq_true rfl) (kV fun M1 hc => ?_)
    skip
    refine E_iconst (v := nI 0) d_TM_beginOne_99 rfl ?_
    refine E_retI d_TM_beginOne_100 rfl ?_
    exact ⟨fun _ => ⟨rfl, fin _ hcn _ hc⟩, fun z => absurd rfl z⟩
  by_cases ct : tk = 1
  · have cS : SS l k = 39 := t15.mp ct
    have hV := hvn ct
    by_cases c9 : 9999 < n
    · have e : mpI (SS l) (VV l) s k p cm = (3, k, p, false, cm) := if_pos ⟨cS, by rw [hV]; unfold mn; rw [if_neg (by omega)]; decide⟩
      rw [e]
      first | refine E_aload_n d_TM_beginOne_0 rfl ?_ | refine E_aload_nN d_TM_beginOne_0 rfl ?_
      refine E_getI d_TM_beginOne_1 gf_TM_94 (by exact ⟨by decide, rfl⟩) (by exact h9) ?_
      refine E_iconst (v := nI 1) d_TM_beginOne_4 rfl ?_
      first | (with_reducible refine E_isN2 ?_; refine E_icmp_ne 20 d_TM_beginOne_5 rfl (nb_ne fun h5 => ?_) (nb_eq (by omega) (by omega) fun h5 => ?_)) | refine E_icmp_ne 20 d_TM_beginOne_5 rfl (fun h5 => ?_) (fun h5 => ?_)
      · exfalso; omega
      first | refine E_aload_n d_TM_beginOne_8 rfl ?_ | refine E_aload_nN d_TM_beginOne_8 rfl ?_
      refine E_getI d_TM_beginOne_9 gf_TM_100 (by exact ⟨by decide, rfl⟩) (by exact h10) ?_
      refine E_sipush (v := nI 9999) d_TM_beginOne_12 (by decide) ?_
      first | (with_reducible refine E_isN2 ?_; refine E_icmp_le 20 d_TM_beginOne_15 rfl (nb_le (by omega) (by omega) fun h15 => ?_) (nb_nle (by omega) (by omega) fun h15 => ?_)) | refine E_icmp_le 20 d_TM_beginOne_15 rfl (fun h15 => ?_) (fun h15 => ?_)
      · exfalso; omega
      refine E_iconst (v := nI 2) d_TM_beginOne_18 rfl ?_
      refine E_retI d_TM_beginOne_19 rfl ?_
      exact ⟨fun z => absurd z (show ¬ 3 = 0 by decide), fun _ => ⟨rfl, rfl⟩⟩
    · have hVn : VV l k = n := by rw [hV]; unfold mn; rw [if_pos (by omega)]
      have e : mpI (SS l) (VV l) s k p cm = (0, k + 1, (mpS 7 p (cm ++ [(0, n)])).1, true, (mpS 7 p (cm ++ [(0, n)])).2) := by
        unfold mpI mpX
        rw [if_neg (fun q => c9 (by rw [← hVn]; exact q.2)), if_neg (by omega), if_pos (Or.inl cS), if_pos cS, hVn]
      have em := sp_TM_emit hE (by omega) 0 n
      rw [show nmV (SS l k) = -1 from (by rw [cS]; rfl)] at nm
      rw [e]
      first | refine E_aload_n d_TM_beginOne_0 rfl ?_ | refine E_aload_nN d_TM_beginOne_0 rfl ?_
      refine E_getI d_TM_beginOne_1 gf_TM_94 (by exact ⟨by decide, rfl⟩) (by exact h9) ?_
      refine E_iconst (v := nI 1) d_TM_beginOne_4 rfl ?_
      first | (with_reducible refine E_isN2 ?_; refine E_icmp_ne 20 d_TM_beginOne_5 rfl (nb_ne fun h5 => ?_) (nb_eq (by omega) (by omega) fun h5 => ?_)) | refine E_icmp_ne 20 d_TM_beginOne_5 rfl (fun h5 => ?_) (fun h5 => ?_)
      · exfalso; omega
      first | refine E_aload_n d_TM_beginOne_8 rfl ?_ | refine E_aload_nN d_TM_beginOne_8 rfl ?_
      refine E_getI d_TM_beginOne_9 gf_TM_100 (by exact ⟨by decide, rfl⟩) (by exact h10) ?_
      refine E_sipush (v := nI 9999) d_TM_beginOne_12 (by decide) ?_
      first | (with_reducible refine E_isN2 ?_; refine E_icmp_le 20 d_TM_beginOne_15 rfl (nb_le (by omega) (by omega) fun h15 => ?_) (nb_nle (by omega) (by omega) fun h15 => ?_)) | refine E_icmp_le 20 d_TM_beginOne_15 rfl (fun h15 => ?_) (fun h15 => ?_)
      rotate_left
      · exfalso; omega
      first | refine E_aload_n d_TM_beginOne_20 rfl ?_ | refine E_aload_nN d_TM_beginOne_20 rfl ?_
      refine E_V0 (nm) d_TM_beginOne_21 ml_TM_168 cb_TM_nameOf cv_TM_nameOf (by exact ⟨by decide, rfl⟩) ⟨by decide, rfl⟩ ⟨by decide, by decide⟩ rfl (Nat.le_of_ble_eq_true rfl) (Nat.le_of_ble_eq_true rfl) (kI fun r1 M1 hc => ?_)
      obtain ⟨rfl, rfl⟩ := hc
      refine E_istore_1 d_TM_beginOne_24 rfl ?_
      refine E_iload_n d_TM_beginOne_25 rfl ?_
      first | (with_reducible refine E_isN1 ?_; refine E_if_lt 39 d_TM_beginOne_26 rfl (nz_lt (by omega) fun h26 => ?_) (nz_nlt (by omega) fun h26 => ?_)) | refine E_if_lt 39 d_TM_beginOne_26 rfl (fun h26 => ?_) (fun h26 => ?_)
      rotate_left
      · exfalso; exact absurd (show (-1 : Int32) < 0 by decide) h26
      first | refine E_aload_n d_TM_beginOne_39 rfl ?_ | refine E_aload_nN d_TM_beginOne_39 rfl ?_
      refine E_getI d_TM_beginOne_40 gf_TM_94 (by exact ⟨by decide, rfl⟩) (by exact h9) ?_
      refine E_iconst (v := nI 1) d_TM_beginOne_43 rfl ?_
      first | (with_reducible refine E_isN2 ?_; refine E_icmp_eq 51 d_TM_beginOne_44 rfl (nb_eq (by omega) (by omega) fun h44 => ?_) (nb_ne fun h44 => ?_)) | refine E_icmp_eq 51 d_TM_beginOne_44 rfl (fun h44 => ?_) (fun h44 => ?_)
      rotate_left
      · exfalso; omega
      first | refine E_aload_n d_TM_beginOne_51 rfl ?_ | refine E_aload_nN d_TM_beginOne_51 rfl ?_
      first | refine E_aload_n d_TM_beginOne_52 rfl ?_ | refine E_aload_nN d_TM_beginOne_52 rfl ?_
      refine E_getI d_TM_beginOne_53 gf_TM_94 (by exact ⟨by decide, rfl⟩) (by exact h9) ?_
      refine E_iconst (v := nI 1) d_TM_beginOne_56 rfl ?_
      first | (with_reducible refine E_isN2 ?_; refine E_icmp_ne 64 d_TM_beginOne_57 rfl (nb_ne fun h57 => ?_) (nb_eq (by omega) (by omega) fun h57 => ?_)) | refine E_icmp_ne 64 d_TM_beginOne_57 rfl (fun h57 => ?_) (fun h57 => ?_)
      · exfalso; omega
      refine E_iconst (v := nI 0) d_TM_beginOne_60 rfl ?_
      refine E_goto 65 d_TM_beginOne_61 rfl ?_
      first | refine E_aload_n d_TM_beginOne_65 rfl ?_ | refine E_aload_nN d_TM_beginOne_65 rfl ?_
      refine E_getI d_TM_beginOne_66 gf_TM_94 (by exact ⟨by decide, rfl⟩) (by exact h9) ?_
      refine E_iconst (v := nI 1) d_TM_beginOne_69 rfl ?_
      first | (with_reducible refine E_isN2 ?_; refine E_icmp_ne 80 d_TM_beginOne_70 rfl (nb_ne fun h70 => ?_) (nb_eq (by omega) (by omega) fun h70 => ?_)) | refine E_icmp_ne 80 d_TM_beginOne_70 rfl (fun h70 => ?_) (fun h70 => ?_)
      · exfalso; omega
      first | refine E_aload_n d_TM_beginOne_73 rfl ?_ | refine E_aload_nN d_TM_beginOne_73 rfl ?_
      refine E_getI d_TM_beginOne_74 gf_TM_100 (by exact ⟨by decide, rfl⟩) (by exact h10) ?_
      refine E_goto 81 d_TM_beginOne_77 rfl ?_
      refine E_V2 (em) d_TM_beginOne_81 ml_TM_151 cb_TM_emit cv_TM_emit (by exact ⟨by decide, rfl⟩) ⟨by decide, rfl⟩ ⟨by decide, by decide⟩ rfl (Nat.le_of_ble_eq_true rfl) (Nat.le_of_ble_eq_true rfl) (kV fun M1 hc => ?_)
      obtain ⟨hE2, hX2⟩ := hc
      exact tl (0, n) _ _ hE2 hX2 (by omega)
  · have cS : SS l k ≠ 39 := fun z => ct (t15.mpr z)
    have e1 : ¬ (SS l k = 39 ∧ 9999 < VV l k) := fun z => cS z.1
    by_cases cn : (19 ≤ SS l k ∧ SS l k ≤ 25) ∨ SS l k = 3
    · have n8 : nmI (SS l k) < 8 ∧ (nmI (SS l k) = 7 ↔ SS l k = 25) := by
        unfold nmI
        by_cases q : SS l k = 3
        · rw [if_pos q]; omega
        · rw [if_neg q]
          by_cases q2 : SS l k ≤ 21
          · rw [if_pos q2]; omega
          · rw [if_neg q2]; omega
      rw [show nmV (SS l k) = nI (nmI (SS l k)) from if_pos cn] at nm
      have io := sp_TM_isOf n8.1 h14 hs1
      by_cases c5 : SS l k = 25 ∧ s ≠ 1
      · have e : mpI (SS l) (VV l) s k p cm = (6, k, p, false, cm) := by unfold mpI; rw [if_neg e1, if_pos c5]
        rw [e]
        generalize nmI (SS l k) = x at *
        first | refine E_aload_n d_TM_beginOne_0 rfl ?_ | refine E_aload_nN d_TM_beginOne_0 rfl ?_
        refine E_getI d_TM_beginOne_1 gf_TM_94 (by exact ⟨by decide, rfl⟩) (by exact h9) ?_
        refine E_iconst (v := nI 1) d_TM_beginOne_4 rfl ?_
        first | (with_reducible refine E_isN2 ?_; refine E_icmp_ne 20 d_TM_beginOne_5 rfl (nb_ne fun h5 => ?_) (nb_eq (by omega) (by omega) fun h5 => ?_)) | refine E_icmp_ne 20 d_TM_beginOne_5 rfl (fun h5 => ?_) (fun h5 => ?_)
        rotate_left
        · exfalso; omega
        first | refine E_aload_n d_TM_beginOne_20 rfl ?_ | refine E_aload_nN d_TM_beginOne_20 rfl ?_
        refine E_V0 (nm) d_TM_beginOne_21 ml_TM_168 cb_TM_nameOf cv_TM_nameOf (by exact ⟨by decide, rfl⟩) ⟨by decide, rfl⟩ ⟨by decide, by decide⟩ rfl (Nat.le_of_ble_eq_true rfl) (Nat.le_of_ble_eq_true rfl) (kI fun r1 M1 hc => ?_)
        obtain ⟨rfl, rfl⟩ := hc
        refine E_istore_1 d_TM_beginOne_24 rfl ?_
        refine E_iload_n d_TM_beginOne_25 rfl ?_
        first | (with_reducible refine E_isN1 ?_; refine E_if_lt 39 d_TM_beginOne_26 rfl (nz_lt (by omega) fun h26 => ?_) (nz_nlt (by omega) fun h26 => ?_)) | refine E_if_lt 39 d_TM_beginOne_26 rfl (fun h26 => ?_) (fun h26 => ?_)
        · exfalso; omega
        first | refine E_aload_n d_TM_beginOne_29 rfl ?_ | refine E_aload_nN d_TM_beginOne_29 rfl ?_
        refine E_iload_n d_TM_beginOne_30 rfl ?_
        refine E_V1 (io) d_TM_beginOne_31 ml_TM_171 cb_TM_isOf cv_TM_isOf (by exact ⟨by decide, rfl⟩) ⟨by decide, rfl⟩ ⟨by decide, by decide⟩ rfl (Nat.le_of_ble_eq_true rfl) (Nat.le_of_ble_eq_true rfl) (kI fun r1 M1 hc => ?_)
        obtain ⟨rfl, rfl⟩ := hc
        first | (with_reducible refine E_isP ?_; refine E_if_ne 39 d_TM_beginOne_34 rfl (pb_1 fun h34 => ?_) (pb_0 fun h34 => ?_)) | (with_reducible refine E_isN1 ?_; refine E_if_ne 39 d_TM_beginOne_34 rfl (nz_ne fun h34 => ?_) (nz_eq (by omega) fun h34 => ?_)) | refine E_if_ne 39 d_TM_beginOne_34 rfl (fun h34 => ?_) (fun h34 => ?_)
        · exfalso; exact absurd ⟨n8.2.mpr c5.1, c5.2⟩ h34
        refine E_iconst (v := nI 5) d_TM_beginOne_37 rfl ?_
        refine E_retI d_TM_beginOne_38 rfl ?_
        exact ⟨fun z => absurd z (show ¬ 6 = 0 by decide), fun _ => ⟨rfl, rfl⟩⟩
      · have e : mpI (SS l) (VV l) s k p cm = (0, k + 1, (mpS 7 p (cm ++ [(1, nmI (SS l k))])).1, true, (mpS 7 p (cm ++ [(1, nmI (SS l k))])).2) := by
          unfold mpI mpX
          rw [if_neg e1, if_neg c5, if_pos (Or.inr cn), if_neg cS]
        have em := sp_TM_emit hE (by omega) 1 (nmI (SS l k))
        rw [e]
        have tl2 := fun y M1 h1 h2 => tl (1, nmI (SS l k)) y M1 h1 h2 (by omega)
        generalize nmI (SS l k) = x at *
        first | refine E_aload_n d_TM_beginOne_0 rfl ?_ | refine E_aload_nN d_TM_beginOne_0 rfl ?_
        refine E_getI d_TM_beginOne_1 gf_TM_94 (by exact ⟨by decide, rfl⟩) (by exact h9) ?_
        refine E_iconst (v := nI 1) d_TM_beginOne_4 rfl ?_
        first | (with_reducible refine E_isN2 ?_; refine E_icmp_ne 20 d_TM_beginOne_5 rfl (nb_ne fun h5 => ?_) (nb_eq (by omega) (by omega) fun h5 => ?_)) | refine E_icmp_ne 20 d_TM_beginOne_5 rfl (fun h5 => ?_) (fun h5 => ?_)
        rotate_left
        · exfalso; omega
        first | refine E_aload_n d_TM_beginOne_20 rfl ?_ | refine E_aload_nN d_TM_beginOne_20 rfl ?_
        refine E_V0 (nm) d_TM_beginOne_21 ml_TM_168 cb_TM_nameOf cv_TM_nameOf (by exact ⟨by decide, rfl⟩) ⟨by decide, rfl⟩ ⟨by decide, by decide⟩ rfl (Nat.le_of_ble_eq_true rfl) (Nat.le_of_ble_eq_true rfl) (kI fun r1 M1 hc => ?_)
        obtain ⟨rfl, rfl⟩ := hc
        refine E_istore_1 d_TM_beginOne_24 rfl ?_
        refine E_iload_n d_TM_beginOne_25 rfl ?_
        first | (with_reducible refine E_isN1 ?_; refine E_if_lt 39 d_TM_beginOne_26 rfl (nz_lt (by omega) fun h26 => ?_) (nz_nlt (by omega) fun h26 => ?_)) | refine E_if_lt 39 d_TM_beginOne_26 rfl (fun h26 => ?_) (fun h26 => ?_)
        · exfalso; omega
        first | refine E_aload_n d_TM_beginOne_29 rfl ?_ | refine E_aload_nN d_TM_beginOne_29 rfl ?_
        refine E_iload_n d_TM_beginOne_30 rfl ?_
        refine E_V1 (io) d_TM_beginOne_31 ml_TM_171 cb_TM_isOf cv_TM_isOf (by exact ⟨by decide, rfl⟩) ⟨by decide, rfl⟩ ⟨by decide, by decide⟩ rfl (Nat.le_of_ble_eq_true rfl) (Nat.le_of_ble_eq_true rfl) (kI fun r1 M1 hc => ?_)
        obtain ⟨rfl, rfl⟩ := hc
        first | (with_reducible refine E_isP ?_; refine E_if_ne 39 d_TM_beginOne_34 rfl (pb_1 fun h34 => ?_) (pb_0 fun h34 => ?_)) | (with_reducible refine E_isN1 ?_; refine E_if_ne 39 d_TM_beginOne_34 rfl (nz_ne fun h34 => ?_) (nz_eq (by omega) fun h34 => ?_)) | refine E_if_ne 39 d_TM_beginOne_34 rfl (fun h34 => ?_) (fun h34 => ?_)
        rotate_left
        · exfalso; exact h34 (fun z => c5 ⟨n8.2.mp z.1, z.2⟩)
        first | refine E_aload_n d_TM_beginOne_39 rfl ?_ | refine E_aload_nN d_TM_beginOne_39 rfl ?_
        refine E_getI d_TM_beginOne_40 gf_TM_94 (by exact ⟨by decide, rfl⟩) (by exact h9) ?_
        refine E_iconst (v := nI 1) d_TM_beginOne_43 rfl ?_
        first | (with_reducible refine E_isN2 ?_; refine E_icmp_eq 51 d_TM_beginOne_44 rfl (nb_eq (by omega) (by omega) fun h44 => ?_) (nb_ne fun h44 => ?_)) | refine E_icmp_eq 51 d_TM_beginOne_44 rfl (fun h44 => ?_) (fun h44 => ?_)
        · exfalso; omega
        refine E_iload_n d_TM_beginOne_47 rfl ?_
        first | (with_reducible refine E_isN1 ?_; refine E_if_lt 101 d_TM_beginOne_48 rfl (nz_lt (by omega) fun h48 => ?_) (nz_nlt (by omega) fun h48 => ?_)) | refine E_if_lt 101 d_TM_beginOne_48 rfl (fun h48 => ?_) (fun h48 => ?_)
        · exfalso; omega
        first | refine E_aload_n d_TM_beginOne_51 rfl ?_ | refine E_aload_nN d_TM_beginOne_51 rfl ?_
        first | refine E_aload_n d_TM_beginOne_52 rfl ?_ | refine E_aload_nN d_TM_beginOne_52 rfl ?_
        refine E_getI d_TM_beginOne_53 gf_TM_94 (by exact ⟨by decide, rfl⟩) (by exact h9) ?_
        refine E_iconst (v := nI 1) d_TM_beginOne_56 rfl ?_
        first | (with_reducible refine E_isN2 ?_; refine E_icmp_ne 64 d_TM_beginOne_57 rfl (nb_ne fun h57 => ?_) (nb_eq (by omega) (by omega) fun h57 => ?_)) | refine E_icmp_ne 64 d_TM_beginOne_57 rfl (fun h57 => ?_) (fun h57 => ?_)
        rotate_left
        · exfalso; omega
        refine E_iconst (v := nI 1) d_TM_beginOne_64 rfl ?_
        first | refine E_aload_n d_TM_beginOne_65 rfl ?_ | refine E_aload_nN d_TM_beginOne_65 rfl ?_
        refine E_getI d_TM_beginOne_66 gf_TM_94 (by exact ⟨by decide, rfl⟩) (by exact h9) ?_
        refine E_iconst (v := nI 1) d_TM_beginOne_69 rfl ?_
        first | (with_reducible refine E_isN2 ?_; refine E_icmp_ne 80 d_TM_beginOne_70 rfl (nb_ne fun h70 => ?_) (nb_eq (by omega) (by omega) fun h70 => ?_)) | refine E_icmp_ne 80 d_TM_beginOne_70 rfl (fun h70 => ?_) (fun h70 => ?_)
        rotate_left
        · exfalso; omega
        refine E_iload_n d_TM_beginOne_80 rfl ?_
        refine E_V2 (em) d_TM_beginOne_81 ml_TM_151 cb_TM_emit cv_TM_emit (by exact ⟨by decide, rfl⟩) ⟨by decide, rfl⟩ ⟨by decide, by decide⟩ rfl (Nat.le_of_ble_eq_true rfl) (Nat.le_of_ble_eq_true rfl) (kV fun M1 hc => ?_)
        obtain ⟨hE2, hX2⟩ := hc
        exact tl2 _ _ hE2 hX2
    · have e2 : ¬ (SS l k = 25 ∧ s ≠ 1) := fun z => cn (by omega)
      have e3 : ¬ (SS l k = 39 ∨ ((19 ≤ SS l k ∧ SS l k ≤ 25) ∨ SS l k = 3)) := fun z => by rcases z with z | z; exact cS z; exact cn z
      exact bo_other h hL cS cn
end MQd
