section MQe
variable {M M0 : Mem} {l : List Nat} {k t s w0 : Nat} {p : List Nat} {cm : Cd}
theorem wO_t {n : Nat} (h : n ≠ 0) : wO n = nI n := if_neg h
theorem sp_TM_betweenOf (hR : MR M) (hK : TKM l k M) (hP : PS M p) (hL : p.length ≤ 155) : E 2 0 0 Y_TM_betweenOf 0 [some (.ref 0)] [] GM M (QI GM fun r M' => r = wO (mpB p (SS l k)) ∧ M' = M) := by
  have sn := sp_TM_openNow hR hP hL
  have sc := sp_TM_isCompared hR hP hL
  have so := sp_TM_compareOf hK
  have i17 := sp_TM_isWord hK 17 6385252 (by decide) rfl (by decide)
  have i16 := sp_TM_isWord hK 16 28530 (by decide) rfl (by decide)
  obtain ⟨-, -, tk, n, w, h9, -, -, hT⟩ := id hK
  obtain ⟨-, -, -, -, -, -, t32, t33, t34, t35, -⟩ := hT.tk
  have hlt := hT.2.2.2.1
  clear hT hK
  generalize SS l k = S at *
  by_cases c1 : 32 ≤ S ∧ S ≤ 35
  · have e : wO (mpB p S) = nI (S - 26) := by rw [mpB_bi c1]; exact wO_t (by omega)
    rw [e]
    have k1 : ∀ (_ : Unit) s i, s - 26 = i → S = s → nI i = nI (S - 26) ∧ M = M := fun _ s i q z => ⟨by rw [z, q], rfl⟩
    first | refine E_aload_n d_TM_betweenOf_0 rfl ?_ | refine E_aload_nN d_TM_betweenOf_0 rfl ?_
    refine E_getI d_TM_betweenOf_1 gf_TM_94 (by exact ⟨by decide, rfl⟩) (by exact h9) ?_
    refine E_bipush (v := nI 43) d_TM_betweenOf_4 (by decide) ?_
    first | (with_reducible refine E_isN2 ?_; refine E_icmp_ne 12 d_TM_betweenOf_6 rfl (nb_ne fun h6 => ?_) (nb_eq (by omega) (by omega) fun h6 => ?_)) | refine E_icmp_ne 12 d_TM_betweenOf_6 rfl (fun h6 => ?_) (fun h6 => ?_)
    · first | refine E_aload_n d_TM_betweenOf_12 rfl ?_ | refine E_aload_nN d_TM_betweenOf_12 rfl ?_
      refine E_getI d_TM_betweenOf_13 gf_TM_94 (by exact ⟨by decide, rfl⟩) (by exact h9) ?_
      refine E_bipush (v := nI 45) d_TM_betweenOf_16 (by decide) ?_
      first | (with_reducible refine E_isN2 ?_; refine E_icmp_ne 24 d_TM_betweenOf_18 rfl (nb_ne fun h18 => ?_) (nb_eq (by omega) (by omega) fun h18 => ?_)) | refine E_icmp_ne 24 d_TM_betweenOf_18 rfl (fun h18 => ?_) (fun h18 => ?_)
      · first | refine E_aload_n d_TM_betweenOf_24 rfl ?_ | refine E_aload_nN d_TM_betweenOf_24 rfl ?_
        refine E_getI d_TM_betweenOf_25 gf_TM_94 (by exact ⟨by decide, rfl⟩) (by exact h9) ?_
        refine E_bipush (v := nI 42) d_TM_betweenOf_28 (by decide) ?_
        first | (with_reducible refine E_isN2 ?_; refine E_icmp_ne 36 d_TM_betweenOf_30 rfl (nb_ne fun h30 => ?_) (nb_eq (by omega) (by omega) fun h30 => ?_)) | refine E_icmp_ne 36 d_TM_betweenOf_30 rfl (fun h30 => ?_) (fun h30 => ?_)
        · first | refine E_aload_n d_TM_betweenOf_36 rfl ?_ | refine E_aload_nN d_TM_betweenOf_36 rfl ?_
          refine E_getI d_TM_betweenOf_37 gf_TM_94 (by exact ⟨by decide, rfl⟩) (by exact h9) ?_
          refine E_bipush (v := nI 47) d_TM_betweenOf_40 (by decide) ?_
          first | (with_reducible refine E_isN2 ?_; refine E_icmp_ne 48 d_TM_betweenOf_42 rfl (nb_ne fun h42 => ?_) (nb_eq (by omega) (by omega) fun h42 => ?_)) | refine E_icmp_ne 48 d_TM_betweenOf_42 rfl (fun h42 => ?_) (fun h42 => ?_)
          · exfalso; omega
          · refine E_bipush (v := nI 9) d_TM_betweenOf_45 (by decide) ?_
            refine E_retI d_TM_betweenOf_47 rfl ?_
            exact k1 () 35 9 rfl (t35.mp h42)
        · refine E_bipush (v := nI 8) d_TM_betweenOf_33 (by decide) ?_
          refine E_retI d_TM_betweenOf_35 rfl ?_
          exact k1 () 34 8 rfl (t34.mp h30)
      · refine E_bipush (v := nI 7) d_TM_betweenOf_21 (by decide) ?_
        refine E_retI d_TM_betweenOf_23 rfl ?_
        exact k1 () 33 7 rfl (t33.mp h18)
    · refine E_bipush (v := nI 6) d_TM_betweenOf_9 (by decide) ?_
      refine E_retI d_TM_betweenOf_11 rfl ?_
      exact k1 () 32 6 rfl (t32.mp h6)
  · have hb : ∀ X : Int32, X = wO (mpB p S) → X = wO (mpB p S) ∧ M = M := fun X z => ⟨z, rfl⟩
    by_cases c2 : mpO p = 41
    · rw [c2] at sn
      have sn' : E 1 0 0 Y_TM_openNow 0 [some (.ref 0)] [] GM M (QI GM fun r M' => r = nI 41 ∧ M' = M) := sn
      by_cases c3 : mpC p = true
      · have e : mpB p S = if S = 17 then 21 else if S = 16 then 22 else 0 := by unfold mpB; rw [if_neg c1, if_neg (fun z => z c2), if_neg (by rw [c3]; decide)]
        rw [c3] at sc
        have sc' : E 1 0 0 Y_TM_isCompared 0 [some (.ref 0), none] [] GM M (QI GM fun r M' => r = nI 1 ∧ M' = M) := sc
        rw [e]
        first | refine E_aload_n d_TM_betweenOf_0 rfl ?_ | refine E_aload_nN d_TM_betweenOf_0 rfl ?_
        refine E_getI d_TM_betweenOf_1 gf_TM_94 (by exact ⟨by decide, rfl⟩) (by exact h9) ?_
        refine E_bipush (v := nI 43) d_TM_betweenOf_4 (by decide) ?_
        first | (with_reducible refine E_isN2 ?_; refine E_icmp_ne 12 d_TM_betweenOf_6 rfl (nb_ne fun h6 => ?_) (nb_eq (by omega) (by omega) fun h6 => ?_)) | refine E_icmp_ne 12 d_TM_betweenOf_6 rfl (fun h6 => ?_) (fun h6 => ?_)
        rotate_left
        · exfalso; omega
        first | refine E_aload_n d_TM_betweenOf_12 rfl ?_ | refine E_aload_nN d_TM_betweenOf_12 rfl ?_
        refine E_getI d_TM_betweenOf_13 gf_TM_94 (by exact ⟨by decide, rfl⟩) (by exact h9) ?_
        refine E_bipush (v := nI 45) d_TM_betweenOf_16 (by decide) ?_
        first | (with_reducible refine E_isN2 ?_; refine E_icmp_ne 24 d_TM_betweenOf_18 rfl (nb_ne fun h18 => ?_) (nb_eq (by omega) (by omega) fun h18 => ?_)) | refine E_icmp_ne 24 d_TM_betweenOf_18 rfl (fun h18 => ?_) (fun h18 => ?_)
        rotate_left
        · exfalso; omega
        first | refine E_aload_n d_TM_betweenOf_24 rfl ?_ | refine E_aload_nN d_TM_betweenOf_24 rfl ?_
        refine E_getI d_TM_betweenOf_25 gf_TM_94 (by exact ⟨by decide, rfl⟩) (by exact h9) ?_
        refine E_bipush (v := nI 42) d_TM_betweenOf_28 (by decide) ?_
        first | (with_reducible refine E_isN2 ?_; refine E_icmp_ne 36 d_TM_betweenOf_30 rfl (nb_ne fun h30 => ?_) (nb_eq (by omega) (by omega) fun h30 => ?_)) | refine E_icmp_ne 36 d_TM_betweenOf_30 rfl (fun h30 => ?_) (fun h30 => ?_)
        rotate_left
        · exfalso; omega
        first | refine E_aload_n d_TM_betweenOf_36 rfl ?_ | refine E_aload_nN d_TM_betweenOf_36 rfl ?_
        refine E_getI d_TM_betweenOf_37 gf_TM_94 (by exact ⟨by decide, rfl⟩) (by exact h9) ?_
        refine E_bipush (v := nI 47) d_TM_betweenOf_40 (by decide) ?_
        first | (with_reducible refine E_isN2 ?_; refine E_icmp_ne 48 d_TM_betweenOf_42 rfl (nb_ne fun h42 => ?_) (nb_eq (by omega) (by omega) fun h42 => ?_)) | refine E_icmp_ne 48 d_TM_betweenOf_42 rfl (fun h42 => ?_) (fun h42 => ?_)
        rotate_left
        · exfalso; omega
        first | refine E_aload_n d_TM_betweenOf_48 rfl ?_ | refine E_aload_nN d_TM_betweenOf_48 rfl ?_
        refine E_V0 (sn') d_TM_betweenOf_49 ml_TM_162 cb_TM_openNow cv_TM_openNow (by exact ⟨by decide, rfl⟩) ⟨by decide, rfl⟩ ⟨by decide, by decide⟩ rfl (Nat.le_of_ble_eq_true rfl) (Nat.le_of_ble_eq_true rfl) (kI fun r1 M1 hc => ?_)
        obtain ⟨rfl, rfl⟩ := hc
        refine E_bipush (v := nI 41) d_TM_betweenOf_52 (by decide) ?_
        first | (with_reducible refine E_isN2 ?_; refine E_icmp_eq 59 d_TM_betweenOf_54 rfl (nb_eq (by omega) (by omega) fun h54 => ?_) (nb_ne fun h54 => ?_)) | refine E_icmp_eq 59 d_TM_betweenOf_54 rfl (fun h54 => ?_) (fun h54 => ?_)
        rotate_left
        · exfalso; exact h54 rfl
        first | refine E_aload_n d_TM_betweenOf_59 rfl ?_ | refine E_aload_nN d_TM_betweenOf_59 rfl ?_
        refine E_V0 (sc') d_TM_betweenOf_60 ml_TM_191 cb_TM_isCompared cv_TM_isCompared (by exact ⟨by decide, rfl⟩) ⟨by decide, rfl⟩ ⟨by decide, by decide⟩ rfl (Nat.le_of_ble_eq_true rfl) (Nat.le_of_ble_eq_true rfl) (kI fun r1 M1 hc => ?_)
        obtain ⟨rfl, rfl⟩ := hc
        first | (with_reducible refine E_isP ?_; refine E_if_ne 71 d_TM_betweenOf_63 rfl (pb_1 fun h63 => ?_) (pb_0 fun h63 => ?_)) | (with_reducible refine E_isN1 ?_; refine E_if_ne 71 d_TM_betweenOf_63 rfl (nz_ne fun h63 => ?_) (nz_eq (by omega) fun h63 => ?_)) | refine E_if_ne 71 d_TM_betweenOf_63 rfl (fun h63 => ?_) (fun h63 => ?_)
        rotate_left
        · exfalso; omega
        first | refine E_aload_n d_TM_betweenOf_71 rfl ?_ | refine E_aload_nN d_TM_betweenOf_71 rfl ?_
        refine E_bipush (v := nI 97) d_TM_betweenOf_72 (by decide) ?_
        refine E_bipush (v := nI 110) d_TM_betweenOf_74 (by decide) ?_
        refine E_bipush (v := nI 100) d_TM_betweenOf_76 (by decide) ?_
        refine E_S3 (sp_TM_w3 97 110 100 6385252 (by decide) (by decide)) d_TM_betweenOf_78 ml_TM_120 cb_TM_w3 cs_TM_w3 ⟨by decide, by decide⟩ rfl (Nat.le_of_ble_eq_true rfl) (Nat.le_of_ble_eq_true rfl) (kL fun r1 M1 hc => ?_)
        obtain ⟨rfl, rfl⟩ := hc
        refine E_V1 (i17) d_TM_betweenOf_81 ml_TM_183 cb_TM_isWord cv_TM_isWord (by exact ⟨by decide, rfl⟩) ⟨by decide, rfl⟩ ⟨by decide, by decide⟩ rfl (Nat.le_of_ble_eq_true rfl) (Nat.le_of_ble_eq_true rfl) (kI fun r1 M1 hc => ?_)
        obtain ⟨rfl, rfl⟩ := hc
        first | (with_reducible refine E_isP ?_; refine E_if_eq 92 d_TM_betweenOf_84 rfl (pb_0 fun h84 => ?_) (pb_1 fun h84 => ?_)) | (with_reducible refine E_isN1 ?_; refine E_if_eq 92 d_TM_betweenOf_84 rfl (nz_eq (by omega) fun h84 => ?_) (nz_ne fun h84 => ?_)) | refine E_if_eq 92 d_TM_betweenOf_84 rfl (fun h84 => ?_) (fun h84 => ?_)
        · first | refine E_aload_n d_TM_betweenOf_92 rfl ?_ | refine E_aload_nN d_TM_betweenOf_92 rfl ?_
          refine E_bipush (v := nI 111) d_TM_betweenOf_93 (by decide) ?_
          refine E_bipush (v := nI 114) d_TM_betweenOf_95 (by decide) ?_
          refine E_S2 (sp_TM_w2 111 114 28530 (by decide) (by decide)) d_TM_betweenOf_97 ml_TM_116 cb_TM_w2 cs_TM_w2 ⟨by decide, by decide⟩ rfl (Nat.le_of_ble_eq_true rfl) (Nat.le_of_ble_eq_true rfl) (kL fun r1 M1 hc => ?_)
          obtain ⟨rfl, rfl⟩ := hc
          refine E_V1 (i16) d_TM_betweenOf_100 ml_TM_183 cb_TM_isWord cv_TM_isWord (by exact ⟨by decide, rfl⟩) ⟨by decide, rfl⟩ ⟨by decide, by decide⟩ rfl (Nat.le_of_ble_eq_true rfl) (Nat.le_of_ble_eq_true rfl) (kI fun r1 M1 hc => ?_)
          obtain ⟨rfl, rfl⟩ := hc
          first | (with_reducible refine E_isP ?_; refine E_if_eq 111 d_TM_betweenOf_103 rfl (pb_0 fun h103 => ?_) (pb_1 fun h103 => ?_)) | (with_reducible refine E_isN1 ?_; refine E_if_eq 111 d_TM_betweenOf_103 rfl (nz_eq (by omega) fun h103 => ?_) (nz_ne fun h103 => ?_)) | refine E_if_eq 111 d_TM_betweenOf_103 rfl (fun h103 => ?_) (fun h103 => ?_)
          · refine E_iconst (v := (-1)) d_TM_betweenOf_111 rfl ?_
            refine E_retI d_TM_betweenOf_112 rfl ?_
            first | exact ⟨by rw [if_pos h84]; rfl, rfl⟩ | exact ⟨by rw [if_neg h84, if_pos h103]; rfl, rfl⟩ | exact ⟨by rw [if_neg h84, if_neg h103]; rfl, rfl⟩
          · refine E_bipush (v := nI 22) d_TM_betweenOf_106 (by decide) ?_
            refine E_goto 112 d_TM_betweenOf_108 rfl ?_
            refine E_retI d_TM_betweenOf_112 rfl ?_
            first | exact ⟨by rw [if_pos h84]; rfl, rfl⟩ | exact ⟨by rw [if_neg h84, if_pos h103]; rfl, rfl⟩ | exact ⟨by rw [if_neg h84, if_neg h103]; rfl, rfl⟩
        · refine E_bipush (v := nI 21) d_TM_betweenOf_87 (by decide) ?_
          refine E_goto 112 d_TM_betweenOf_89 rfl ?_
          refine E_retI d_TM_betweenOf_112 rfl ?_
          first | exact ⟨by rw [if_pos h84]; rfl, rfl⟩ | exact ⟨by rw [if_neg h84, if_pos h103]; rfl, rfl⟩ | exact ⟨by rw [if_neg h84, if_neg h103]; rfl, rfl⟩
      · have c3 : mpC p = false := by cases h : mpC p with | false => rfl | true => exact absurd h c3
        have e : wO (mpB p S) = cmV S := by
          unfold mpB cmV
          rw [if_neg c1, if_neg (fun z => z c2), if_pos c3]
          by_cases q : 26 ≤ S ∧ S ≤ 31
          · rw [if_pos q, if_pos q]; exact wO_t (by have := cmO_rg q; omega)
          · rw [if_neg q, if_neg q]; rfl
        rw [c3] at sc
        have sc' : E 1 0 0 Y_TM_isCompared 0 [some (.ref 0), none] [] GM M (QI GM fun r M' => r = nI 0 ∧ M' = M) := sc
        rw [e]
        first | refine E_aload_n d_TM_betweenOf_0 rfl ?_ | refine E_aload_nN d_TM_betweenOf_0 rfl ?_
        refine E_getI d_TM_betweenOf_1 gf_TM_94 (by exact ⟨by decide, rfl⟩) (by exact h9) ?_
        refine E_bipush (v := nI 43) d_TM_betweenOf_4 (by decide) ?_
        first | (with_reducible refine E_isN2 ?_; refine E_icmp_ne 12 d_TM_betweenOf_6 rfl (nb_ne fun h6 => ?_) (nb_eq (by omega) (by omega) fun h6 => ?_)) | refine E_icmp_ne 12 d_TM_betweenOf_6 rfl (fun h6 => ?_) (fun h6 => ?_)
        rotate_left
        · exfalso; omega
        first | refine E_aload_n d_TM_betweenOf_12 rfl ?_ | refine E_aload_nN d_TM_betweenOf_12 rfl ?_
        refine E_getI d_TM_betweenOf_13 gf_TM_94 (by exact ⟨by decide, rfl⟩) (by exact h9) ?_
        refine E_bipush (v := nI 45) d_TM_betweenOf_16 (by decide) ?_
        first | (with_reducible refine E_isN2 ?_; refine E_icmp_ne 24 d_TM_betweenOf_18 rfl (nb_ne fun h18 => ?_) (nb_eq (by omega) (by omega) fun h18 => ?_)) | refine E_icmp_ne 24 d_TM_betweenOf_18 rfl (fun h18 => ?_) (fun h18 => ?_)
        rotate_left
        · exfalso; omega
        first | refine E_aload_n d_TM_betweenOf_24 rfl ?_ | refine E_aload_nN d_TM_betweenOf_24 rfl ?_
        refine E_getI d_TM_betweenOf_25 gf_TM_94 (by exact ⟨by decide, rfl⟩) (by exact h9) ?_
        refine E_bipush (v := nI 42) d_TM_betweenOf_28 (by decide) ?_
        first | (with_reducible refine E_isN2 ?_; refine E_icmp_ne 36 d_TM_betweenOf_30 rfl (nb_ne fun h30 => ?_) (nb_eq (by omega) (by omega) fun h30 => ?_)) | refine E_icmp_ne 36 d_TM_betweenOf_30 rfl (fun h30 => ?_) (fun h30 => ?_)
        rotate_left
        · exfalso; omega
        first | refine E_aload_n d_TM_betweenOf_36 rfl ?_ | refine E_aload_nN d_TM_betweenOf_36 rfl ?_
        refine E_getI d_TM_betweenOf_37 gf_TM_94 (by exact ⟨by decide, rfl⟩) (by exact h9) ?_
        refine E_bipush (v := nI 47) d_TM_betweenOf_40 (by decide) ?_
        first | (with_reducible refine E_isN2 ?_; refine E_icmp_ne 48 d_TM_betweenOf_42 rfl (nb_ne fun h42 => ?_) (nb_eq (by omega) (by omega) fun h42 => ?_)) | refine E_icmp_ne 48 d_TM_betweenOf_42 rfl (fun h42 => ?_) (fun h42 => ?_)
        rotate_left
        · exfalso; omega
        first | refine E_aload_n d_TM_betweenOf_48 rfl ?_ | refine E_aload_nN d_TM_betweenOf_48 rfl ?_
        refine E_V0 (sn') d_TM_betweenOf_49 ml_TM_162 cb_TM_openNow cv_TM_openNow (by exact ⟨by decide, rfl⟩) ⟨by decide, rfl⟩ ⟨by decide, by decide⟩ rfl (Nat.le_of_ble_eq_true rfl) (Nat.le_of_ble_eq_true rfl) (kI fun r1 M1 hc => ?_)
        obtain ⟨rfl, rfl⟩ := hc
        refine E_bipush (v := nI 41) d_TM_betweenOf_52 (by decide) ?_
        first | (with_reducible refine E_isN2 ?_; refine E_icmp_eq 59 d_TM_betweenOf_54 rfl (nb_eq (by omega) (by omega) fun h54 => ?_) (nb_ne fun h54 => ?_)) | refine E_icmp_eq 59 d_TM_betweenOf_54 rfl (fun h54 => ?_) (fun h54 => ?_)
        rotate_left
        · exfalso; exact h54 rfl
        first | refine E_aload_n d_TM_betweenOf_59 rfl ?_ | refine E_aload_nN d_TM_betweenOf_59 rfl ?_
        refine E_V0 (sc') d_TM_betweenOf_60 ml_TM_191 cb_TM_isCompared cv_TM_isCompared (by exact ⟨by decide, rfl⟩) ⟨by decide, rfl⟩ ⟨by decide, by decide⟩ rfl (Nat.le_of_ble_eq_true rfl) (Nat.le_of_ble_eq_true rfl) (kI fun r1 M1 hc => ?_)
        obtain ⟨rfl, rfl⟩ := hc
        first | (with_reducible refine E_isP ?_; refine E_if_ne 71 d_TM_betweenOf_63 rfl (pb_1 fun h63 => ?_) (pb_0 fun h63 => ?_)) | (with_reducible refine E_isN1 ?_; refine E_if_ne 71 d_TM_betweenOf_63 rfl (nz_ne fun h63 => ?_) (nz_eq (by omega) fun h63 => ?_)) | refine E_if_ne 71 d_TM_betweenOf_63 rfl (fun h63 => ?_) (fun h63 => ?_)
        · exfalso; omega
        first | refine E_aload_n d_TM_betweenOf_66 rfl ?_ | refine E_aload_nN d_TM_betweenOf_66 rfl ?_
        refine E_V0 (so) d_TM_betweenOf_67 ml_TM_194 cb_TM_compareOf cv_TM_compareOf (by exact ⟨by decide, rfl⟩) ⟨by decide, rfl⟩ ⟨by decide, by decide⟩ rfl (Nat.le_of_ble_eq_true rfl) (Nat.le_of_ble_eq_true rfl) (kI fun r1 M1 hc => ?_)
        obtain ⟨rfl, rfl⟩ := hc
        refine E_retI d_TM_betweenOf_70 rfl ?_
        exact ⟨rfl, rfl⟩
    · have e : mpB p S = 0 := by unfold mpB; rw [if_neg c1, if_pos c2]
      have ho : ¬ wO (mpO p) = nI 41 := fun z => c2 (by
        unfold wO at z
        by_cases c : mpO p = 0
        · rw [if_pos c] at z; exact absurd z (by decide)
        · rw [if_neg c] at z
          unfold mpO at z c ⊢
          cases hL : mpL p with
          | nil => rw [hL] at c; exact absurd rfl c
          | cons o q2 =>
            rw [hL] at z
            obtain ⟨a, b, d, e⟩ := mpL_at p hP.1 o q2 hL
            exact nI_inj (by show o < _; omega) (by decide) z)
      rw [e]
      first | refine E_aload_n d_TM_betweenOf_0 rfl ?_ | refine E_aload_nN d_TM_betweenOf_0 rfl ?_
      refine E_getI d_TM_betweenOf_1 gf_TM_94 (by exact ⟨by decide, rfl⟩) (by exact h9) ?_
      refine E_bipush (v := nI 43) d_TM_betweenOf_4 (by decide) ?_
      first | (with_reducible refine E_isN2 ?_; refine E_icmp_ne 12 d_TM_betweenOf_6 rfl (nb_ne fun h6 => ?_) (nb_eq (by omega) (by omega) fun h6 => ?_)) | refine E_icmp_ne 12 d_TM_betweenOf_6 rfl (fun h6 => ?_) (fun h6 => ?_)
      rotate_left
      · exfalso; omega
      first | refine E_aload_n d_TM_betweenOf_12 rfl ?_ | refine E_aload_nN d_TM_betweenOf_12 rfl ?_
      refine E_getI d_TM_betweenOf_13 gf_TM_94 (by exact ⟨by decide, rfl⟩) (by exact h9) ?_
      refine E_bipush (v := nI 45) d_TM_betweenOf_16 (by decide) ?_
      first | (with_reducible refine E_isN2 ?_; refine E_icmp_ne 24 d_TM_betweenOf_18 rfl (nb_ne fun h18 => ?_) (nb_eq (by omega) (by omega) fun h18 => ?_)) | refine E_icmp_ne 24 d_TM_betweenOf_18 rfl (fun h18 => ?_) (fun h18 => ?_)
      rotate_left
      · exfalso; omega
      first | refine E_aload_n d_TM_betweenOf_24 rfl ?_ | refine E_aload_nN d_TM_betweenOf_24 rfl ?_
      refine E_getI d_TM_betweenOf_25 gf_TM_94 (by exact ⟨by decide, rfl⟩) (by exact h9) ?_
      refine E_bipush (v := nI 42) d_TM_betweenOf_28 (by decide) ?_
      first | (with_reducible refine E_isN2 ?_; refine E_icmp_ne 36 d_TM_betweenOf_30 rfl (nb_ne fun h30 => ?_) (nb_eq (by omega) (by omega) fun h30 => ?_)) | refine E_icmp_ne 36 d_TM_betweenOf_30 rfl (fun h30 => ?_) (fun h30 => ?_)
      rotate_left
      · exfalso; omega
      first | refine E_aload_n d_TM_betweenOf_36 rfl ?_ | refine E_aload_nN d_TM_betweenOf_36 rfl ?_
      refine E_getI d_TM_betweenOf_37 gf_TM_94 (by exact ⟨by decide, rfl⟩) (by exact h9) ?_
      refine E_bipush (v := nI 47) d_TM_betweenOf_40 (by decide) ?_
      first | (with_reducible refine E_isN2 ?_; refine E_icmp_ne 48 d_TM_betweenOf_42 rfl (nb_ne fun h42 => ?_) (nb_eq (by omega) (by omega) fun h42 => ?_)) | refine E_icmp_ne 48 d_TM_betweenOf_42 rfl (fun h42 => ?_) (fun h42 => ?_)
      rotate_left
      · exfalso; omega
      first | refine E_aload_n d_TM_betweenOf_48 rfl ?_ | refine E_aload_nN d_TM_betweenOf_48 rfl ?_
      refine E_V0 (sn) d_TM_betweenOf_49 ml_TM_162 cb_TM_openNow cv_TM_openNow (by exact ⟨by decide, rfl⟩) ⟨by decide, rfl⟩ ⟨by decide, by decide⟩ rfl (Nat.le_of_ble_eq_true rfl) (Nat.le_of_ble_eq_true rfl) (kI fun r1 M1 hc => ?_)
      obtain ⟨rfl, rfl⟩ := hc
      refine E_bipush (v := nI 41) d_TM_betweenOf_52 (by decide) ?_
      first | (with_reducible refine E_isN2 ?_; refine E_icmp_eq 59 d_TM_betweenOf_54 rfl (nb_eq (by omega) (by omega) fun h54 => ?_) (nb_ne fun h54 => ?_)) | refine E_icmp_eq 59 d_TM_betweenOf_54 rfl (fun h54 => ?_) (fun h54 => ?_)
      · exfalso; exact ho h54
      refine E_iconst (v := (-1)) d_TM_betweenOf_57 rfl ?_
      refine E_retI d_TM_betweenOf_58 rfl ?_
      exact ⟨rfl, rfl⟩
theorem sp_TM_partOf (hR : MR M) (hK : TKM l k M) (hP : PS M p) (hL : p.length ≤ 155) {o : Nat} (ho : o = 0 ∨ (40 ≤ o ∧ o < 100)) : E 3 0 0 Y_TM_partOf 0 [some (.ref 0), some (.int (wO o))] [] GM M (QI GM fun r M' => r = wE (mpT o p (SS l k)) ∧ M' = M) := by
  have sc := sp_TM_isCompared hR hP hL
  have i13 := sp_TM_isWord hK 13 1952998766 (by decide) rfl (by decide)
  have i14 := sp_TM_isWord hK 14 1701606245 (by decide) rfl (by decide)
  have i15 := sp_TM_isWord hK 15 6647396 (by decide) rfl (by decide)
  obtain ⟨-, -, tk, n, w, h9, -, -, hT⟩ := id hK
  obtain ⟨-, -, -, -, -, -, -, -, -, -, -, t37, -⟩ := hT.tk
  have hlt := hT.2.2.2.1
  clear hT hK
  generalize SS l k = S at *
  by_cases c0 : o = 40
  · subst c0
    show E 3 0 0 Y_TM_partOf 0 [some (.ref 0), some (.int (nI 40))] [] GM M _
    refine E_iload_n d_TM_partOf_0 rfl ?_
    refine E_tableIn 32 d_TM_partOf_1 (by decide) (by decide) (by first | rfl | decide) rfl ?_
    first | refine E_aload_n d_TM_partOf_32 rfl ?_ | refine E_aload_nN d_TM_partOf_32 rfl ?_
    refine E_getI d_TM_partOf_33 gf_TM_94 (by exact ⟨by decide, rfl⟩) (by exact h9) ?_
    refine E_bipush (v := nI 41) d_TM_partOf_36 (by decide) ?_
    first | (with_reducible refine E_isN2 ?_; refine E_icmp_ne 45 d_TM_partOf_38 rfl (nb_ne fun h38 => ?_) (nb_eq (by omega) (by omega) fun h38 => ?_)) | refine E_icmp_ne 45 d_TM_partOf_38 rfl (fun h38 => ?_) (fun h38 => ?_)
    · refine E_iconst (v := (-1)) d_TM_partOf_45 rfl ?_
      refine E_retI d_TM_partOf_46 rfl ?_
      first | exact ⟨by rw [mpT, if_pos rfl, if_pos (t37.mp h38)]; rfl, rfl⟩ | exact ⟨by rw [mpT, if_pos rfl, if_neg (fun z => h38 (t37.mpr z))]; rfl, rfl⟩
    · refine E_iconst (v := nI 0) d_TM_partOf_41 rfl ?_
      refine E_goto 46 d_TM_partOf_42 rfl ?_
      refine E_retI d_TM_partOf_46 rfl ?_
      first | exact ⟨by rw [mpT, if_pos rfl, if_pos (t37.mp h38)]; rfl, rfl⟩ | exact ⟨by rw [mpT, if_pos rfl, if_neg (fun z => h38 (t37.mpr z))]; rfl, rfl⟩
  by_cases c1 : o = 41
  · subst c1
    show E 3 0 0 Y_TM_partOf 0 [some (.ref 0), some (.int (nI 41))] [] GM M _
    refine E_iload_n d_TM_partOf_0 rfl ?_
    refine E_tableIn 47 d_TM_partOf_1 (by decide) (by decide) (by first | rfl | decide) rfl ?_
    first | refine E_aload_n d_TM_partOf_47 rfl ?_ | refine E_aload_nN d_TM_partOf_47 rfl ?_
    refine E_bipush (v := nI 116) d_TM_partOf_48 (by decide) ?_
    refine E_bipush (v := nI 104) d_TM_partOf_50 (by decide) ?_
    refine E_bipush (v := nI 101) d_TM_partOf_52 (by decide) ?_
    refine E_bipush (v := nI 110) d_TM_partOf_54 (by decide) ?_
    refine E_S4 (sp_TM_w4 116 104 101 110 1952998766 (by decide) (by decide)) d_TM_partOf_56 ml_TM_124 cb_TM_w4 cs_TM_w4 ⟨by decide, by decide⟩ rfl (Nat.le_of_ble_eq_true rfl) (Nat.le_of_ble_eq_true rfl) (kL fun r1 M1 hc => ?_)
    obtain ⟨rfl, rfl⟩ := hc
    refine E_V1 (i13) d_TM_partOf_59 ml_TM_183 cb_TM_isWord cv_TM_isWord (by exact ⟨by decide, rfl⟩) ⟨by decide, rfl⟩ ⟨by decide, by decide⟩ rfl (Nat.le_of_ble_eq_true rfl) (Nat.le_of_ble_eq_true rfl) (kI fun r1 M1 hc => ?_)
    obtain ⟨rfl, rfl⟩ := hc
    first | (with_reducible refine E_isP ?_; refine E_if_eq 77 d_TM_partOf_62 rfl (pb_0 fun h62 => ?_) (pb_1 fun h62 => ?_)) | (with_reducible refine E_isN1 ?_; refine E_if_eq 77 d_TM_partOf_62 rfl (nz_eq (by omega) fun h62 => ?_) (nz_ne fun h62 => ?_)) | refine E_if_eq 77 d_TM_partOf_62 rfl (fun h62 => ?_) (fun h62 => ?_)
    · refine E_iconst (v := (-1)) d_TM_partOf_77 rfl ?_
      refine E_retI d_TM_partOf_78 rfl ?_
      first | exact ⟨by rw [mpT, if_neg c0, if_pos rfl, if_neg (fun z => h62 z.1)]; rfl, rfl⟩ | exact ⟨by rw [mpT, if_neg c0, if_pos rfl, if_neg (fun z => h69 z.2)]; rfl, rfl⟩ | exact ⟨by rw [mpT, if_neg c0, if_pos rfl, if_pos ⟨h62, h69⟩]; rfl, rfl⟩
    · first | refine E_aload_n d_TM_partOf_65 rfl ?_ | refine E_aload_nN d_TM_partOf_65 rfl ?_
      refine E_V0 (sc) d_TM_partOf_66 ml_TM_191 cb_TM_isCompared cv_TM_isCompared (by exact ⟨by decide, rfl⟩) ⟨by decide, rfl⟩ ⟨by decide, by decide⟩ rfl (Nat.le_of_ble_eq_true rfl) (Nat.le_of_ble_eq_true rfl) (kI fun r1 M1 hc => ?_)
      obtain ⟨rfl, rfl⟩ := hc
      first | (with_reducible refine E_isP ?_; refine E_if_eq 77 d_TM_partOf_69 rfl (pb_0 fun h69 => ?_) (pb_1 fun h69 => ?_)) | (with_reducible refine E_isN1 ?_; refine E_if_eq 77 d_TM_partOf_69 rfl (nz_eq (by omega) fun h69 => ?_) (nz_ne fun h69 => ?_)) | refine E_if_eq 77 d_TM_partOf_69 rfl (fun h69 => ?_) (fun h69 => ?_)
      · refine E_iconst (v := (-1)) d_TM_partOf_77 rfl ?_
        refine E_retI d_TM_partOf_78 rfl ?_
        first | exact ⟨by rw [mpT, if_neg c0, if_pos rfl, if_neg (fun z => h62 z.1)]; rfl, rfl⟩ | exact ⟨by rw [mpT, if_neg c0, if_pos rfl, if_neg (fun z => h69 z.2)]; rfl, rfl⟩ | exact ⟨by rw [mpT, if_neg c0, if_pos rfl, if_pos ⟨h62, h69⟩]; rfl, rfl⟩
      · refine E_bipush (v := nI 42) d_TM_partOf_72 (by decide) ?_
        refine E_goto 78 d_TM_partOf_74 rfl ?_
        refine E_retI d_TM_partOf_78 rfl ?_
        first | exact ⟨by rw [mpT, if_neg c0, if_pos rfl, if_neg (fun z => h62 z.1)]; rfl, rfl⟩ | exact ⟨by rw [mpT, if_neg c0, if_pos rfl, if_neg (fun z => h69 z.2)]; rfl, rfl⟩ | exact ⟨by rw [mpT, if_neg c0, if_pos rfl, if_pos ⟨h62, h69⟩]; rfl, rfl⟩
  by_cases c2 : o = 42
  · subst c2
    show E 3 0 0 Y_TM_partOf 0 [some (.ref 0), some (.int (nI 42))] [] GM M _
    refine E_iload_n d_TM_partOf_0 rfl ?_
    refine E_tableIn 79 d_TM_partOf_1 (by decide) (by decide) (by first | rfl | decide) rfl ?_
    first | refine E_aload_n d_TM_partOf_79 rfl ?_ | refine E_aload_nN d_TM_partOf_79 rfl ?_
    refine E_bipush (v := nI 101) d_TM_partOf_80 (by decide) ?_
    refine E_bipush (v := nI 108) d_TM_partOf_82 (by decide) ?_
    refine E_bipush (v := nI 115) d_TM_partOf_84 (by decide) ?_
    refine E_bipush (v := nI 101) d_TM_partOf_86 (by decide) ?_
    refine E_S4 (sp_TM_w4 101 108 115 101 1701606245 (by decide) (by decide)) d_TM_partOf_88 ml_TM_124 cb_TM_w4 cs_TM_w4 ⟨by decide, by decide⟩ rfl (Nat.le_of_ble_eq_true rfl) (Nat.le_of_ble_eq_true rfl) (kL fun r1 M1 hc => ?_)
    obtain ⟨rfl, rfl⟩ := hc
    refine E_V1 (i14) d_TM_partOf_91 ml_TM_183 cb_TM_isWord cv_TM_isWord (by exact ⟨by decide, rfl⟩) ⟨by decide, rfl⟩ ⟨by decide, by decide⟩ rfl (Nat.le_of_ble_eq_true rfl) (Nat.le_of_ble_eq_true rfl) (kI fun r1 M1 hc => ?_)
    obtain ⟨rfl, rfl⟩ := hc
    first | (with_reducible refine E_isP ?_; refine E_if_eq 102 d_TM_partOf_94 rfl (pb_0 fun h94 => ?_) (pb_1 fun h94 => ?_)) | (with_reducible refine E_isN1 ?_; refine E_if_eq 102 d_TM_partOf_94 rfl (nz_eq (by omega) fun h94 => ?_) (nz_ne fun h94 => ?_)) | refine E_if_eq 102 d_TM_partOf_94 rfl (fun h94 => ?_) (fun h94 => ?_)
    · refine E_iconst (v := (-1)) d_TM_partOf_102 rfl ?_
      refine E_retI d_TM_partOf_103 rfl ?_
      first | exact ⟨by rw [mpT, if_neg c0, if_neg c1, if_pos rfl, if_neg h94]; rfl, rfl⟩ | exact ⟨by rw [mpT, if_neg c0, if_neg c1, if_pos rfl, if_pos h94]; rfl, rfl⟩
    · refine E_bipush (v := nI 43) d_TM_partOf_97 (by decide) ?_
      refine E_goto 103 d_TM_partOf_99 rfl ?_
      refine E_retI d_TM_partOf_103 rfl ?_
      first | exact ⟨by rw [mpT, if_neg c0, if_neg c1, if_pos rfl, if_neg h94]; rfl, rfl⟩ | exact ⟨by rw [mpT, if_neg c0, if_neg c1, if_pos rfl, if_pos h94]; rfl, rfl⟩
  by_cases c3 : o = 43
  · subst c3
    show E 3 0 0 Y_TM_partOf 0 [some (.ref 0), some (.int (nI 43))] [] GM M _
    refine E_iload_n d_TM_partOf_0 rfl ?_
    refine E_tableIn 104 d_TM_partOf_1 (by decide) (by decide) (by first | rfl | decide) rfl ?_
    first | refine E_aload_n d_TM_partOf_104 rfl ?_ | refine E_aload_nN d_TM_partOf_104 rfl ?_
    refine E_bipush (v := nI 101) d_TM_partOf_105 (by decide) ?_
    refine E_bipush (v := nI 110) d_TM_partOf_107 (by decide) ?_
    refine E_bipush (v := nI 100) d_TM_partOf_109 (by decide) ?_
    refine E_S3 (sp_TM_w3 101 110 100 6647396 (by decide) (by decide)) d_TM_partOf_111 ml_TM_120 cb_TM_w3 cs_TM_w3 ⟨by decide, by decide⟩ rfl (Nat.le_of_ble_eq_true rfl) (Nat.le_of_ble_eq_true rfl) (kL fun r1 M1 hc => ?_)
    obtain ⟨rfl, rfl⟩ := hc
    refine E_V1 (i15) d_TM_partOf_114 ml_TM_183 cb_TM_isWord cv_TM_isWord (by exact ⟨by decide, rfl⟩) ⟨by decide, rfl⟩ ⟨by decide, by decide⟩ rfl (Nat.le_of_ble_eq_true rfl) (Nat.le_of_ble_eq_true rfl) (kI fun r1 M1 hc => ?_)
    obtain ⟨rfl, rfl⟩ := hc
    first | (with_reducible refine E_isP ?_; refine E_if_eq 124 d_TM_partOf_117 rfl (pb_0 fun h117 => ?_) (pb_1 fun h117 => ?_)) | (with_reducible refine E_isN1 ?_; refine E_if_eq 124 d_TM_partOf_117 rfl (nz_eq (by omega) fun h117 => ?_) (nz_ne fun h117 => ?_)) | refine E_if_eq 124 d_TM_partOf_117 rfl (fun h117 => ?_) (fun h117 => ?_)
    · refine E_iconst (v := (-1)) d_TM_partOf_124 rfl ?_
      refine E_retI d_TM_partOf_125 rfl ?_
      first | exact ⟨by rw [mpT, if_neg c0, if_neg c1, if_neg c2, if_pos rfl, if_neg h117]; rfl, rfl⟩ | exact ⟨by rw [mpT, if_neg c0, if_neg c1, if_neg c2, if_pos rfl, if_pos h117]; rfl, rfl⟩
    · refine E_iconst (v := nI 0) d_TM_partOf_120 rfl ?_
      refine E_goto 125 d_TM_partOf_121 rfl ?_
      refine E_retI d_TM_partOf_125 rfl ?_
      first | exact ⟨by rw [mpT, if_neg c0, if_neg c1, if_neg c2, if_pos rfl, if_neg h117]; rfl, rfl⟩ | exact ⟨by rw [mpT, if_neg c0, if_neg c1, if_neg c2, if_pos rfl, if_pos h117]; rfl, rfl⟩
  · have e : mpT o p S = 0 := by rw [mpT, if_neg c0, if_neg c1, if_neg c2, if_neg c3]
    have hn : ¬ ((40 : Int) ≤ (wO o).toInt ∧ (wO o).toInt ≤ 43) := by
      unfold wO
      by_cases q : o = 0
      · rw [if_pos q]; decide
      · rw [if_neg q, nI_toInt (by omega)]; omega
    rw [e]
    refine E_iload_n d_TM_partOf_0 rfl ?_
    refine E_tableOut 126 d_TM_partOf_1 (by omega) rfl ?_
    refine E_iconst (v := (-1)) d_TM_partOf_126 rfl ?_
    refine E_retI d_TM_partOf_127 rfl ?_
    exact ⟨rfl, rfl⟩
end MQe
