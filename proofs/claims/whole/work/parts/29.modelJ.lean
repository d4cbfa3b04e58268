theorem rowN_le {g : Nat → Nat} (hg : ∀ p, g p ≤ 10) : ∀ p i, rowN g p i ≤ 10 ^ p := by
  intro p
  induction p with
  | zero => intro i; rw [rowN]; split <;> decide
  | succ p ih =>
    have h10 : 10 ^ (p + 1) = 10 ^ p * (10 - g p) + 10 ^ p * g p := by
      rw [← Nat.mul_add, Nat.pow_succ, Nat.sub_add_cancel (hg p)]
    intro i
    cases i with
    | zero =>
      rw [rowN, h10]
      exact Nat.le_trans (Nat.mul_le_mul_right _ (ih 0)) (Nat.le_add_right _ _)
    | succ i =>
      rw [rowN, h10]
      exact Nat.add_le_add (Nat.mul_le_mul_right _ (ih (i + 1))) (Nat.mul_le_mul_right _ (ih i))
theorem tenN_le {c : Cr} {y : Nat} (hy : y ≤ 10) (p : Nat) : tenN c y p ≤ 10 := by unfold tenN; split <;> omega
theorem pow10_tab : ∀ n, n < 9 → 10 ^ n ≤ 100000000 := by decide +kernel
theorem pow10_le {n : Nat} (h : n ≤ 8) : 10 ^ n ≤ 100000000 := pow10_tab n (Nat.lt_succ_of_le h)
def HW (M : Mem) (g : Nat → Nat) : Prop := ∀ j, j < 9 → mL M 13 j = lN (g j)
theorem HW.up {M : Mem} {g g' : Nat → Nat} {i : Nat} {x : Int64} (h : HW M g) (e : x = lN (g' i)) (hg : ∀ j, j ≠ i → g' j = g j) : HW (wL M 13 i x) g' := by
  intro j hj
  rw [mL_wL]
  by_cases q : j = i
  · rw [if_pos ⟨rfl, q⟩, q, e]
  · rw [if_neg (fun r => q r.2), h j hj, hg j q]
theorem lp_TM_sure3 {c : Cr} {M0 : Mem} {g : Nat → Nat} {p x y s al : Nat} {z : Int32} {Q : Option Value → Geo → Mem → Prop} (hg : g p ≤ 10) 
    (K : ∀ M, HM c M → Sx SQ M0 M → HW M (rowN g (p + 1)) → E 6 0 0 Y_TM_sure 157 [some (.ref 0), some (.int (nI x)), some (.int (nI y)), some (.int z), some (.int (nI s)), some (.long (lN al)), none, some (.int (nI p)), none, none] [] GM M Q) :
    ∀ k, k ≤ 9 → ∀ M, HM c M → Sx SQ M0 M → HW M (fun j => if j < k then rowN g p j else rowN g (p + 1) j) → E 6 0 0 Y_TM_sure 102 [some (.ref 0), some (.int (nI x)), some (.int (nI y)), some (.int z), some (.int (nI s)), some (.long (lN al)), none, some (.int (nI p)), some (.int (nI (g p))), some (.int (pM k))] [] GM M Q := by
  intro k
  induction k with
  | zero =>
    intro hk M hM hX hW
    have hR := hM.R
    rw [show pM 0 = -1 from rfl]
    refine E_iload d_TM_sure_102 rfl ?_
    first | (with_reducible refine E_isN1 ?_; refine E_if_lt 157 d_TM_sure_104 rfl (nz_lt (by omega) fun h104 => ?_) (nz_nlt (by omega) fun h104 => ?_)) | refine E_if_lt 157 d_TM_sure_104 rfl (fun h104 => ?_) (fun h104 => ?_)
    rotate_left
    · exfalso; exact h104 (by decide)
    refine E_wk ?_ (K M hM hX (fun j hj => by rw [hW j hj]; rfl)); exact ⟨Or.inl rfl, Or.inl rfl, Or.inl rfl, Or.inl rfl, Or.inl rfl, Or.inl rfl, Or.inl rfl, Or.inl rfl, Or.inr rfl, Or.inr rfl, trivial⟩
  | succ i ih =>
    intro hk M hM hX hW
    have hR := hM.R
    rw [show pM (i + 1) = nI i from rfl]
    have r1 : mL M 13 i = lN (rowN g p i) := (hW i (by omega)).trans (congrArg lN (if_pos (Nat.lt_succ_self i)))
    have r2 : 0 < i → mL M 13 (i - 1) = lN (rowN g p (i - 1)) := fun h => (hW (i - 1) (by omega)).trans (congrArg lN (if_pos (show i - 1 < i + 1 by omega)))
    have up : ∀ v, v = rowN g (p + 1) i → HM c (wL M 13 i (lN v)) ∧ Sx SQ M0 (wL M 13 i (lN v)) ∧ HW (wL M 13 i (lN v)) (fun j => if j < i then rowN g p j else rowN g (p + 1) j) := fun v hv =>
      ⟨hM.sx (Sx.rf.wL (by unfold SQ; decide)), hX.wL (by unfold SQ; decide), hW.up (by rw [hv, if_neg (Nat.lt_irrefl i)]) (fun j hj => by
        show (if j < i then _ else _) = if j < i + 1 then _ else _
        by_cases q : j < i
        · rw [if_pos q, if_pos (Nat.lt_succ_of_lt q)]
        · rw [if_neg q, if_neg (by omega)])⟩
    have u1 : 0 < i → rowN g p i * (10 - g p) + rowN g p (i - 1) * g p = rowN g (p + 1) i := fun h => by
      obtain ⟨n, rfl⟩ : ∃ n, i = n + 1 := ⟨i - 1, by omega⟩
      rfl
    have u0 : i ≤ 0 → rowN g p i * (10 - g p) + 0 = rowN g (p + 1) i := fun h => by
      have h0 : i = 0 := by omega
      subst h0
      rfl
    refine E_iload d_TM_sure_102 rfl ?_
    first | (with_reducible refine E_isN1 ?_; refine E_if_lt 157 d_TM_sure_104 rfl (nz_lt (by omega) fun h104 => ?_) (nz_nlt (by omega) fun h104 => ?_)) | refine E_if_lt 157 d_TM_sure_104 rfl (fun h104 => ?_) (fun h104 => ?_)
    · exfalso; omega
    first | refine E_aload_n d_TM_sure_107 rfl ?_ | refine E_aload_nN d_TM_sure_107 rfl ?_
    refine E_getR (q := 13) d_TM_sure_108 gf_TM_59 (by exact ⟨by decide, rfl⟩) (by exact hR _ rfl) ?_
    refine E_iload d_TM_sure_111 rfl ?_
    first | refine E_aload_n d_TM_sure_113 rfl ?_ | refine E_aload_nN d_TM_sure_113 rfl ?_
    refine E_getR (q := 13) d_TM_sure_114 gf_TM_59 (by exact ⟨by decide, rfl⟩) (by exact hR _ rfl) ?_
    refine E_iload d_TM_sure_117 rfl ?_
    refine E_lald d_TM_sure_119 (by exact ⟨by decide, rfl⟩) (by exact ⟨by with_reducible rfl, by omega, by decide⟩) (by exact r1) ?_
    refine E_bipush (v := nI 10) d_TM_sure_120 (by decide) ?_
    refine E_iload d_TM_sure_122 rfl ?_
    first | (with_reducible refine E_isN2 ?_; refine E_isubN d_TM_sure_124 (by omega) ?_) | refine E_isub d_TM_sure_124 ?_
    first | (with_reducible refine E_isN1 ?_; refine E_i2lN d_TM_sure_125 (by omega) ?_) | refine E_i2l d_TM_sure_125 ?_
    first | (with_reducible refine E_isM2 ?_; refine E_lmulN d_TM_sure_126 ?_) | refine E_lmul d_TM_sure_126 ?_
    refine E_iload d_TM_sure_127 rfl ?_
    first | (with_reducible refine E_isN1 ?_; refine E_if_le 148 d_TM_sure_129 rfl (nz_le (by omega) fun h129 => ?_) (nz_nle (by omega) fun h129 => ?_)) | refine E_if_le 148 d_TM_sure_129 rfl (fun h129 => ?_) (fun h129 => ?_)
    · refine E_lconst (v := lN 0) d_TM_sure_148 rfl ?_
      first | (with_reducible refine E_isM2 ?_; refine E_laddN d_TM_sure_149 ?_) | refine E_ladd d_TM_sure_149 ?_
      refine E_last d_TM_sure_150 (by exact ⟨by decide, rfl⟩) (by exact ⟨by with_reducible rfl, by omega, by decide⟩) ?_
      first | (with_reducible refine E_isL9 ?_; refine E_iincD9 (m := 1) d_TM_sure_151 (by decide) (by omega) rfl ?_) | refine E_iinc_9 d_TM_sure_151 rfl rfl ?_
      refine E_goto 102 d_TM_sure_154 rfl ?_
      first | (have hu := up _ (u1 h129); exact E_eqL (by first | rw [pM_dec] | rw [pM_pred h129]) (ih (by omega) _ hu.1 hu.2.1 hu.2.2)) | (have hu := up _ (u0 h129); exact E_eqL (by rw [pM_dec]) (ih (by omega) _ hu.1 hu.2.1 hu.2.2))
    · first | refine E_aload_n d_TM_sure_132 rfl ?_ | refine E_aload_nN d_TM_sure_132 rfl ?_
      refine E_getR (q := 13) d_TM_sure_133 gf_TM_59 (by exact ⟨by decide, rfl⟩) (by exact hR _ rfl) ?_
      refine E_iload d_TM_sure_136 rfl ?_
      refine E_iconst (v := nI 1) d_TM_sure_138 rfl ?_
      first | (with_reducible refine E_isN2 ?_; refine E_isubN d_TM_sure_139 (by omega) ?_) | refine E_isub d_TM_sure_139 ?_
      refine E_lald d_TM_sure_140 (by exact ⟨by decide, rfl⟩) (by exact ⟨by with_reducible rfl, by omega, by decide⟩) (by first | exact r1 | exact r2 (by omega)) ?_
      refine E_iload d_TM_sure_141 rfl ?_
      first | (with_reducible refine E_isN1 ?_; refine E_i2lN d_TM_sure_143 (by omega) ?_) | refine E_i2l d_TM_sure_143 ?_
      first | (with_reducible refine E_isM2 ?_; refine E_lmulN d_TM_sure_144 ?_) | refine E_lmul d_TM_sure_144 ?_
      refine E_goto 149 d_TM_sure_145 rfl ?_
      first | (with_reducible refine E_isM2 ?_; refine E_laddN d_TM_sure_149 ?_) | refine E_ladd d_TM_sure_149 ?_
      refine E_last d_TM_sure_150 (by exact ⟨by decide, rfl⟩) (by exact ⟨by with_reducible rfl, by omega, by decide⟩) ?_
      first | (with_reducible refine E_isL9 ?_; refine E_iincD9 (m := 1) d_TM_sure_151 (by decide) (by omega) rfl ?_) | refine E_iinc_9 d_TM_sure_151 rfl rfl ?_
      refine E_goto 102 d_TM_sure_154 rfl ?_
      first | (have hu := up _ (u1 h129); exact E_eqL (by first | rw [pM_dec] | rw [pM_pred h129]) (ih (by omega) _ hu.1 hu.2.1 hu.2.2)) | (have hu := up _ (u0 h129); exact E_eqL (by rw [pM_dec]) (ih (by omega) _ hu.1 hu.2.1 hu.2.2))
theorem lp_TM_sure2 {c : Cr} {M0 : Mem} {x y : Nat} {z : Int32} (hp8 : c.now.people ≤ 8) (hx : x < 9) (hy : y ≤ 10) :
    ∀ k p, p + k = c.now.people → ∀ M, HM c M → Sx SQ M0 M → HW M (rowN (tenN c y) p) → E 6 0 0 Y_TM_sure 76 [some (.ref 0), some (.int (nI x)), some (.int (nI y)), some (.int z), some (.int (nI (yesN c c.now.figure))), some (.long (lN (10 ^ p))), none, some (.int (nI p)), none, none] [] GM M (QL GM fun r M' => r = lowest (rowN (tenN c y) c.now.people x) (10 ^ c.now.people) z ∧ Sx SQ M0 M') := by
  have hp10 := pow10_le hp8
  have hpos := Nat.pow_pos (n := c.now.people) (show 0 < 10 by decide)
  have hrow := rowN_le (tenN_le (c := c) hy) c.now.people x
  have hy512 := yes512 hp8 c.now.figure
  intro k
  induction k with
  | zero =>
    intro p hp M hM hX hW
    have hR := hM.R
    have hA := hM.A
    have hp2 : p = c.now.people := by omega
    subst hp2
    refine E_iload d_TM_sure_76 rfl ?_
    first | refine E_aload_n d_TM_sure_78 rfl ?_ | refine E_aload_nN d_TM_sure_78 rfl ?_
    refine E_getR (q := 1) d_TM_sure_79 gf_TM_7 (by exact ⟨by decide, rfl⟩) (by exact hR _ rfl) ?_
    refine E_iconst (v := nI 0) d_TM_sure_82 rfl ?_
    refine E_iald d_TM_sure_83 (by exact ⟨by decide, rfl⟩) (by exact ⟨by with_reducible rfl, by omega, by decide⟩) (by first | exact hA.people | exact hA.figure | exact hA.lean (by omega) | exact hN _ (by omega) | rfl) ?_
    first | (with_reducible refine E_isN2 ?_; refine E_icmp_ge 171 d_TM_sure_84 rfl (nb_le (by omega) (by omega) fun h84 => ?_) (nb_nle (by omega) (by omega) fun h84 => ?_)) | refine E_icmp_ge 171 d_TM_sure_84 rfl (fun h84 => ?_) (fun h84 => ?_)
    rotate_left
    · exfalso; omega
    first | refine E_aload_n d_TM_sure_171 rfl ?_ | refine E_aload_nN d_TM_sure_171 rfl ?_
    refine E_getR (q := 13) d_TM_sure_172 gf_TM_59 (by exact ⟨by decide, rfl⟩) (by exact hR _ rfl) ?_
    refine E_iload_n d_TM_sure_175 rfl ?_
    refine E_lald d_TM_sure_176 (by exact ⟨by decide, rfl⟩) (by exact ⟨by with_reducible rfl, by omega, by decide⟩) (by exact hW _ hx) ?_
    refine E_lload d_TM_sure_177 rfl ?_
    refine E_iload_n d_TM_sure_179 rfl ?_
    refine E_S3 (sp_TM_part0 (by omega) (by omega) hpos) d_TM_sure_180 ml_TM_412 cb_TM_part0 cs_TM_part0 ⟨by decide, by decide⟩ rfl (Nat.le_of_ble_eq_true rfl) (Nat.le_of_ble_eq_true rfl) (kL fun r1 M1 hc => ?_)
    obtain ⟨rfl, rfl⟩ := hc
    refine E_retL d_TM_sure_183 rfl ?_
    exact ⟨rfl, hX⟩
  | succ k ih =>
    intro p hp M hM hX hW
    have hR := hM.R
    have hA := hM.A
    have ht := tenN_le (c := c) hy p
    have eT : (if (yesN c c.now.figure).testBit p = true then 10 - y else y) = tenN c y p := rfl
    have K : ∀ M, HM c M → Sx SQ M0 M → HW M (rowN (tenN c y) (p + 1)) → E 6 0 0 Y_TM_sure 157 [some (.ref 0), some (.int (nI x)), some (.int (nI y)), some (.int z), some (.int (nI (yesN c c.now.figure))), some (.long (lN (10 ^ p))), none, some (.int (nI p)), none, none] [] GM M (QL GM fun r M' => r = lowest (rowN (tenN c y) c.now.people x) (10 ^ c.now.people) z ∧ Sx SQ M0 M') := by
      intro M hM hX hW
      refine E_lload d_TM_sure_157 rfl ?_
      refine E_ldc2 (v := lN 10) d_TM_sure_159 kc_TM_410 ?_
      first | (with_reducible refine E_isM2 ?_; refine E_lmulN d_TM_sure_162 ?_) | refine E_lmul d_TM_sure_162 ?_
      refine E_lstore_5 d_TM_sure_163 rfl ?_
      first | (with_reducible refine E_isL7 ?_; refine E_iincN7 (m := 1) d_TM_sure_165 rfl rfl ?_) | refine E_iinc_7 d_TM_sure_165 rfl rfl ?_
      refine E_goto 76 d_TM_sure_168 rfl ?_
      exact ih (p + 1) (by omega) M hM hX hW
    refine E_iload d_TM_sure_76 rfl ?_
    first | refine E_aload_n d_TM_sure_78 rfl ?_ | refine E_aload_nN d_TM_sure_78 rfl ?_
    refine E_getR (q := 1) d_TM_sure_79 gf_TM_7 (by exact ⟨by decide, rfl⟩) (by exact hR _ rfl) ?_
    refine E_iconst (v := nI 0) d_TM_sure_82 rfl ?_
    refine E_iald d_TM_sure_83 (by exact ⟨by decide, rfl⟩) (by exact ⟨by with_reducible rfl, by omega, by decide⟩) (by first | exact hA.people | exact hA.figure | exact hA.lean (by omega) | exact hN _ (by omega) | rfl) ?_
    first | (with_reducible refine E_isN2 ?_; refine E_icmp_ge 171 d_TM_sure_84 rfl (nb_le (by omega) (by omega) fun h84 => ?_) (nb_nle (by omega) (by omega) fun h84 => ?_)) | refine E_icmp_ge 171 d_TM_sure_84 rfl (fun h84 => ?_) (fun h84 => ?_)
    · exfalso; omega
    first | refine E_aload_n d_TM_sure_87 rfl ?_ | refine E_aload_nN d_TM_sure_87 rfl ?_
    refine E_iload d_TM_sure_88 rfl ?_
    refine E_iload d_TM_sure_90 rfl ?_
    refine E_iload_n d_TM_sure_92 rfl ?_
    refine E_V3 (sp_TM_tenths (by omega) (by omega) hy) d_TM_sure_93 ml_TM_407 cb_TM_tenths cv_TM_tenths (by exact ⟨by decide, rfl⟩) ⟨by decide, rfl⟩ ⟨by decide, by decide⟩ rfl (Nat.le_of_ble_eq_true rfl) (Nat.le_of_ble_eq_true rfl) (kI fun r1 M1 hc => ?_)
    obtain ⟨rfl, rfl⟩ := hc; rw [eT]
    refine E_istore_8 d_TM_sure_96 rfl ?_
    refine E_bipush (v := nI 8) d_TM_sure_98 (by decide) ?_
    refine E_istore_9 d_TM_sure_100 rfl ?_
    refine E_wk ?_ (lp_TM_sure3 ht K 9 (Nat.le_refl _) _ hM hX (fun j hj => (hW j hj).trans (congrArg lN (if_pos hj).symm))); exact ⟨Or.inl rfl, Or.inl rfl, Or.inl rfl, Or.inl rfl, Or.inl rfl, Or.inl rfl, Or.inl rfl, Or.inl rfl, Or.inl rfl, Or.inl rfl, trivial⟩
theorem lp_TM_sure1 {c : Cr} {M0 : Mem} {x y : Nat} {z : Int32} {Q : Option Value → Geo → Mem → Prop}
    (K : ∀ M, HM c M → Sx SQ M0 M → HW M (rowN (tenN c y) 0) → E 6 0 0 Y_TM_sure 70 [some (.ref 0), some (.int (nI x)), some (.int (nI y)), some (.int z), some (.int (nI (yesN c c.now.figure))), none, none, none, none, none] [] GM M Q) :
    ∀ k i, i + k = 9 → ∀ M, HM c M → Sx SQ M0 M → (∀ j, j < i → mL M 13 j = lN (rowN (tenN c y) 0 j)) → E 6 0 0 Y_TM_sure 40 [some (.ref 0), some (.int (nI x)), some (.int (nI y)), some (.int z), some (.int (nI (yesN c c.now.figure))), some (.int (nI i)), none, none, none, none] [] GM M Q := by
  intro k
  induction k with
  | zero =>
    intro i hi M hM hX hW
    have hR := hM.R
    refine E_iload d_TM_sure_40 rfl ?_
    refine E_bipush (v := nI 9) d_TM_sure_42 (by decide) ?_
    first | (with_reducible refine E_isN2 ?_; refine E_icmp_ge 70 d_TM_sure_44 rfl (nb_le (by omega) (by omega) fun h44 => ?_) (nb_nle (by omega) (by omega) fun h44 => ?_)) | refine E_icmp_ge 70 d_TM_sure_44 rfl (fun h44 => ?_) (fun h44 => ?_)
    rotate_left
    · exfalso; omega
    refine E_wk ?_ (K M hM hX (fun j hj => hW j (by omega))); exact ⟨Or.inl rfl, Or.inl rfl, Or.inl rfl, Or.inl rfl, Or.inl rfl, Or.inr rfl, Or.inl rfl, Or.inl rfl, Or.inl rfl, Or.inl rfl, trivial⟩
  | succ k ih =>
    intro i hi M hM hX hW
    have hR := hM.R
    have up : ∀ v, v = rowN (tenN c y) 0 i → HM c (wL M 13 i (lN v)) ∧ Sx SQ M0 (wL M 13 i (lN v)) ∧ (∀ j, j < i + 1 → mL (wL M 13 i (lN v)) 13 j = lN (rowN (tenN c y) 0 j)) := fun v hv =>
      ⟨hM.sx (Sx.rf.wL (by unfold SQ; decide)), hX.wL (by unfold SQ; decide), fun j hj => by
        rw [mL_wL]
        by_cases q : j = i
        · rw [if_pos ⟨rfl, q⟩, q, hv]
        · rw [if_neg (fun r => q r.2), hW j (by omega)]⟩
    have u0 : i = 0 → 1 = rowN (tenN c y) 0 i := fun h => by rw [h]; rfl
    have u1 : i ≠ 0 → 0 = rowN (tenN c y) 0 i := fun h => by rw [rowN, if_neg h]
    refine E_iload d_TM_sure_40 rfl ?_
    refine E_bipush (v := nI 9) d_TM_sure_42 (by decide) ?_
    first | (with_reducible refine E_isN2 ?_; refine E_icmp_ge 70 d_TM_sure_44 rfl (nb_le (by omega) (by omega) fun h44 => ?_) (nb_nle (by omega) (by omega) fun h44 => ?_)) | refine E_icmp_ge 70 d_TM_sure_44 rfl (fun h44 => ?_) (fun h44 => ?_)
    · exfalso; omega
    first | refine E_aload_n d_TM_sure_47 rfl ?_ | refine E_aload_nN d_TM_sure_47 rfl ?_
    refine E_getR (q := 13) d_TM_sure_48 gf_TM_59 (by exact ⟨by decide, rfl⟩) (by exact hR _ rfl) ?_
    refine E_iload d_TM_sure_51 rfl ?_
    refine E_iload d_TM_sure_53 rfl ?_
    first | (with_reducible refine E_isP ?_; refine E_if_ne 62 d_TM_sure_55 rfl (pb_1 fun h55 => ?_) (pb_0 fun h55 => ?_)) | (with_reducible refine E_isN1 ?_; refine E_if_ne 62 d_TM_sure_55 rfl (nz_ne fun h55 => ?_) (nz_eq (by omega) fun h55 => ?_)) | refine E_if_ne 62 d_TM_sure_55 rfl (fun h55 => ?_) (fun h55 => ?_)
    · refine E_lconst (v := lN 0) d_TM_sure_62 rfl ?_
      refine E_last d_TM_sure_63 (by exact ⟨by decide, rfl⟩) (by exact ⟨by with_reducible rfl, by omega, by decide⟩) ?_
      first | (with_reducible refine E_isL5 ?_; refine E_iincN5 (m := 1) d_TM_sure_64 rfl rfl ?_) | refine E_iinc_5 d_TM_sure_64 rfl rfl ?_
      refine E_goto 40 d_TM_sure_67 rfl ?_
      first | (have hu := up 1 (u0 h55); exact ih (i + 1) (by omega) _ hu.1 hu.2.1 hu.2.2) | (have hu := up 0 (u1 h55); exact ih (i + 1) (by omega) _ hu.1 hu.2.1 hu.2.2)
    · refine E_lconst (v := lN 1) d_TM_sure_58 rfl ?_
      refine E_goto 63 d_TM_sure_59 rfl ?_
      refine E_last d_TM_sure_63 (by exact ⟨by decide, rfl⟩) (by exact ⟨by with_reducible rfl, by omega, by decide⟩) ?_
      first | (with_reducible refine E_isL5 ?_; refine E_iincN5 (m := 1) d_TM_sure_64 rfl rfl ?_) | refine E_iinc_5 d_TM_sure_64 rfl rfl ?_
      refine E_goto 40 d_TM_sure_67 rfl ?_
      first | (have hu := up 1 (u0 h55); exact ih (i + 1) (by omega) _ hu.1 hu.2.1 hu.2.2) | (have hu := up 0 (u1 h55); exact ih (i + 1) (by omega) _ hu.1 hu.2.1 hu.2.2)
theorem sp_TM_sure {c : Cr} {M : Mem} (hM : HM c M) (x y z : Int32) : E 6 0 0 Y_TM_sure 0 [some (.ref 0), some (.int x), some (.int y), some (.int z), none, none, none, none, none, none] [] GM M (QL GM fun r M' => r = ans_sure c x y z ∧ Sx SQ M M') := by
  have hp8 := hM.w.p8
  have hR := hM.R
  have hA := hM.A
  revert x y
  refine args2 9 11 (fun x y hx hxn ht hy hyn ht2 => ?_) (fun x y hx => ?_) (fun x y hx hy => ?_)
  · have K : ∀ M1, HM c M1 → Sx SQ M M1 → HW M1 (rowN (tenN c y) 0) → E 6 0 0 Y_TM_sure 70 [some (.ref 0), some (.int (nI x)), some (.int (nI y)), some (.int z), some (.int (nI (yesN c c.now.figure))), none, none, none, none, none] [] GM M1 (QL GM fun r M' => r = ans_sure c (nI x) (nI y) z ∧ Sx SQ M M') := by
      intro M1 hM1 hX hW
      have L := lp_TM_sure2 (z := z) hp8 hx (show y ≤ 10 by omega) c.now.people 0 (Nat.zero_add _) M1 hM1 hX hW
      refine E_lconst (v := lN 1) d_TM_sure_70 rfl ?_
      refine E_lstore_5 d_TM_sure_71 rfl ?_
      refine E_iconst (v := nI 0) d_TM_sure_73 rfl ?_
      refine E_istore_7 d_TM_sure_74 rfl ?_
      exact E_mono L (fun _ _ _ h => ⟨h.1, h.2.choose, h.2.choose_spec.1, h.2.choose_spec.2.1.trans (by rw [ans_sure, if_pos ⟨hxn, hyn⟩, ht, ht2]), h.2.choose_spec.2.2⟩)
    refine E_iload_n d_TM_sure_0 rfl ?_
    refine E_iconst (v := nI 0) d_TM_sure_1 rfl ?_
    refine E_bipush (v := nI 8) d_TM_sure_2 (by decide) ?_
    refine E_S3 (sp_TM_in _ 8 (by decide)) d_TM_sure_4 ml_TM_69 cb_TM_isIn cs_TM_isIn ⟨by decide, by decide⟩ rfl (Nat.le_of_ble_eq_true rfl) (Nat.le_of_ble_eq_true rfl) (kI fun r1 M1 hc => ?_)
    obtain ⟨rfl, rfl⟩ := hc
    first | (with_reducible refine E_isP ?_; refine E_if_eq 20 d_TM_sure_7 rfl (pb_0 fun h7 => ?_) (pb_1 fun h7 => ?_)) | (with_reducible refine E_isN1 ?_; refine E_if_eq 20 d_TM_sure_7 rfl (nz_eq (by omega) fun h7 => ?_) (nz_ne fun h7 => ?_)) | refine E_if_eq 20 d_TM_sure_7 rfl (fun h7 => ?_) (fun h7 => ?_)
    · exfalso; exact h7 hxn
    refine E_iload_n d_TM_sure_10 rfl ?_
    refine E_iconst (v := nI 0) d_TM_sure_11 rfl ?_
    refine E_bipush (v := nI 10) d_TM_sure_12 (by decide) ?_
    refine E_S3 (sp_TM_in _ 10 (by decide)) d_TM_sure_14 ml_TM_69 cb_TM_isIn cs_TM_isIn ⟨by decide, by decide⟩ rfl (Nat.le_of_ble_eq_true rfl) (Nat.le_of_ble_eq_true rfl) (kI fun r1 M1 hc => ?_)
    obtain ⟨rfl, rfl⟩ := hc
    first | (with_reducible refine E_isP ?_; refine E_if_ne 24 d_TM_sure_17 rfl (pb_1 fun h17 => ?_) (pb_0 fun h17 => ?_)) | (with_reducible refine E_isN1 ?_; refine E_if_ne 24 d_TM_sure_17 rfl (nz_ne fun h17 => ?_) (nz_eq (by omega) fun h17 => ?_)) | refine E_if_ne 24 d_TM_sure_17 rfl (fun h17 => ?_) (fun h17 => ?_)
    rotate_left
    · exfalso; exact h17 hyn
    first | refine E_aload_n d_TM_sure_24 rfl ?_ | refine E_aload_nN d_TM_sure_24 rfl ?_
    first | refine E_aload_n d_TM_sure_25 rfl ?_ | refine E_aload_nN d_TM_sure_25 rfl ?_
    refine E_getR (q := 1) d_TM_sure_26 gf_TM_7 (by exact ⟨by decide, rfl⟩) (by exact hR _ rfl) ?_
    refine E_bipush (v := nI 7) d_TM_sure_29 (by decide) ?_
    refine E_iald d_TM_sure_31 (by exact ⟨by decide, rfl⟩) (by exact ⟨by with_reducible rfl, by omega, by decide⟩) (by first | exact hA.people | exact hA.figure | exact hA.lean (by omega) | exact hN _ (by omega) | rfl) ?_
    refine E_V1 (sp_TM_yesTo hM hM.w.fig8) d_TM_sure_32 ml_TM_347 cb_TM_yesTo cv_TM_yesTo (by exact ⟨by decide, rfl⟩) ⟨by decide, rfl⟩ ⟨by decide, by decide⟩ rfl (Nat.le_of_ble_eq_true rfl) (Nat.le_of_ble_eq_true rfl) (kI fun r1 M1 hc => ?_)
    obtain ⟨rfl, hS1⟩ := hc
    have hS1 := hS1.wk fun _ => SY.q
    refine E_istore_4 d_TM_sure_35 rfl ?_
    refine E_iconst (v := nI 0) d_TM_sure_37 rfl ?_
    refine E_istore_5 d_TM_sure_38 rfl ?_
    exact lp_TM_sure1 K 9 0 (by decide) _ (hM.sx hS1) hS1 (fun j hj => absurd hj (Nat.not_lt_zero _))
  · refine E_iload_n d_TM_sure_0 rfl ?_
    refine E_iconst (v := nI 0) d_TM_sure_1 rfl ?_
    refine E_bipush (v := nI 8) d_TM_sure_2 (by decide) ?_
    refine E_S3 (sp_TM_in _ 8 (by decide)) d_TM_sure_4 ml_TM_69 cb_TM_isIn cs_TM_isIn ⟨by decide, by decide⟩ rfl (Nat.le_of_ble_eq_true rfl) (Nat.le_of_ble_eq_true rfl) (kI fun r1 M1 hc => ?_)
    obtain ⟨rfl, rfl⟩ := hc
    first | (with_reducible refine E_isP ?_; refine E_if_eq 20 d_TM_sure_7 rfl (pb_0 fun h7 => ?_) (pb_1 fun h7 => ?_)) | (with_reducible refine E_isN1 ?_; refine E_if_eq 20 d_TM_sure_7 rfl (nz_eq (by omega) fun h7 => ?_) (nz_ne fun h7 => ?_)) | refine E_if_eq 20 d_TM_sure_7 rfl (fun h7 => ?_) (fun h7 => ?_)
    rotate_left
    · exfalso; exact hx h7
    refine E_ldc2 d_TM_sure_20 kc_TM_405 ?_
    refine E_retL d_TM_sure_23 rfl ?_
    exact ⟨by rw [ans_sure, if_neg (fun q => hx q.1)], Sx.rf⟩
  · refine E_iload_n d_TM_sure_0 rfl ?_
    refine E_iconst (v := nI 0) d_TM_sure_1 rfl ?_
    refine E_bipush (v := nI 8) d_TM_sure_2 (by decide) ?_
    refine E_S3 (sp_TM_in _ 8 (by decide)) d_TM_sure_4 ml_TM_69 cb_TM_isIn cs_TM_isIn ⟨by decide, by decide⟩ rfl (Nat.le_of_ble_eq_true rfl) (Nat.le_of_ble_eq_true rfl) (kI fun r1 M1 hc => ?_)
    obtain ⟨rfl, rfl⟩ := hc
    first | (with_reducible refine E_isP ?_; refine E_if_eq 20 d_TM_sure_7 rfl (pb_0 fun h7 => ?_) (pb_1 fun h7 => ?_)) | (with_reducible refine E_isN1 ?_; refine E_if_eq 20 d_TM_sure_7 rfl (nz_eq (by omega) fun h7 => ?_) (nz_ne fun h7 => ?_)) | refine E_if_eq 20 d_TM_sure_7 rfl (fun h7 => ?_) (fun h7 => ?_)
    · exfalso; exact h7 hx
    refine E_iload_n d_TM_sure_10 rfl ?_
    refine E_iconst (v := nI 0) d_TM_sure_11 rfl ?_
    refine E_bipush (v := nI 10) d_TM_sure_12 (by decide) ?_
    refine E_S3 (sp_TM_in _ 10 (by decide)) d_TM_sure_14 ml_TM_69 cb_TM_isIn cs_TM_isIn ⟨by decide, by decide⟩ rfl (Nat.le_of_ble_eq_true rfl) (Nat.le_of_ble_eq_true rfl) (kI fun r1 M1 hc => ?_)
    obtain ⟨rfl, rfl⟩ := hc
    first | (with_reducible refine E_isP ?_; refine E_if_ne 24 d_TM_sure_17 rfl (pb_1 fun h17 => ?_) (pb_0 fun h17 => ?_)) | (with_reducible refine E_isN1 ?_; refine E_if_ne 24 d_TM_sure_17 rfl (nz_ne fun h17 => ?_) (nz_eq (by omega) fun h17 => ?_)) | refine E_if_ne 24 d_TM_sure_17 rfl (fun h17 => ?_) (fun h17 => ?_)
    · exfalso; exact hy h17
    refine E_ldc2 d_TM_sure_20 kc_TM_405 ?_
    refine E_retL d_TM_sure_23 rfl ?_
    exact ⟨by rw [ans_sure, if_neg (fun q => hy q.2)], Sx.rf⟩
theorem sumN_le {g : Nat → Nat} (hg : ∀ p, g p ≤ 10) : ∀ n, sumN g n ≤ 10 * n := by
  intro n
  induction n with
  | zero => exact Nat.le_refl _
  | succ n ih => rw [sumN]; have := hg n; omega
theorem lp_TM_mean {c : Cr} {M0 : Mem} {y : Nat} {z : Int32} (hp8 : c.now.people ≤ 8) (hy : y ≤ 10) :
    ∀ k p, p + k = c.now.people → ∀ M, HM c M → Sx SQ M0 M → E 6 0 0 Y_TM_mean 32 [some (.ref 0), some (.int (nI y)), some (.int z), some (.int (nI (yesN c c.now.figure))), some (.long (lN (sumN (tenN c y) p))), none, some (.int (nI p))] [] GM M (QL GM fun r M' => r = lowest (sumN (tenN c y) c.now.people) 10 z ∧ Sx SQ M0 M') := by
  have hs := sumN_le (tenN_le (c := c) hy) c.now.people
  have hy512 := yes512 hp8 c.now.figure
  intro k
  induction k with
  | zero =>
    intro p hp M hM hX
    have hR := hM.R
    have hA := hM.A
    have hp2 : p = c.now.people := by omega
    subst hp2
    refine E_iload d_TM_mean_32 rfl ?_
    first | refine E_aload_n d_TM_mean_34 rfl ?_ | refine E_aload_nN d_TM_mean_34 rfl ?_
    refine E_getR (q := 1) d_TM_mean_35 gf_TM_7 (by exact ⟨by decide, rfl⟩) (by exact hR _ rfl) ?_
    refine E_iconst (v := nI 0) d_TM_mean_38 rfl ?_
    refine E_iald d_TM_mean_39 (by exact ⟨by decide, rfl⟩) (by exact ⟨by with_reducible rfl, by omega, by decide⟩) (by first | exact hA.people | exact hA.figure | exact hA.lean (by omega) | exact hN _ (by omega) | rfl) ?_
    first | (with_reducible refine E_isN2 ?_; refine E_icmp_ge 63 d_TM_mean_40 rfl (nb_le (by omega) (by omega) fun h40 => ?_) (nb_nle (by omega) (by omega) fun h40 => ?_)) | refine E_icmp_ge 63 d_TM_mean_40 rfl (fun h40 => ?_) (fun h40 => ?_)
    rotate_left
    · exfalso; omega
    refine E_lload d_TM_mean_63 rfl ?_
    refine E_ldc2 (v := lN 10) d_TM_mean_65 kc_TM_410 ?_
    refine E_iload_n d_TM_mean_68 rfl ?_
    refine E_S3 (sp_TM_part0 (by omega) (by omega) (by decide)) d_TM_mean_69 ml_TM_412 cb_TM_part0 cs_TM_part0 ⟨by decide, by decide⟩ rfl (Nat.le_of_ble_eq_true rfl) (Nat.le_of_ble_eq_true rfl) (kL fun r1 M1 hc => ?_)
    obtain ⟨rfl, rfl⟩ := hc
    refine E_retL d_TM_mean_72 rfl ?_
    exact ⟨rfl, hX⟩
  | succ k ih =>
    intro p hp M hM hX
    have hR := hM.R
    have hA := hM.A
    have ht := tenN_le (c := c) hy p
    have eT : (if (yesN c c.now.figure).testBit p = true then 10 - y else y) = tenN c y p := rfl
    refine E_iload d_TM_mean_32 rfl ?_
    first | refine E_aload_n d_TM_mean_34 rfl ?_ | refine E_aload_nN d_TM_mean_34 rfl ?_
    refine E_getR (q := 1) d_TM_mean_35 gf_TM_7 (by exact ⟨by decide, rfl⟩) (by exact hR _ rfl) ?_
    refine E_iconst (v := nI 0) d_TM_mean_38 rfl ?_
    refine E_iald d_TM_mean_39 (by exact ⟨by decide, rfl⟩) (by exact ⟨by with_reducible rfl, by omega, by decide⟩) (by first | exact hA.people | exact hA.figure | exact hA.lean (by omega) | exact hN _ (by omega) | rfl) ?_
    first | (with_reducible refine E_isN2 ?_; refine E_icmp_ge 63 d_TM_mean_40 rfl (nb_le (by omega) (by omega) fun h40 => ?_) (nb_nle (by omega) (by omega) fun h40 => ?_)) | refine E_icmp_ge 63 d_TM_mean_40 rfl (fun h40 => ?_) (fun h40 => ?_)
    · exfalso; omega
    refine E_lload d_TM_mean_43 rfl ?_
    first | refine E_aload_n d_TM_mean_45 rfl ?_ | refine E_aload_nN d_TM_mean_45 rfl ?_
    refine E_iload_n d_TM_mean_46 rfl ?_
    refine E_iload d_TM_mean_47 rfl ?_
    refine E_iload_n d_TM_mean_49 rfl ?_
    refine E_V3 (sp_TM_tenths (by omega) (by omega) hy) d_TM_mean_50 ml_TM_407 cb_TM_tenths cv_TM_tenths (by exact ⟨by decide, rfl⟩) ⟨by decide, rfl⟩ ⟨by decide, by decide⟩ rfl (Nat.le_of_ble_eq_true rfl) (Nat.le_of_ble_eq_true rfl) (kI fun r1 M1 hc => ?_)
    obtain ⟨rfl, rfl⟩ := hc; rw [eT]
    first | (with_reducible refine E_isN1 ?_; refine E_i2lN d_TM_mean_53 (by omega) ?_) | refine E_i2l d_TM_mean_53 ?_
    first | (with_reducible refine E_isM2 ?_; refine E_laddN d_TM_mean_54 ?_) | refine E_ladd d_TM_mean_54 ?_
    refine E_lstore_4 d_TM_mean_55 rfl ?_
    first | (with_reducible refine E_isL6 ?_; refine E_iincN6 (m := 1) d_TM_mean_57 rfl rfl ?_) | refine E_iinc_6 d_TM_mean_57 rfl rfl ?_
    refine E_goto 32 d_TM_mean_60 rfl ?_
    exact ih (p + 1) (by omega) _ hM hX
theorem sp_TM_mean {c : Cr} {M : Mem} (hM : HM c M) (y z : Int32) : E 6 0 0 Y_TM_mean 0 [some (.ref 0), some (.int y), some (.int z), none, none, none, none] [] GM M (QL GM fun r M' => r = ans_mean c y z ∧ Sx SQ M M') := by
  have hp8 := hM.w.p8
  have hR := hM.R
  have hA := hM.A
  revert y
  refine args1 11 (fun y hy hyn ht => ?_) (fun y hy => ?_)
  · refine E_iload_n d_TM_mean_0 rfl ?_
    refine E_iconst (v := nI 0) d_TM_mean_1 rfl ?_
    refine E_bipush (v := nI 10) d_TM_mean_2 (by decide) ?_
    refine E_S3 (sp_TM_in _ 10 (by decide)) d_TM_mean_4 ml_TM_69 cb_TM_isIn cs_TM_isIn ⟨by decide, by decide⟩ rfl (Nat.le_of_ble_eq_true rfl) (Nat.le_of_ble_eq_true rfl) (kI fun r1 M1 hc => ?_)
    obtain ⟨rfl, rfl⟩ := hc
    first | (with_reducible refine E_isP ?_; refine E_if_ne 14 d_TM_mean_7 rfl (pb_1 fun h7 => ?_) (pb_0 fun h7 => ?_)) | (with_reducible refine E_isN1 ?_; refine E_if_ne 14 d_TM_mean_7 rfl (nz_ne fun h7 => ?_) (nz_eq (by omega) fun h7 => ?_)) | refine E_if_ne 14 d_TM_mean_7 rfl (fun h7 => ?_) (fun h7 => ?_)
    rotate_left
    · exfalso; exact h7 hyn
    first | refine E_aload_n d_TM_mean_14 rfl ?_ | refine E_aload_nN d_TM_mean_14 rfl ?_
    first | refine E_aload_n d_TM_mean_15 rfl ?_ | refine E_aload_nN d_TM_mean_15 rfl ?_
    refine E_getR (q := 1) d_TM_mean_16 gf_TM_7 (by exact ⟨by decide, rfl⟩) (by exact hR _ rfl) ?_
    refine E_bipush (v := nI 7) d_TM_mean_19 (by decide) ?_
    refine E_iald d_TM_mean_21 (by exact ⟨by decide, rfl⟩) (by exact ⟨by with_reducible rfl, by omega, by decide⟩) (by first | exact hA.people | exact hA.figure | exact hA.lean (by omega) | exact hN _ (by omega) | rfl) ?_
    refine E_V1 (sp_TM_yesTo hM hM.w.fig8) d_TM_mean_22 ml_TM_347 cb_TM_yesTo cv_TM_yesTo (by exact ⟨by decide, rfl⟩) ⟨by decide, rfl⟩ ⟨by decide, by decide⟩ rfl (Nat.le_of_ble_eq_true rfl) (Nat.le_of_ble_eq_true rfl) (kI fun r1 M1 hc => ?_)
    obtain ⟨rfl, hS1⟩ := hc
    have hS1 := hS1.wk fun _ => SY.q
    refine E_istore_3 d_TM_mean_25 rfl ?_
    refine E_lconst (v := lN 0) d_TM_mean_26 rfl ?_
    refine E_lstore_4 d_TM_mean_27 rfl ?_
    refine E_iconst (v := nI 0) d_TM_mean_29 rfl ?_
    refine E_istore_6 d_TM_mean_30 rfl ?_
    exact E_mono (lp_TM_mean (z := z) hp8 (show y ≤ 10 by omega) c.now.people 0 (Nat.zero_add _) _ (hM.sx hS1) hS1) (fun _ _ _ h => ⟨h.1, h.2.choose, h.2.choose_spec.1, h.2.choose_spec.2.1.trans (by rw [ans_mean, if_pos hyn, ht]), h.2.choose_spec.2.2⟩)
  · refine E_iload_n d_TM_mean_0 rfl ?_
    refine E_iconst (v := nI 0) d_TM_mean_1 rfl ?_
    refine E_bipush (v := nI 10) d_TM_mean_2 (by decide) ?_
    refine E_S3 (sp_TM_in _ 10 (by decide)) d_TM_mean_4 ml_TM_69 cb_TM_isIn cs_TM_isIn ⟨by decide, by decide⟩ rfl (Nat.le_of_ble_eq_true rfl) (Nat.le_of_ble_eq_true rfl) (kI fun r1 M1 hc => ?_)
    obtain ⟨rfl, rfl⟩ := hc
    first | (with_reducible refine E_isP ?_; refine E_if_ne 14 d_TM_mean_7 rfl (pb_1 fun h7 => ?_) (pb_0 fun h7 => ?_)) | (with_reducible refine E_isN1 ?_; refine E_if_ne 14 d_TM_mean_7 rfl (nz_ne fun h7 => ?_) (nz_eq (by omega) fun h7 => ?_)) | refine E_if_ne 14 d_TM_mean_7 rfl (fun h7 => ?_) (fun h7 => ?_)
    · exfalso; exact hy h7
    refine E_ldc2 d_TM_mean_10 kc_TM_405 ?_
    refine E_retL d_TM_mean_13 rfl ?_
    exact ⟨by rw [ans_mean, if_neg hy], Sx.rf⟩
