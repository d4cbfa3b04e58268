theorem clampZ_clip (z : Int) : clampZ z (-1000000) ((1000000 : Nat) : Int) = clip z := by
  unfold clampZ clip
  repeat' split
  all_goals omega
theorem iL_01 (b : Bool) : zB (if b = true then 1 else 0) := by cases b <;> exact ⟨by decide, by decide⟩
theorem clip_01 (b : Bool) : clip (if b = true then 1 else 0) = if b = true then 1 else 0 := by cases b <;> rfl
theorem zM_01 (b : Bool) : zM (if b = true then 1 else 0) := by cases b <;> exact ⟨by decide, by decide⟩
theorem sp_As_joinedB {G : Geo} {M : Mem} {o s : Nat} {x y : Int} (hos : biP o s) (hx : zM x) (hy : zM y) : E 1 0 0 Y_As_joined 0 [some (.int (nI s)), some (.long (iL x)), none, some (.long (iL y)), none] [] G M (QL G fun r M' => (∃ z, r = iL z ∧ zB z ∧ clip z = twoBy o x y) ∧ M' = M) := by
  have x1 := hx.1
  have x2 := hx.2
  have y1 := hy.1
  have y2 := hy.2
  have hz0 : zB 0 := ⟨by decide, by decide⟩
  rcases hos with ⟨rfl, rfl⟩ | ⟨rfl, rfl⟩ | ⟨rfl, rfl⟩ | ⟨rfl, rfl⟩
  · refine E_iload_n d_As_joined_0 rfl ?_
    refine E_tableIn 96 d_As_joined_1 (by decide) (by decide) (by first | rfl | decide) rfl ?_
    refine E_lload_n d_As_joined_96 rfl ?_
    refine E_lload_n d_As_joined_97 rfl ?_
    first | (with_reducible refine E_isM2 ?_; refine E_laddN d_As_joined_98 ?_) | refine E_ladd d_As_joined_98 ?_
    refine E_retL d_As_joined_99 rfl ?_
    exact ⟨⟨x + y, iL_add x y, ⟨by omega, by omega⟩, by rw [twoBy, if_pos rfl]⟩, rfl⟩
  · refine E_iload_n d_As_joined_0 rfl ?_
    refine E_tableIn 100 d_As_joined_1 (by decide) (by decide) (by first | rfl | decide) rfl ?_
    refine E_lload_n d_As_joined_100 rfl ?_
    refine E_lload_n d_As_joined_101 rfl ?_
    first | (with_reducible refine E_isM2 ?_; refine E_lsubN d_As_joined_102 (by omega) ?_) | refine E_lsub d_As_joined_102 ?_
    refine E_retL d_As_joined_103 rfl ?_
    exact ⟨⟨x - y, iL_sub x y, ⟨by omega, by omega⟩, by rw [twoBy, if_neg (by decide), if_pos rfl]⟩, rfl⟩
  · refine E_iload_n d_As_joined_0 rfl ?_
    refine E_tableIn 104 d_As_joined_1 (by decide) (by decide) (by first | rfl | decide) rfl ?_
    refine E_lload_n d_As_joined_104 rfl ?_
    refine E_lload_n d_As_joined_105 rfl ?_
    first | (with_reducible refine E_isM2 ?_; refine E_lmulN d_As_joined_106 ?_) | refine E_lmul d_As_joined_106 ?_
    refine E_retL d_As_joined_107 rfl ?_
    exact ⟨⟨x * y, iL_mul x y, zM_mul hx hy, by rw [twoBy, if_neg (by decide), if_neg (by decide), if_pos rfl]⟩, rfl⟩
  · have hyi : lg_cmp (iL y) (lN 0) = 0 ↔ y = 0 := by rw [lN_iL]; exact lc_eq hy.b hz0
    have hy0 : ¬ lg_cmp (iL y) (lN 0) = 0 → ¬ iL y = 0 := fun h q => h ((lg_cmp_eq _ _).mpr q)
    have e9 : twoBy 9 x y = if y = 0 then 0 else clip (x.tdiv y) := by rw [twoBy, if_neg (by decide), if_neg (by decide), if_neg (by decide)]
    have c0 : clip 0 = 0 := by unfold clip; rw [if_neg (by decide), if_neg (by decide)]
    have k1 : lg_cmp (iL y) (lN 0) = 0 → ∃ z, lN 0 = iL z ∧ zB z ∧ clip z = twoBy 9 x y := fun h => ⟨0, lN_iL 0, hz0, by rw [e9, if_pos (hyi.mp h)]; exact c0⟩
    have k2 : ¬ lg_cmp (iL y) (lN 0) = 0 → ∃ z, iL x / iL y = iL z ∧ zB z ∧ clip z = twoBy 9 x y := fun h => ⟨x.tdiv y, iL_div hx.b hy.b, zM_div hx, by rw [e9, if_neg (fun q => h (hyi.mpr q))]⟩
    refine E_iload_n d_As_joined_0 rfl ?_
    refine E_tableIn 108 d_As_joined_1 (by decide) (by decide) (by first | rfl | decide) rfl ?_
    refine E_lload_n d_As_joined_108 rfl ?_
    refine E_lconst (v := lN 0) d_As_joined_109 rfl ?_
    refine E_lcmp d_As_joined_110 ?_
    first | (with_reducible refine E_isP ?_; refine E_if_ne 118 d_As_joined_111 rfl (pb_1 fun h111 => ?_) (pb_0 fun h111 => ?_)) | (with_reducible refine E_isN1 ?_; refine E_if_ne 118 d_As_joined_111 rfl (nz_ne fun h111 => ?_) (nz_eq (by omega) fun h111 => ?_)) | refine E_if_ne 118 d_As_joined_111 rfl (fun h111 => ?_) (fun h111 => ?_)
    · refine E_lload_n d_As_joined_118 rfl ?_
      refine E_lload_n d_As_joined_119 rfl ?_
      first | (with_reducible refine E_isM2 ?_; refine E_ldivN d_As_joined_120 (by omega) (by omega) (by omega) ?_) | refine E_ldiv d_As_joined_120 (by exact hy0 h111) ?_
      refine E_retL d_As_joined_121 rfl ?_
      first | exact ⟨k1 h111, rfl⟩ | exact ⟨k2 h111, rfl⟩
    · refine E_lconst (v := lN 0) d_As_joined_114 rfl ?_
      refine E_goto 121 d_As_joined_115 rfl ?_
      refine E_retL d_As_joined_121 rfl ?_
      first | exact ⟨k1 h111, rfl⟩ | exact ⟨k2 h111, rfl⟩
theorem sp_As_joinedC {G : Geo} {M : Mem} {o s : Nat} {x y : Int} (hos : cmP o s) (hx : zM x) (hy : zM y) : E 1 0 0 Y_As_joined 0 [some (.int (nI s)), some (.long (iL x)), none, some (.long (iL y)), none] [] G M (QL G fun r M' => (∃ z, r = iL z ∧ zB z ∧ clip z = if askBy o x y = true then 1 else 0) ∧ M' = M) := by
  have up : ∀ (n : Nat) (b : Bool), askBy o x y = b → (n : Int) = (if b = true then 1 else 0) → ∃ z, lN n = iL z ∧ zB z ∧ clip z = if askBy o x y = true then 1 else 0 := fun n b e e2 => ⟨if b = true then 1 else 0, by rw [← e2]; exact lN_iL n, iL_01 b, by rw [e]; exact clip_01 b⟩
  have e11 : o = 11 → askBy o x y = decide (x ≤ y) := fun h => by rw [askBy, if_neg (by omega), if_pos h]
  rcases hos with ⟨rfl, rfl⟩ | ⟨rfl, rfl⟩ | ⟨rfl, rfl⟩ | ⟨rfl, rfl⟩ | ⟨rfl, rfl⟩ | ⟨rfl, rfl⟩
  · have e : askBy 10 x y = decide (x < y) := rfl
    have k1 : 0 ≤ lg_cmp (iL x) (iL y) → ∃ z, lN 0 = iL z ∧ zB z ∧ clip z = if askBy 10 x y = true then 1 else 0 := fun h => up 0 false (by rw [e]; exact decide_eq_false (by have := (lc_ge hx.b hy.b).mp h; omega)) rfl
    have k2 : ¬ 0 ≤ lg_cmp (iL x) (iL y) → ∃ z, lN 1 = iL z ∧ zB z ∧ clip z = if askBy 10 x y = true then 1 else 0 := fun h => up 1 true (by rw [e]; exact decide_eq_true (Decidable.byContradiction fun q => h ((lc_ge hx.b hy.b).mpr (by omega)))) rfl
    refine E_iload_n d_As_joined_0 rfl ?_
    refine E_tableIn 134 d_As_joined_1 (by decide) (by decide) (by first | rfl | decide) rfl ?_
    refine E_lload_n d_As_joined_134 rfl ?_
    refine E_lload_n d_As_joined_135 rfl ?_
    refine E_lcmp d_As_joined_136 ?_
    first | (with_reducible refine E_isN1 ?_; refine E_if_ge 144 d_As_joined_137 rfl (nz_ge (by omega) fun h137 => ?_) (nz_nge (by omega) fun h137 => ?_)) | refine E_if_ge 144 d_As_joined_137 rfl (fun h137 => ?_) (fun h137 => ?_)
    · refine E_lconst (v := lN 0) d_As_joined_144 rfl ?_
      refine E_retL d_As_joined_145 rfl ?_
      first | exact ⟨k1 h137, rfl⟩ | exact ⟨k2 h137, rfl⟩
    · refine E_lconst (v := lN 1) d_As_joined_140 rfl ?_
      refine E_goto 145 d_As_joined_141 rfl ?_
      refine E_retL d_As_joined_145 rfl ?_
      first | exact ⟨k1 h137, rfl⟩ | exact ⟨k2 h137, rfl⟩
  · have e : askBy 11 x y = decide (x ≤ y) := rfl
    have k1 : 0 < lg_cmp (iL x) (iL y) → ∃ z, lN 0 = iL z ∧ zB z ∧ clip z = if askBy 11 x y = true then 1 else 0 := fun h => up 0 false (by rw [e]; exact decide_eq_false (by have := (lc_gt hx.b hy.b).mp h; omega)) rfl
    have k2 : ¬ 0 < lg_cmp (iL x) (iL y) → ∃ z, lN 1 = iL z ∧ zB z ∧ clip z = if askBy 11 x y = true then 1 else 0 := fun h => up 1 true (by rw [e]; exact decide_eq_true (Decidable.byContradiction fun q => h ((lc_gt hx.b hy.b).mpr (by omega)))) rfl
    refine E_iload_n d_As_joined_0 rfl ?_
    refine E_tableIn 146 d_As_joined_1 (by decide) (by decide) (by first | rfl | decide) rfl ?_
    refine E_lload_n d_As_joined_146 rfl ?_
    refine E_lload_n d_As_joined_147 rfl ?_
    refine E_lcmp d_As_joined_148 ?_
    first | (with_reducible refine E_isN1 ?_; refine E_if_gt 156 d_As_joined_149 rfl (nz_gt (by omega) fun h149 => ?_) (nz_ngt (by omega) fun h149 => ?_)) | refine E_if_gt 156 d_As_joined_149 rfl (fun h149 => ?_) (fun h149 => ?_)
    · refine E_lconst (v := lN 0) d_As_joined_156 rfl ?_
      refine E_retL d_As_joined_157 rfl ?_
      first | exact ⟨k1 h149, rfl⟩ | exact ⟨k2 h149, rfl⟩
    · refine E_lconst (v := lN 1) d_As_joined_152 rfl ?_
      refine E_goto 157 d_As_joined_153 rfl ?_
      refine E_retL d_As_joined_157 rfl ?_
      first | exact ⟨k1 h149, rfl⟩ | exact ⟨k2 h149, rfl⟩
  · have e : askBy 12 x y = decide (x > y) := rfl
    have k1 : lg_cmp (iL x) (iL y) ≤ 0 → ∃ z, lN 0 = iL z ∧ zB z ∧ clip z = if askBy 12 x y = true then 1 else 0 := fun h => up 0 false (by rw [e]; exact decide_eq_false (by have := (lc_le hx.b hy.b).mp h; omega)) rfl
    have k2 : ¬ lg_cmp (iL x) (iL y) ≤ 0 → ∃ z, lN 1 = iL z ∧ zB z ∧ clip z = if askBy 12 x y = true then 1 else 0 := fun h => up 1 true (by rw [e]; exact decide_eq_true (Decidable.byContradiction fun q => h ((lc_le hx.b hy.b).mpr (by omega)))) rfl
    refine E_iload_n d_As_joined_0 rfl ?_
    refine E_tableIn 158 d_As_joined_1 (by decide) (by decide) (by first | rfl | decide) rfl ?_
    refine E_lload_n d_As_joined_158 rfl ?_
    refine E_lload_n d_As_joined_159 rfl ?_
    refine E_lcmp d_As_joined_160 ?_
    first | (with_reducible refine E_isN1 ?_; refine E_if_le 168 d_As_joined_161 rfl (nz_le (by omega) fun h161 => ?_) (nz_nle (by omega) fun h161 => ?_)) | refine E_if_le 168 d_As_joined_161 rfl (fun h161 => ?_) (fun h161 => ?_)
    · refine E_lconst (v := lN 0) d_As_joined_168 rfl ?_
      refine E_retL d_As_joined_169 rfl ?_
      first | exact ⟨k1 h161, rfl⟩ | exact ⟨k2 h161, rfl⟩
    · refine E_lconst (v := lN 1) d_As_joined_164 rfl ?_
      refine E_goto 169 d_As_joined_165 rfl ?_
      refine E_retL d_As_joined_169 rfl ?_
      first | exact ⟨k1 h161, rfl⟩ | exact ⟨k2 h161, rfl⟩
  · have e : askBy 13 x y = decide (x ≥ y) := rfl
    have k1 : lg_cmp (iL x) (iL y) < 0 → ∃ z, lN 0 = iL z ∧ zB z ∧ clip z = if askBy 13 x y = true then 1 else 0 := fun h => up 0 false (by rw [e]; exact decide_eq_false (by have := (lc_lt hx.b hy.b).mp h; omega)) rfl
    have k2 : ¬ lg_cmp (iL x) (iL y) < 0 → ∃ z, lN 1 = iL z ∧ zB z ∧ clip z = if askBy 13 x y = true then 1 else 0 := fun h => up 1 true (by rw [e]; exact decide_eq_true (Decidable.byContradiction fun q => h ((lc_lt hx.b hy.b).mpr (by omega)))) rfl
    refine E_iload_n d_As_joined_0 rfl ?_
    refine E_tableIn 170 d_As_joined_1 (by decide) (by decide) (by first | rfl | decide) rfl ?_
    refine E_lload_n d_As_joined_170 rfl ?_
    refine E_lload_n d_As_joined_171 rfl ?_
    refine E_lcmp d_As_joined_172 ?_
    first | (with_reducible refine E_isN1 ?_; refine E_if_lt 180 d_As_joined_173 rfl (nz_lt (by omega) fun h173 => ?_) (nz_nlt (by omega) fun h173 => ?_)) | refine E_if_lt 180 d_As_joined_173 rfl (fun h173 => ?_) (fun h173 => ?_)
    · refine E_lconst (v := lN 0) d_As_joined_180 rfl ?_
      refine E_retL d_As_joined_181 rfl ?_
      first | exact ⟨k1 h173, rfl⟩ | exact ⟨k2 h173, rfl⟩
    · refine E_lconst (v := lN 1) d_As_joined_176 rfl ?_
      refine E_goto 181 d_As_joined_177 rfl ?_
      refine E_retL d_As_joined_181 rfl ?_
      first | exact ⟨k1 h173, rfl⟩ | exact ⟨k2 h173, rfl⟩
  · have e : askBy 14 x y = decide (x = y) := rfl
    have k1 : ¬ lg_cmp (iL x) (iL y) = 0 → ∃ z, lN 0 = iL z ∧ zB z ∧ clip z = if askBy 14 x y = true then 1 else 0 := fun h => up 0 false (by rw [e]; exact decide_eq_false (fun q => h ((lc_eq hx.b hy.b).mpr q))) rfl
    have k2 : lg_cmp (iL x) (iL y) = 0 → ∃ z, lN 1 = iL z ∧ zB z ∧ clip z = if askBy 14 x y = true then 1 else 0 := fun h => up 1 true (by rw [e]; exact decide_eq_true ((lc_eq hx.b hy.b).mp h)) rfl
    refine E_iload_n d_As_joined_0 rfl ?_
    refine E_tableIn 182 d_As_joined_1 (by decide) (by decide) (by first | rfl | decide) rfl ?_
    refine E_lload_n d_As_joined_182 rfl ?_
    refine E_lload_n d_As_joined_183 rfl ?_
    refine E_lcmp d_As_joined_184 ?_
    first | (with_reducible refine E_isP ?_; refine E_if_ne 192 d_As_joined_185 rfl (pb_1 fun h185 => ?_) (pb_0 fun h185 => ?_)) | (with_reducible refine E_isN1 ?_; refine E_if_ne 192 d_As_joined_185 rfl (nz_ne fun h185 => ?_) (nz_eq (by omega) fun h185 => ?_)) | refine E_if_ne 192 d_As_joined_185 rfl (fun h185 => ?_) (fun h185 => ?_)
    · refine E_lconst (v := lN 0) d_As_joined_192 rfl ?_
      refine E_retL d_As_joined_193 rfl ?_
      first | exact ⟨k1 h185, rfl⟩ | exact ⟨k2 h185, rfl⟩
    · refine E_lconst (v := lN 1) d_As_joined_188 rfl ?_
      refine E_goto 193 d_As_joined_189 rfl ?_
      refine E_retL d_As_joined_193 rfl ?_
      first | exact ⟨k1 h185, rfl⟩ | exact ⟨k2 h185, rfl⟩
  · have e : askBy 15 x y = decide (x ≠ y) := rfl
    have k1 : lg_cmp (iL x) (iL y) = 0 → ∃ z, lN 0 = iL z ∧ zB z ∧ clip z = if askBy 15 x y = true then 1 else 0 := fun h => up 0 false (by rw [e]; exact decide_eq_false (fun q => q ((lc_eq hx.b hy.b).mp h))) rfl
    have k2 : ¬ lg_cmp (iL x) (iL y) = 0 → ∃ z, lN 1 = iL z ∧ zB z ∧ clip z = if askBy 15 x y = true then 1 else 0 := fun h => up 1 true (by rw [e]; exact decide_eq_true (fun q => h ((lc_eq hx.b hy.b).mpr q))) rfl
    refine E_iload_n d_As_joined_0 rfl ?_
    refine E_tableIn 194 d_As_joined_1 (by decide) (by decide) (by first | rfl | decide) rfl ?_
    refine E_lload_n d_As_joined_194 rfl ?_
    refine E_lload_n d_As_joined_195 rfl ?_
    refine E_lcmp d_As_joined_196 ?_
    first | (with_reducible refine E_isP ?_; refine E_if_eq 204 d_As_joined_197 rfl (pb_0 fun h197 => ?_) (pb_1 fun h197 => ?_)) | (with_reducible refine E_isN1 ?_; refine E_if_eq 204 d_As_joined_197 rfl (nz_eq (by omega) fun h197 => ?_) (nz_ne fun h197 => ?_)) | refine E_if_eq 204 d_As_joined_197 rfl (fun h197 => ?_) (fun h197 => ?_)
    · refine E_lconst (v := lN 0) d_As_joined_204 rfl ?_
      refine E_retL d_As_joined_205 rfl ?_
      first | exact ⟨k1 h197, rfl⟩ | exact ⟨k2 h197, rfl⟩
    · refine E_lconst (v := lN 1) d_As_joined_200 rfl ?_
      refine E_goto 205 d_As_joined_201 rfl ?_
      refine E_retL d_As_joined_205 rfl ?_
      first | exact ⟨k1 h197, rfl⟩ | exact ⟨k2 h197, rfl⟩
theorem sp_As_joinedJ {G : Geo} {M : Mem} {o s : Nat} {a b : Bool} (hos : joP o s) : E 1 0 0 Y_As_joined 0 [some (.int (nI s)), some (.long (iL (if a = true then 1 else 0))), none, some (.long (iL (if b = true then 1 else 0))), none] [] G M (QL G fun r M' => (∃ z, r = iL z ∧ zB z ∧ clip z = if (if o = 21 then (a && b) else (a || b)) = true then 1 else 0) ∧ M' = M) := by
  have up : ∀ (r : Int64) (t : Bool), r = iL (if t = true then 1 else 0) → (if o = 21 then (a && b) else (a || b)) = t → ∃ z, r = iL z ∧ zB z ∧ clip z = if (if o = 21 then (a && b) else (a || b)) = true then 1 else 0 := fun r t e e2 => ⟨if t = true then 1 else 0, e, iL_01 t, by rw [e2]; exact clip_01 t⟩
  rcases hos with ⟨rfl, rfl⟩ | ⟨rfl, rfl⟩
  · cases a <;> cases b
    · refine E_iload_n d_As_joined_0 rfl ?_
      refine E_tableIn 122 d_As_joined_1 (by decide) (by decide) (by first | rfl | decide) rfl ?_
      refine E_lload_n d_As_joined_122 rfl ?_
      refine E_lload_n d_As_joined_123 rfl ?_
      refine E_minL d_As_joined_124 ml_As_145 (by decide) (Nat.le_of_ble_eq_true rfl) ?_
      refine E_retL d_As_joined_127 rfl ?_
      exact ⟨up _ false (by decide) rfl, rfl⟩
    · refine E_iload_n d_As_joined_0 rfl ?_
      refine E_tableIn 122 d_As_joined_1 (by decide) (by decide) (by first | rfl | decide) rfl ?_
      refine E_lload_n d_As_joined_122 rfl ?_
      refine E_lload_n d_As_joined_123 rfl ?_
      refine E_minL d_As_joined_124 ml_As_145 (by decide) (Nat.le_of_ble_eq_true rfl) ?_
      refine E_retL d_As_joined_127 rfl ?_
      exact ⟨up _ false (by decide) rfl, rfl⟩
    · refine E_iload_n d_As_joined_0 rfl ?_
      refine E_tableIn 122 d_As_joined_1 (by decide) (by decide) (by first | rfl | decide) rfl ?_
      refine E_lload_n d_As_joined_122 rfl ?_
      refine E_lload_n d_As_joined_123 rfl ?_
      refine E_minL d_As_joined_124 ml_As_145 (by decide) (Nat.le_of_ble_eq_true rfl) ?_
      refine E_retL d_As_joined_127 rfl ?_
      exact ⟨up _ false (by decide) rfl, rfl⟩
    · refine E_iload_n d_As_joined_0 rfl ?_
      refine E_tableIn 122 d_As_joined_1 (by decide) (by decide) (by first | rfl | decide) rfl ?_
      refine E_lload_n d_As_joined_122 rfl ?_
      refine E_lload_n d_As_joined_123 rfl ?_
      refine E_minL d_As_joined_124 ml_As_145 (by decide) (Nat.le_of_ble_eq_true rfl) ?_
      refine E_retL d_As_joined_127 rfl ?_
      exact ⟨up _ true (by decide) rfl, rfl⟩
  · cases a <;> cases b
    · refine E_iload_n d_As_joined_0 rfl ?_
      refine E_tableIn 128 d_As_joined_1 (by decide) (by decide) (by first | rfl | decide) rfl ?_
      refine E_lload_n d_As_joined_128 rfl ?_
      refine E_lload_n d_As_joined_129 rfl ?_
      refine E_maxL d_As_joined_130 ml_As_149 (by decide) (Nat.le_of_ble_eq_true rfl) ?_
      refine E_retL d_As_joined_133 rfl ?_
      exact ⟨up _ false (by decide) rfl, rfl⟩
    · refine E_iload_n d_As_joined_0 rfl ?_
      refine E_tableIn 128 d_As_joined_1 (by decide) (by decide) (by first | rfl | decide) rfl ?_
      refine E_lload_n d_As_joined_128 rfl ?_
      refine E_lload_n d_As_joined_129 rfl ?_
      refine E_maxL d_As_joined_130 ml_As_149 (by decide) (Nat.le_of_ble_eq_true rfl) ?_
      refine E_retL d_As_joined_133 rfl ?_
      exact ⟨up _ true (by decide) rfl, rfl⟩
    · refine E_iload_n d_As_joined_0 rfl ?_
      refine E_tableIn 128 d_As_joined_1 (by decide) (by decide) (by first | rfl | decide) rfl ?_
      refine E_lload_n d_As_joined_128 rfl ?_
      refine E_lload_n d_As_joined_129 rfl ?_
      refine E_maxL d_As_joined_130 ml_As_149 (by decide) (Nat.le_of_ble_eq_true rfl) ?_
      refine E_retL d_As_joined_133 rfl ?_
      exact ⟨up _ true (by decide) rfl, rfl⟩
    · refine E_iload_n d_As_joined_0 rfl ?_
      refine E_tableIn 128 d_As_joined_1 (by decide) (by decide) (by first | rfl | decide) rfl ?_
      refine E_lload_n d_As_joined_128 rfl ?_
      refine E_lload_n d_As_joined_129 rfl ?_
      refine E_maxL d_As_joined_130 ml_As_149 (by decide) (Nat.le_of_ble_eq_true rfl) ?_
      refine E_retL d_As_joined_133 rfl ?_
      exact ⟨up _ true (by decide) rfl, rfl⟩
theorem oneByM_zM {m : Mo} {u : Nat} {v : Int} (hm : Mok m) (hv : zM v) : zM (oneBy m u v) := by
  have h1 := hv.1
  have h2 := hv.2
  unfold oneBy
  split
  · exact ⟨by omega, by omega⟩
  · split
    · exact ⟨by decide, by decide⟩
    · split
      · have := hm.lean9 v.toNat
        exact ⟨by omega, by omega⟩
      · split <;> exact ⟨by decide, by decide⟩
def S213 (a : Nat) : Prop := a = 213
theorem Sx.sc {P : Nat → Prop} {M M' : Mem} (h : Sx P M M') : Sc P M M' := ⟨fun a j _ => by rw [h.1], h.2⟩
def WS (S : List Int) (M : Mem) : Prop := ∀ i, i < S.length → mI M 213 i = iI (S.getD i 0)
theorem WS.push {S : List Int} {M : Mem} {v : Int} (h : WS S M) : WS (S ++ [v]) (wI M 213 S.length (iI v)) := by
  intro i hi
  have hi2 : i < S.length + 1 := by simpa using hi
  rw [mI_wa, getD_snoc]
  by_cases q : i < S.length
  · rw [if_neg (by omega), if_pos q]; exact h i q
  · rw [if_pos (by omega), if_neg q, if_pos (by omega)]
theorem WS.pop {S : List Int} {M : Mem} {v : Int} (h : WS (S ++ [v]) M) : WS S M := by
  intro i hi
  have := h i (by simp; omega)
  rw [getD_snoc, if_pos hi] at this
  exact this
theorem WS.top {S : List Int} {M : Mem} {v : Int} (h : WS (S ++ [v]) M) : mI M 213 S.length = iI v := by
  have := h S.length (by simp)
  rw [getD_snoc, if_neg (Nat.lt_irrefl _), if_pos rfl] at this
  exact this
def Seg (d : Cd) (b la : Nat) (M : Mem) : Prop := ∀ i, i < d.length → mI M (la + 4) (b + i) = nI (d.getD i (0, 0)).1 ∧ mI M (la + 5) (b + i) = nI (d.getD i (0, 0)).2
theorem getD_app1 {α : Type} {l r : List α} {d : α} {i : Nat} (h : i < l.length) : (l ++ r).getD i d = l.getD i d := by
  rw [List.getD_eq_getElem?_getD, List.getD_eq_getElem?_getD, List.getElem?_append_left h]
theorem getD_app2 {α : Type} {l r : List α} {d : α} {i : Nat} : (l ++ r).getD (l.length + i) d = r.getD i d := by
  rw [List.getD_eq_getElem?_getD, List.getD_eq_getElem?_getD, List.getElem?_append_right (by omega), Nat.add_sub_cancel_left]
theorem Seg.l {d e : Cd} {b la : Nat} {M : Mem} (h : Seg (d ++ e) b la M) : Seg d b la M := fun i hi => by
  have := h i (by rw [List.length_append]; omega)
  rw [getD_app1 hi] at this
  exact this
theorem Seg.r {d e : Cd} {b la : Nat} {M : Mem} (h : Seg (d ++ e) b la M) : Seg e (b + d.length) la M := fun i hi => by
  have := h (d.length + i) (by rw [List.length_append]; omega)
  rw [getD_app2, ← Nat.add_assoc] at this
  exact this
theorem Seg.one {s v b la : Nat} {M : Mem} (h : Seg [(s, v)] b la M) : mI M (la + 4) b = nI s ∧ mI M (la + 5) b = nI v := h 0 (Nat.lt_succ_self 0)
