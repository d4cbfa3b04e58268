theorem zz_1 : (.code ⟨"TruePollModel", "isIn", "(III)Z"⟩ prog_12_method_3_code 3 (some .boolean)) ∈ tables_1_6 := sorry
set_option maxRecDepth 10000 in
theorem zz_a0 : ∃ w, tables_1_3[17]? = some w := ⟨_, rfl⟩
set_option maxRecDepth 10000 in
theorem zz_a1 : ∃ w, tables_1_3[200]? = some w := ⟨_, rfl⟩
set_option maxRecDepth 10000 in
theorem zz_a2 : tables_1_3[0]? = some (.static ⟨"TruePoll$Tape", "isDigit", "(I)Z"⟩) := rfl
set_option maxRecDepth 10000 in
theorem zz_a3 : tables_1_3[0]? = some (.static ⟨"TruePoll$Tape", "isDigit", "(I)Z"⟩) := by decide +kernel
theorem i_vc : Claimed_1_1 ∧ Claimed_1_2 := sorry
