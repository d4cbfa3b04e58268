theorem gf_Mo_9 : GF "TruePoll$Moment" 9 2 0 2 := ⟨by decide, by decide, fl_Mo_9, rfl⟩
theorem gf_Ro_49 : GF "TruePoll$Rounds" 49 2 0 2 := ⟨by decide, by decide, fl_Ro_49, rfl⟩
theorem gf_As_63 : GF "TruePoll$Asker" 63 2 0 2 := ⟨by decide, by decide, fl_As_63, rfl⟩
theorem gf_Cr_96 : GF "TruePoll$Crowd" 96 2 0 2 := ⟨by decide, by decide, fl_Cr_96, rfl⟩
theorem gf_TP_166 : GF "TruePoll" 166 2 0 2 := ⟨by decide, by decide, fl_TP_166, rfl⟩
theorem gf_Mo_15 : GF "TruePoll$Moment" 15 2 1 2 := ⟨by decide, by decide, fl_Mo_15, rfl⟩
theorem gf_As_28 : GF "TruePoll$Asker" 28 2 2 0 := ⟨by decide, by decide, fl_As_28, rfl⟩
theorem gf_Ro_29 : GF "TruePoll$Rounds" 29 2 2 0 := ⟨by decide, by decide, fl_Ro_29, rfl⟩
theorem gf_Mo_28 : GF "TruePoll$Moment" 28 2 2 0 := ⟨by decide, by decide, fl_Mo_28, rfl⟩
theorem gf_Cr_93 : GF "TruePoll$Crowd" 93 2 2 0 := ⟨by decide, by decide, fl_Cr_93, rfl⟩
theorem gf_TP_310 : GF "TruePoll" 310 2 2 0 := ⟨by decide, by decide, fl_TP_310, rfl⟩
theorem gf_Mo_31 : GF "TruePoll$Moment" 31 2 3 0 := ⟨by decide, by decide, fl_Mo_31, rfl⟩
theorem gf_Ro_66 : GF "TruePoll$Rounds" 66 2 3 0 := ⟨by decide, by decide, fl_Ro_66, rfl⟩
theorem gf_As_137 : GF "TruePoll$Asker" 137 2 3 0 := ⟨by decide, by decide, fl_As_137, rfl⟩
theorem gf_TP_179 : GF "TruePoll" 179 2 3 0 := ⟨by decide, by decide, fl_TP_179, rfl⟩
theorem gf_Mo_34 : GF "TruePoll$Moment" 34 2 4 0 := ⟨by decide, by decide, fl_Mo_34, rfl⟩
theorem gf_Ro_75 : GF "TruePoll$Rounds" 75 2 4 0 := ⟨by decide, by decide, fl_Ro_75, rfl⟩
theorem gf_TP_131 : GF "TruePoll" 131 2 4 0 := ⟨by decide, by decide, fl_TP_131, rfl⟩
theorem gf_Mo_37 : GF "TruePoll$Moment" 37 2 5 0 := ⟨by decide, by decide, fl_Mo_37, rfl⟩
theorem gf_Ro_82 : GF "TruePoll$Rounds" 82 2 5 0 := ⟨by decide, by decide, fl_Ro_82, rfl⟩
theorem gf_As_131 : GF "TruePoll$Asker" 131 2 5 0 := ⟨by decide, by decide, fl_As_131, rfl⟩
theorem gf_TP_137 : GF "TruePoll" 137 2 5 0 := ⟨by decide, by decide, fl_TP_137, rfl⟩
theorem gf_Mo_18 : GF "TruePoll$Moment" 18 2 6 0 := ⟨by decide, by decide, fl_Mo_18, rfl⟩
theorem gf_Ro_139 : GF "TruePoll$Rounds" 139 2 6 0 := ⟨by decide, by decide, fl_Ro_139, rfl⟩
theorem gf_TP_193 : GF "TruePoll" 193 2 6 0 := ⟨by decide, by decide, fl_TP_193, rfl⟩
theorem gf_Mo_40 : GF "TruePoll$Moment" 40 2 7 0 := ⟨by decide, by decide, fl_Mo_40, rfl⟩
theorem gf_TP_200 : GF "TruePoll" 200 2 7 0 := ⟨by decide, by decide, fl_TP_200, rfl⟩
theorem gf_Cr_12 : GF "TruePoll$Crowd" 12 1 0 2 := ⟨by decide, by decide, fl_Cr_12, rfl⟩
theorem gf_As_19 : GF "TruePoll$Asker" 19 1 0 2 := ⟨by decide, by decide, fl_As_19, rfl⟩
theorem gf_Ro_93 : GF "TruePoll$Rounds" 93 1 0 2 := ⟨by decide, by decide, fl_Ro_93, rfl⟩
theorem gf_TP_128 : GF "TruePoll" 128 1 0 2 := ⟨by decide, by decide, fl_TP_128, rfl⟩
theorem gf_Cr_18 : GF "TruePoll$Crowd" 18 1 1 2 := ⟨by decide, by decide, fl_Cr_18, rfl⟩
theorem gf_As_70 : GF "TruePoll$Asker" 70 1 1 2 := ⟨by decide, by decide, fl_As_70, rfl⟩
theorem gf_TP_173 : GF "TruePoll" 173 1 1 2 := ⟨by decide, by decide, fl_TP_173, rfl⟩
theorem gf_Cr_22 : GF "TruePoll$Crowd" 22 1 2 2 := ⟨by decide, by decide, fl_Cr_22, rfl⟩
theorem gf_Cr_25 : GF "TruePoll$Crowd" 25 1 3 2 := ⟨by decide, by decide, fl_Cr_25, rfl⟩
theorem gf_As_134 : GF "TruePoll$Asker" 134 1 3 2 := ⟨by decide, by decide, fl_As_134, rfl⟩
theorem gf_TP_176 : GF "TruePoll" 176 1 3 2 := ⟨by decide, by decide, fl_TP_176, rfl⟩
theorem gf_Cr_28 : GF "TruePoll$Crowd" 28 1 4 2 := ⟨by decide, by decide, fl_Cr_28, rfl⟩
theorem gf_Cr_65 : GF "TruePoll$Crowd" 65 1 5 0 := ⟨by decide, by decide, fl_Cr_65, rfl⟩
theorem gf_Cr_68 : GF "TruePoll$Crowd" 68 1 6 0 := ⟨by decide, by decide, fl_Cr_68, rfl⟩
theorem gf_TP_160 : GF "TruePoll" 160 1 6 0 := ⟨by decide, by decide, fl_TP_160, rfl⟩
theorem gf_Cr_34 : GF "TruePoll$Crowd" 34 1 7 2 := ⟨by decide, by decide, fl_Cr_34, rfl⟩
theorem gf_Cr_75 : GF "TruePoll$Crowd" 75 1 8 0 := ⟨by decide, by decide, fl_Cr_75, rfl⟩
theorem gf_TP_100 : GF "TruePoll" 100 1 8 0 := ⟨by decide, by decide, fl_TP_100, rfl⟩
theorem gf_Cr_38 : GF "TruePoll$Crowd" 38 1 9 0 := ⟨by decide, by decide, fl_Cr_38, rfl⟩
theorem gf_TP_121 : GF "TruePoll" 121 1 9 0 := ⟨by decide, by decide, fl_TP_121, rfl⟩
theorem gf_Cr_42 : GF "TruePoll$Crowd" 42 1 10 2 := ⟨by decide, by decide, fl_Cr_42, rfl⟩
theorem gf_Cr_45 : GF "TruePoll$Crowd" 45 1 11 2 := ⟨by decide, by decide, fl_Cr_45, rfl⟩
theorem gf_Cr_87 : GF "TruePoll$Crowd" 87 1 12 0 := ⟨by decide, by decide, fl_Cr_87, rfl⟩
theorem gf_TP_333 : GF "TruePoll" 333 1 12 0 := ⟨by decide, by decide, fl_TP_333, rfl⟩
theorem gf_Cr_48 : GF "TruePoll$Crowd" 48 1 13 2 := ⟨by decide, by decide, fl_Cr_48, rfl⟩
theorem gf_TP_400 : GF "TruePoll" 400 1 13 2 := ⟨by decide, by decide, fl_TP_400, rfl⟩
theorem gf_Cr_51 : GF "TruePoll$Crowd" 51 1 14 2 := ⟨by decide, by decide, fl_Cr_51, rfl⟩
theorem gf_TP_403 : GF "TruePoll" 403 1 14 2 := ⟨by decide, by decide, fl_TP_403, rfl⟩
theorem gf_Cr_90 : GF "TruePoll$Crowd" 90 1 15 0 := ⟨by decide, by decide, fl_Cr_90, rfl⟩
theorem gf_TP_361 : GF "TruePoll" 361 1 15 0 := ⟨by decide, by decide, fl_TP_361, rfl⟩
theorem gf_Cr_54 : GF "TruePoll$Crowd" 54 1 16 2 := ⟨by decide, by decide, fl_Cr_54, rfl⟩
theorem gf_TP_355 : GF "TruePoll" 355 1 16 2 := ⟨by decide, by decide, fl_TP_355, rfl⟩
theorem gf_As_15 : GF "TruePoll$Asker" 15 0 0 2 := ⟨by decide, by decide, fl_As_15, rfl⟩
theorem gf_As_9 : GF "TruePoll$Asker" 9 0 1 2 := ⟨by decide, by decide, fl_As_9, rfl⟩
theorem gf_As_25 : GF "TruePoll$Asker" 25 0 2 2 := ⟨by decide, by decide, fl_As_25, rfl⟩
theorem gf_As_38 : GF "TruePoll$Asker" 38 0 3 0 := ⟨by decide, by decide, fl_As_38, rfl⟩
theorem gf_As_41 : GF "TruePoll$Asker" 41 0 4 0 := ⟨by decide, by decide, fl_As_41, rfl⟩
theorem gf_As_44 : GF "TruePoll$Asker" 44 0 5 0 := ⟨by decide, by decide, fl_As_44, rfl⟩
theorem gf_Ro_15 : GF "TruePoll$Rounds" 15 5 0 2 := ⟨by decide, by decide, fl_Ro_15, rfl⟩
theorem gf_Ro_19 : GF "TruePoll$Rounds" 19 5 1 2 := ⟨by decide, by decide, fl_Ro_19, rfl⟩
theorem gf_Ro_9 : GF "TruePoll$Rounds" 9 5 2 2 := ⟨by decide, by decide, fl_Ro_9, rfl⟩
theorem gf_Ou_9 : GF "TruePoll$Outlook" 9 3 0 2 := ⟨by decide, by decide, fl_Ou_9, rfl⟩
theorem gf_TP_384 : GF "TruePoll" 384 3 0 2 := ⟨by decide, by decide, fl_TP_384, rfl⟩
theorem gf_Ou_15 : GF "TruePoll$Outlook" 15 3 1 2 := ⟨by decide, by decide, fl_Ou_15, rfl⟩
theorem gf_Ou_18 : GF "TruePoll$Outlook" 18 3 2 2 := ⟨by decide, by decide, fl_Ou_18, rfl⟩
theorem gf_Ou_31 : GF "TruePoll$Outlook" 31 3 3 0 := ⟨by decide, by decide, fl_Ou_31, rfl⟩
theorem gf_TP_383 : GF "TruePoll" 383 3 3 0 := ⟨by decide, by decide, fl_TP_383, rfl⟩
theorem gf_Ta_9 : GF "TruePoll$Tape" 9 6 0 2 := ⟨by decide, by decide, fl_Ta_9, rfl⟩
theorem gf_Ta_24 : GF "TruePoll$Tape" 24 6 1 0 := ⟨by decide, by decide, fl_Ta_24, rfl⟩
theorem gf_TP_93 : GF "TruePoll" 93 6 1 0 := ⟨by decide, by decide, fl_TP_93, rfl⟩
theorem gf_Ta_15 : GF "TruePoll$Tape" 15 6 2 2 := ⟨by decide, by decide, fl_Ta_15, rfl⟩
theorem gf_Re_94 : GF "TruePoll$Reader" 94 6 2 2 := ⟨by decide, by decide, fl_Re_94, rfl⟩
theorem gf_Ta_18 : GF "TruePoll$Tape" 18 6 3 2 := ⟨by decide, by decide, fl_Ta_18, rfl⟩
theorem gf_Re_105 : GF "TruePoll$Reader" 105 6 3 2 := ⟨by decide, by decide, fl_Re_105, rfl⟩
theorem gf_Ta_21 : GF "TruePoll$Tape" 21 6 4 2 := ⟨by decide, by decide, fl_Ta_21, rfl⟩
theorem gf_Re_99 : GF "TruePoll$Reader" 99 6 4 2 := ⟨by decide, by decide, fl_Re_99, rfl⟩
theorem gf_Ta_32 : GF "TruePoll$Tape" 32 6 5 0 := ⟨by decide, by decide, fl_Ta_32, rfl⟩
theorem gf_Ta_38 : GF "TruePoll$Tape" 38 6 6 0 := ⟨by decide, by decide, fl_Ta_38, rfl⟩
theorem gf_Re_27 : GF "TruePoll$Reader" 27 4 0 2 := ⟨by decide, by decide, fl_Re_27, rfl⟩
theorem gf_Re_9 : GF "TruePoll$Reader" 9 4 1 2 := ⟨by decide, by decide, fl_Re_9, rfl⟩
theorem gf_Re_15 : GF "TruePoll$Reader" 15 4 2 2 := ⟨by decide, by decide, fl_Re_15, rfl⟩
theorem gf_Re_18 : GF "TruePoll$Reader" 18 4 3 2 := ⟨by decide, by decide, fl_Re_18, rfl⟩
theorem gf_Re_21 : GF "TruePoll$Reader" 21 4 4 2 := ⟨by decide, by decide, fl_Re_21, rfl⟩
theorem gf_Re_24 : GF "TruePoll$Reader" 24 4 5 2 := ⟨by decide, by decide, fl_Re_24, rfl⟩
theorem gf_Re_31 : GF "TruePoll$Reader" 31 4 6 0 := ⟨by decide, by decide, fl_Re_31, rfl⟩
theorem gf_Re_35 : GF "TruePoll$Reader" 35 4 7 0 := ⟨by decide, by decide, fl_Re_35, rfl⟩
theorem gf_Re_38 : GF "TruePoll$Reader" 38 4 8 0 := ⟨by decide, by decide, fl_Re_38, rfl⟩
theorem gf_Re_85 : GF "TruePoll$Reader" 85 4 9 0 := ⟨by decide, by decide, fl_Re_85, rfl⟩
theorem gf_Re_41 : GF "TruePoll$Reader" 41 4 10 0 := ⟨by decide, by decide, fl_Re_41, rfl⟩
theorem gf_Re_90 : GF "TruePoll$Reader" 90 4 11 0 := ⟨by decide, by decide, fl_Re_90, rfl⟩
theorem gf_Re_116 : GF "TruePoll$Reader" 116 4 12 0 := ⟨by decide, by decide, fl_Re_116, rfl⟩
theorem gf_Re_55 : GF "TruePoll$Reader" 55 4 13 0 := ⟨by decide, by decide, fl_Re_55, rfl⟩
theorem gf_Re_61 : GF "TruePoll$Reader" 61 4 14 0 := ⟨by decide, by decide, fl_Re_61, rfl⟩
theorem gf_Re_102 : GF "TruePoll$Reader" 102 4 15 0 := ⟨by decide, by decide, fl_Re_102, rfl⟩
theorem gf_Re_44 : GF "TruePoll$Reader" 44 4 16 0 := ⟨by decide, by decide, fl_Re_44, rfl⟩
theorem gf_TP_107 : GF "TruePoll" 107 4 16 0 := ⟨by decide, by decide, fl_TP_107, rfl⟩
theorem gf_Re_47 : GF "TruePoll$Reader" 47 4 17 0 := ⟨by decide, by decide, fl_Re_47, rfl⟩
theorem gf_TP_110 : GF "TruePoll" 110 4 17 0 := ⟨by decide, by decide, fl_TP_110, rfl⟩
theorem gf_TP_10 : GF "TruePoll" 10 8 0 2 := ⟨by decide, by decide, fl_TP_10, rfl⟩
theorem gf_TP_16 : GF "TruePoll" 16 8 1 2 := ⟨by decide, by decide, fl_TP_16, rfl⟩
theorem gf_TP_22 : GF "TruePoll" 22 8 2 2 := ⟨by decide, by decide, fl_TP_22, rfl⟩
theorem gf_TP_31 : GF "TruePoll" 31 8 3 2 := ⟨by decide, by decide, fl_TP_31, rfl⟩
theorem gf_TP_40 : GF "TruePoll" 40 8 4 2 := ⟨by decide, by decide, fl_TP_40, rfl⟩
theorem gf_TP_47 : GF "TruePoll" 47 8 5 2 := ⟨by decide, by decide, fl_TP_47, rfl⟩
theorem gf_TP_54 : GF "TruePoll" 54 8 6 2 := ⟨by decide, by decide, fl_TP_54, rfl⟩
theorem gf_TP_63 : GF "TruePoll" 63 8 7 2 := ⟨by decide, by decide, fl_TP_63, rfl⟩
theorem gf_TP_67 : GF "TruePoll" 67 8 8 2 := ⟨by decide, by decide, fl_TP_67, rfl⟩
theorem gf_TP_71 : GF "TruePoll" 71 8 9 2 := ⟨by decide, by decide, fl_TP_71, rfl⟩
theorem gf_TP_75 : GF "TruePoll" 75 8 10 2 := ⟨by decide, by decide, fl_TP_75, rfl⟩
theorem gf_TP_78 : GF "TruePoll" 78 8 11 0 := ⟨by decide, by decide, fl_TP_78, rfl⟩
theorem gf_TP_82 : GF "TruePoll" 82 8 12 0 := ⟨by decide, by decide, fl_TP_82, rfl⟩
theorem gf_Tx_18 : GF "TruePoll$Text" 18 7 0 2 := ⟨by decide, by decide, fl_Tx_18, rfl⟩
theorem gf_Ro_120 : GF "TruePoll$Rounds" 120 7 0 2 := ⟨by decide, by decide, fl_Ro_120, rfl⟩
theorem gf_TP_143 : GF "TruePoll" 143 7 0 2 := ⟨by decide, by decide, fl_TP_143, rfl⟩
theorem gf_Tx_22 : GF "TruePoll$Text" 22 7 1 2 := ⟨by decide, by decide, fl_Tx_22, rfl⟩
theorem gf_Ro_112 : GF "TruePoll$Rounds" 112 7 1 2 := ⟨by decide, by decide, fl_Ro_112, rfl⟩
theorem gf_Tx_25 : GF "TruePoll$Text" 25 7 2 2 := ⟨by decide, by decide, fl_Tx_25, rfl⟩
theorem gf_Ro_117 : GF "TruePoll$Rounds" 117 7 2 2 := ⟨by decide, by decide, fl_Ro_117, rfl⟩
theorem gf_Tx_28 : GF "TruePoll$Text" 28 7 3 2 := ⟨by decide, by decide, fl_Tx_28, rfl⟩
theorem gf_As_97 : GF "TruePoll$Asker" 97 7 3 2 := ⟨by decide, by decide, fl_As_97, rfl⟩
theorem gf_Tx_31 : GF "TruePoll$Text" 31 7 4 2 := ⟨by decide, by decide, fl_Tx_31, rfl⟩
theorem gf_As_100 : GF "TruePoll$Asker" 100 7 4 2 := ⟨by decide, by decide, fl_As_100, rfl⟩
theorem gf_Tx_9 : GF "TruePoll$Text" 9 7 5 0 := ⟨by decide, by decide, fl_Tx_9, rfl⟩
theorem gf_As_47 : GF "TruePoll$Asker" 47 7 5 0 := ⟨by decide, by decide, fl_As_47, rfl⟩
theorem gf_Re_84 : GF "TruePoll$Reader" 84 7 5 0 := ⟨by decide, by decide, fl_Re_84, rfl⟩
theorem gf_As_56 : GF "TruePoll$Asker" 56 7 6 0 := ⟨by decide, by decide, fl_As_56, rfl⟩
theorem gf_Re_88 : GF "TruePoll$Reader" 88 7 6 0 := ⟨by decide, by decide, fl_Re_88, rfl⟩
theorem gf_Tx_15 : GF "TruePoll$Text" 15 7 7 0 := ⟨by decide, by decide, fl_Tx_15, rfl⟩
theorem gf_Re_89 : GF "TruePoll$Reader" 89 7 7 0 := ⟨by decide, by decide, fl_Re_89, rfl⟩
theorem gf_As_83 : GF "TruePoll$Asker" 83 7 7 0 := ⟨by decide, by decide, fl_As_83, rfl⟩
theorem gf_Re_93 : GF "TruePoll$Reader" 93 7 8 0 := ⟨by decide, by decide, fl_Re_93, rfl⟩
theorem gf_As_86 : GF "TruePoll$Asker" 86 7 8 0 := ⟨by decide, by decide, fl_As_86, rfl⟩
theorem gf_TM_7 : GF "TruePollModel" 7 9 0 2 := ⟨by decide, by decide, fl_TM_7, rfl⟩
theorem gf_TM_13 : GF "TruePollModel" 13 9 1 2 := ⟨by decide, by decide, fl_TM_13, rfl⟩
theorem gf_TM_16 : GF "TruePollModel" 16 9 2 2 := ⟨by decide, by decide, fl_TM_16, rfl⟩
theorem gf_TM_19 : GF "TruePollModel" 19 9 3 2 := ⟨by decide, by decide, fl_TM_19, rfl⟩
theorem gf_TM_77 : GF "TruePollModel" 77 9 4 0 := ⟨by decide, by decide, fl_TM_77, rfl⟩
theorem gf_TM_22 : GF "TruePollModel" 22 9 5 0 := ⟨by decide, by decide, fl_TM_22, rfl⟩
theorem gf_TM_26 : GF "TruePollModel" 26 9 6 0 := ⟨by decide, by decide, fl_TM_26, rfl⟩
theorem gf_TM_84 : GF "TruePollModel" 84 9 7 0 := ⟨by decide, by decide, fl_TM_84, rfl⟩
theorem gf_TM_91 : GF "TruePollModel" 91 9 8 0 := ⟨by decide, by decide, fl_TM_91, rfl⟩
theorem gf_TM_94 : GF "TruePollModel" 94 9 9 0 := ⟨by decide, by decide, fl_TM_94, rfl⟩
theorem gf_TM_100 : GF "TruePollModel" 100 9 10 0 := ⟨by decide, by decide, fl_TM_100, rfl⟩
theorem gf_TM_107 : GF "TruePollModel" 107 9 11 1 := ⟨by decide, by decide, fl_TM_107, rfl⟩
theorem gf_TM_132 : GF "TruePollModel" 132 9 12 0 := ⟨by decide, by decide, fl_TM_132, rfl⟩
theorem gf_TM_135 : GF "TruePollModel" 135 9 13 0 := ⟨by decide, by decide, fl_TM_135, rfl⟩
theorem gf_TM_142 : GF "TruePollModel" 142 9 14 0 := ⟨by decide, by decide, fl_TM_142, rfl⟩
theorem gf_TM_29 : GF "TruePollModel" 29 9 15 2 := ⟨by decide, by decide, fl_TM_29, rfl⟩
theorem gf_TM_145 : GF "TruePollModel" 145 9 16 0 := ⟨by decide, by decide, fl_TM_145, rfl⟩
theorem gf_TM_155 : GF "TruePollModel" 155 9 17 0 := ⟨by decide, by decide, fl_TM_155, rfl⟩
theorem gf_TM_174 : GF "TruePollModel" 174 9 18 3 := ⟨by decide, by decide, fl_TM_174, rfl⟩
theorem gf_TM_226 : GF "TruePollModel" 226 9 19 0 := ⟨by decide, by decide, fl_TM_226, rfl⟩
theorem gf_TM_32 : GF "TruePollModel" 32 9 20 2 := ⟨by decide, by decide, fl_TM_32, rfl⟩
theorem gf_TM_35 : GF "TruePollModel" 35 9 21 2 := ⟨by decide, by decide, fl_TM_35, rfl⟩
theorem gf_TM_39 : GF "TruePollModel" 39 9 22 2 := ⟨by decide, by decide, fl_TM_39, rfl⟩
theorem gf_TM_43 : GF "TruePollModel" 43 9 23 3 := ⟨by decide, by decide, fl_TM_43, rfl⟩
theorem gf_TM_47 : GF "TruePollModel" 47 9 24 2 := ⟨by decide, by decide, fl_TM_47, rfl⟩
theorem gf_TM_50 : GF "TruePollModel" 50 9 25 2 := ⟨by decide, by decide, fl_TM_50, rfl⟩
theorem gf_TM_53 : GF "TruePollModel" 53 9 26 2 := ⟨by decide, by decide, fl_TM_53, rfl⟩
theorem gf_TM_56 : GF "TruePollModel" 56 9 27 2 := ⟨by decide, by decide, fl_TM_56, rfl⟩
theorem gf_TM_59 : GF "TruePollModel" 59 9 28 2 := ⟨by decide, by decide, fl_TM_59, rfl⟩
theorem gf_TM_62 : GF "TruePollModel" 62 9 29 2 := ⟨by decide, by decide, fl_TM_62, rfl⟩
theorem d_Cr_init_0 : decode prog_3_method_1_code 0 = .ok (.aload_n 0, 1) := by decide +kernel
theorem d_Cr_init_1 : decode prog_3_method_1_code 1 = .ok (.invokespecial 3, 3) := by decide +kernel
theorem d_Cr_init_4 : decode prog_3_method_1_code 4 = .ok (.aload_n 0, 1) := by decide +kernel
theorem d_Cr_init_5 : decode prog_3_method_1_code 5 = .ok (.new 9, 3) := by decide +kernel
theorem d_Cr_init_8 : decode prog_3_method_1_code 8 = .ok (.dup, 1) := by decide +kernel
theorem d_Cr_init_9 : decode prog_3_method_1_code 9 = .ok (.invokespecial 11, 3) := by decide +kernel
theorem d_Cr_init_12 : decode prog_3_method_1_code 12 = .ok (.putfield 12, 3) := by decide +kernel
theorem d_Cr_init_15 : decode prog_3_method_1_code 15 = .ok (.aload_n 0, 1) := by decide +kernel
theorem d_Cr_init_16 : decode prog_3_method_1_code 16 = .ok (.bipush 8, 2) := by decide +kernel
theorem d_Cr_init_18 : decode prog_3_method_1_code 18 = .ok (.newarray .int, 2) := by decide +kernel
theorem d_Cr_init_20 : decode prog_3_method_1_code 20 = .ok (.putfield 18, 3) := by decide +kernel
theorem d_Cr_init_23 : decode prog_3_method_1_code 23 = .ok (.aload_n 0, 1) := by decide +kernel
theorem d_Cr_init_24 : decode prog_3_method_1_code 24 = .ok (.bipush 8, 2) := by decide +kernel
theorem d_Cr_init_26 : decode prog_3_method_1_code 26 = .ok (.newarray .int, 2) := by decide +kernel
theorem d_Cr_init_28 : decode prog_3_method_1_code 28 = .ok (.putfield 22, 3) := by decide +kernel
theorem d_Cr_init_31 : decode prog_3_method_1_code 31 = .ok (.aload_n 0, 1) := by decide +kernel
theorem d_Cr_init_32 : decode prog_3_method_1_code 32 = .ok (.bipush 8, 2) := by decide +kernel
theorem d_Cr_init_34 : decode prog_3_method_1_code 34 = .ok (.newarray .int, 2) := by decide +kernel
theorem d_Cr_init_36 : decode prog_3_method_1_code 36 = .ok (.putfield 25, 3) := by decide +kernel
theorem d_Cr_init_39 : decode prog_3_method_1_code 39 = .ok (.aload_n 0, 1) := by decide +kernel
theorem d_Cr_init_40 : decode prog_3_method_1_code 40 = .ok (.bipush 30, 2) := by decide +kernel
theorem d_Cr_init_42 : decode prog_3_method_1_code 42 = .ok (.anewarray 9, 3) := by decide +kernel
theorem d_Cr_init_45 : decode prog_3_method_1_code 45 = .ok (.putfield 28, 3) := by decide +kernel
theorem d_Cr_init_48 : decode prog_3_method_1_code 48 = .ok (.aload_n 0, 1) := by decide +kernel
theorem d_Cr_init_49 : decode prog_3_method_1_code 49 = .ok (.iconst 4, 1) := by decide +kernel
theorem d_Cr_init_50 : decode prog_3_method_1_code 50 = .ok (.anewarray 32, 3) := by decide +kernel
theorem d_Cr_init_53 : decode prog_3_method_1_code 53 = .ok (.putfield 34, 3) := by decide +kernel
theorem d_Cr_init_56 : decode prog_3_method_1_code 56 = .ok (.aload_n 0, 1) := by decide +kernel
theorem d_Cr_init_57 : decode prog_3_method_1_code 57 = .ok (.iconst (-1), 1) := by decide +kernel
theorem d_Cr_init_58 : decode prog_3_method_1_code 58 = .ok (.putfield 38, 3) := by decide +kernel
theorem d_Cr_init_61 : decode prog_3_method_1_code 61 = .ok (.aload_n 0, 1) := by decide +kernel
theorem d_Cr_init_62 : decode prog_3_method_1_code 62 = .ok (.bipush 8, 2) := by decide +kernel
theorem d_Cr_init_64 : decode prog_3_method_1_code 64 = .ok (.newarray .int, 2) := by decide +kernel
theorem d_Cr_init_66 : decode prog_3_method_1_code 66 = .ok (.putfield 42, 3) := by decide +kernel
theorem d_Cr_init_69 : decode prog_3_method_1_code 69 = .ok (.aload_n 0, 1) := by decide +kernel
theorem d_Cr_init_70 : decode prog_3_method_1_code 70 = .ok (.bipush 8, 2) := by decide +kernel
theorem d_Cr_init_72 : decode prog_3_method_1_code 72 = .ok (.newarray .int, 2) := by decide +kernel
theorem d_Cr_init_74 : decode prog_3_method_1_code 74 = .ok (.putfield 45, 3) := by decide +kernel
theorem d_Cr_init_77 : decode prog_3_method_1_code 77 = .ok (.aload_n 0, 1) := by decide +kernel
theorem d_Cr_init_78 : decode prog_3_method_1_code 78 = .ok (.bipush 8, 2) := by decide +kernel
theorem d_Cr_init_80 : decode prog_3_method_1_code 80 = .ok (.newarray .int, 2) := by decide +kernel
theorem d_Cr_init_82 : decode prog_3_method_1_code 82 = .ok (.putfield 48, 3) := by decide +kernel
theorem d_Cr_init_85 : decode prog_3_method_1_code 85 = .ok (.aload_n 0, 1) := by decide +kernel
theorem d_Cr_init_86 : decode prog_3_method_1_code 86 = .ok (.bipush 8, 2) := by decide +kernel
theorem d_Cr_init_88 : decode prog_3_method_1_code 88 = .ok (.newarray .int, 2) := by decide +kernel
theorem d_Cr_init_90 : decode prog_3_method_1_code 90 = .ok (.putfield 51, 3) := by decide +kernel
theorem d_Cr_init_93 : decode prog_3_method_1_code 93 = .ok (.aload_n 0, 1) := by decide +kernel
theorem d_Cr_init_94 : decode prog_3_method_1_code 94 = .ok (.bipush 10, 2) := by decide +kernel
theorem d_Cr_init_96 : decode prog_3_method_1_code 96 = .ok (.newarray .int, 2) := by decide +kernel
theorem d_Cr_init_98 : decode prog_3_method_1_code 98 = .ok (.putfield 54, 3) := by decide +kernel
theorem d_Cr_init_101 : decode prog_3_method_1_code 101 = .ok (.iconst 0, 1) := by decide +kernel
theorem d_Cr_init_102 : decode prog_3_method_1_code 102 = .ok (.istore_n 1, 1) := by decide +kernel
theorem d_Cr_init_103 : decode prog_3_method_1_code 103 = .ok (.iload_n 1, 1) := by decide +kernel
theorem d_Cr_init_104 : decode prog_3_method_1_code 104 = .ok (.aload_n 0, 1) := by decide +kernel
theorem d_Cr_init_105 : decode prog_3_method_1_code 105 = .ok (.getfield 28, 3) := by decide +kernel
theorem d_Cr_init_108 : decode prog_3_method_1_code 108 = .ok (.arraylength, 1) := by decide +kernel
theorem d_Cr_init_109 : decode prog_3_method_1_code 109 = .ok (.if_icmp .ge 22, 3) := by decide +kernel
theorem d_Cr_init_112 : decode prog_3_method_1_code 112 = .ok (.aload_n 0, 1) := by decide +kernel
theorem d_Cr_init_113 : decode prog_3_method_1_code 113 = .ok (.getfield 28, 3) := by decide +kernel
theorem d_Cr_init_116 : decode prog_3_method_1_code 116 = .ok (.iload_n 1, 1) := by decide +kernel
theorem d_Cr_init_117 : decode prog_3_method_1_code 117 = .ok (.new 9, 3) := by decide +kernel
theorem d_Cr_init_120 : decode prog_3_method_1_code 120 = .ok (.dup, 1) := by decide +kernel
theorem d_Cr_init_121 : decode prog_3_method_1_code 121 = .ok (.invokespecial 11, 3) := by decide +kernel
theorem d_Cr_init_124 : decode prog_3_method_1_code 124 = .ok (.aastore, 1) := by decide +kernel
theorem d_Cr_init_125 : decode prog_3_method_1_code 125 = .ok (.iinc 1 1, 3) := by decide +kernel
theorem d_Cr_init_128 : decode prog_3_method_1_code 128 = .ok (.goto (-25), 3) := by decide +kernel
theorem d_Cr_init_131 : decode prog_3_method_1_code 131 = .ok (.return_, 1) := by decide +kernel
theorem d_Mo_init_0 : decode prog_4_method_1_code 0 = .ok (.aload_n 0, 1) := by decide +kernel
theorem d_Mo_init_1 : decode prog_4_method_1_code 1 = .ok (.invokespecial 3, 3) := by decide +kernel
theorem d_Mo_init_4 : decode prog_4_method_1_code 4 = .ok (.aload_n 0, 1) := by decide +kernel
theorem d_Mo_init_5 : decode prog_4_method_1_code 5 = .ok (.bipush 8, 2) := by decide +kernel
theorem d_Mo_init_7 : decode prog_4_method_1_code 7 = .ok (.newarray .int, 2) := by decide +kernel
theorem d_Mo_init_9 : decode prog_4_method_1_code 9 = .ok (.putfield 9, 3) := by decide +kernel
theorem d_Mo_init_12 : decode prog_4_method_1_code 12 = .ok (.aload_n 0, 1) := by decide +kernel
theorem d_Mo_init_13 : decode prog_4_method_1_code 13 = .ok (.bipush 90, 2) := by decide +kernel
theorem d_Mo_init_15 : decode prog_4_method_1_code 15 = .ok (.newarray .int, 2) := by decide +kernel
theorem d_Mo_init_17 : decode prog_4_method_1_code 17 = .ok (.putfield 15, 3) := by decide +kernel
theorem d_Mo_init_20 : decode prog_4_method_1_code 20 = .ok (.aload_n 0, 1) := by decide +kernel
theorem d_Mo_init_21 : decode prog_4_method_1_code 21 = .ok (.sipush 449, 3) := by decide +kernel
theorem d_Mo_init_24 : decode prog_4_method_1_code 24 = .ok (.putfield 18, 3) := by decide +kernel
theorem d_Mo_init_27 : decode prog_4_method_1_code 27 = .ok (.return_, 1) := by decide +kernel
theorem d_As_init_0 : decode prog_2_method_1_code 0 = .ok (.aload_n 0, 1) := by decide +kernel
theorem d_As_init_1 : decode prog_2_method_1_code 1 = .ok (.invokespecial 3, 3) := by decide +kernel
theorem d_As_init_4 : decode prog_2_method_1_code 4 = .ok (.aload_n 0, 1) := by decide +kernel
theorem d_As_init_5 : decode prog_2_method_1_code 5 = .ok (.bipush 64, 2) := by decide +kernel
theorem d_As_init_7 : decode prog_2_method_1_code 7 = .ok (.newarray .int, 2) := by decide +kernel
theorem d_As_init_9 : decode prog_2_method_1_code 9 = .ok (.putfield 9, 3) := by decide +kernel
theorem d_As_init_12 : decode prog_2_method_1_code 12 = .ok (.aload_n 0, 1) := by decide +kernel
theorem d_As_init_13 : decode prog_2_method_1_code 13 = .ok (.aload_n 1, 1) := by decide +kernel
theorem d_As_init_14 : decode prog_2_method_1_code 14 = .ok (.putfield 15, 3) := by decide +kernel
theorem d_As_init_17 : decode prog_2_method_1_code 17 = .ok (.aload_n 0, 1) := by decide +kernel
theorem d_As_init_18 : decode prog_2_method_1_code 18 = .ok (.aload_n 1, 1) := by decide +kernel
theorem d_As_init_19 : decode prog_2_method_1_code 19 = .ok (.getfield 19, 3) := by decide +kernel
theorem d_As_init_22 : decode prog_2_method_1_code 22 = .ok (.putfield 25, 3) := by decide +kernel
theorem d_As_init_25 : decode prog_2_method_1_code 25 = .ok (.return_, 1) := by decide +kernel
theorem d_Ou_init_0 : decode prog_5_method_1_code 0 = .ok (.aload_n 0, 1) := by decide +kernel
theorem d_Ou_init_1 : decode prog_5_method_1_code 1 = .ok (.invokespecial 3, 3) := by decide +kernel
theorem d_Ou_init_4 : decode prog_5_method_1_code 4 = .ok (.aload_n 0, 1) := by decide +kernel
theorem d_Ou_init_5 : decode prog_5_method_1_code 5 = .ok (.bipush 9, 2) := by decide +kernel
theorem d_Ou_init_7 : decode prog_5_method_1_code 7 = .ok (.newarray .int, 2) := by decide +kernel
theorem d_Ou_init_9 : decode prog_5_method_1_code 9 = .ok (.putfield 9, 3) := by decide +kernel
theorem d_Ou_init_12 : decode prog_5_method_1_code 12 = .ok (.aload_n 0, 1) := by decide +kernel
theorem d_Ou_init_13 : decode prog_5_method_1_code 13 = .ok (.bipush 9, 2) := by decide +kernel
theorem d_Ou_init_15 : decode prog_5_method_1_code 15 = .ok (.newarray .int, 2) := by decide +kernel
theorem d_Ou_init_17 : decode prog_5_method_1_code 17 = .ok (.putfield 15, 3) := by decide +kernel
theorem d_Ou_init_20 : decode prog_5_method_1_code 20 = .ok (.aload_n 0, 1) := by decide +kernel
theorem d_Ou_init_21 : decode prog_5_method_1_code 21 = .ok (.bipush 9, 2) := by decide +kernel
theorem d_Ou_init_23 : decode prog_5_method_1_code 23 = .ok (.newarray .int, 2) := by decide +kernel
theorem d_Ou_init_25 : decode prog_5_method_1_code 25 = .ok (.putfield 18, 3) := by decide +kernel
theorem d_Ou_init_28 : decode prog_5_method_1_code 28 = .ok (.return_, 1) := by decide +kernel
theorem d_Cr_addPerson_0 : decode prog_3_method_6_code 0 = .ok (.aload_n 0, 1) := by decide +kernel
theorem d_Cr_addPerson_1 : decode prog_3_method_6_code 1 = .ok (.getfield 12, 3) := by decide +kernel
theorem d_Cr_addPerson_4 : decode prog_3_method_6_code 4 = .ok (.getfield 93, 3) := by decide +kernel
theorem d_Cr_addPerson_7 : decode prog_3_method_6_code 7 = .ok (.istore_n 3, 1) := by decide +kernel
theorem d_Cr_addPerson_8 : decode prog_3_method_6_code 8 = .ok (.iload_n 1, 1) := by decide +kernel
theorem d_Cr_addPerson_9 : decode prog_3_method_6_code 9 = .ok (.ifCond .lt 24, 3) := by decide +kernel
theorem d_Cr_addPerson_12 : decode prog_3_method_6_code 12 = .ok (.iload_n 1, 1) := by decide +kernel
theorem d_Cr_addPerson_13 : decode prog_3_method_6_code 13 = .ok (.bipush 9, 2) := by decide +kernel
theorem d_Cr_addPerson_15 : decode prog_3_method_6_code 15 = .ok (.if_icmp .gt 18, 3) := by decide +kernel
theorem d_Cr_addPerson_18 : decode prog_3_method_6_code 18 = .ok (.iload_n 2, 1) := by decide +kernel
theorem d_Cr_addPerson_19 : decode prog_3_method_6_code 19 = .ok (.ifCond .lt 14, 3) := by decide +kernel
theorem d_Cr_addPerson_22 : decode prog_3_method_6_code 22 = .ok (.iload_n 2, 1) := by decide +kernel
theorem d_Cr_addPerson_23 : decode prog_3_method_6_code 23 = .ok (.iconst 3, 1) := by decide +kernel
theorem d_Cr_addPerson_24 : decode prog_3_method_6_code 24 = .ok (.if_icmp .gt 9, 3) := by decide +kernel
theorem d_Cr_addPerson_27 : decode prog_3_method_6_code 27 = .ok (.iload_n 3, 1) := by decide +kernel
theorem d_Cr_addPerson_28 : decode prog_3_method_6_code 28 = .ok (.bipush 8, 2) := by decide +kernel
theorem d_Cr_addPerson_30 : decode prog_3_method_6_code 30 = .ok (.if_icmp .lt 5, 3) := by decide +kernel
theorem d_Cr_addPerson_33 : decode prog_3_method_6_code 33 = .ok (.iconst (-1), 1) := by decide +kernel
theorem d_Cr_addPerson_34 : decode prog_3_method_6_code 34 = .ok (.ireturn, 1) := by decide +kernel
theorem d_Cr_addPerson_35 : decode prog_3_method_6_code 35 = .ok (.aload_n 0, 1) := by decide +kernel
theorem d_Cr_addPerson_36 : decode prog_3_method_6_code 36 = .ok (.getfield 12, 3) := by decide +kernel
theorem d_Cr_addPerson_39 : decode prog_3_method_6_code 39 = .ok (.getfield 96, 3) := by decide +kernel
theorem d_Cr_addPerson_42 : decode prog_3_method_6_code 42 = .ok (.iload_n 3, 1) := by decide +kernel
theorem d_Cr_addPerson_43 : decode prog_3_method_6_code 43 = .ok (.iload_n 1, 1) := by decide +kernel
theorem d_Cr_addPerson_44 : decode prog_3_method_6_code 44 = .ok (.invokestatic 99, 3) := by decide +kernel
theorem d_Cr_addPerson_47 : decode prog_3_method_6_code 47 = .ok (.aload_n 0, 1) := by decide +kernel
theorem d_Cr_addPerson_48 : decode prog_3_method_6_code 48 = .ok (.getfield 22, 3) := by decide +kernel
theorem d_Cr_addPerson_51 : decode prog_3_method_6_code 51 = .ok (.iload_n 3, 1) := by decide +kernel
theorem d_Cr_addPerson_52 : decode prog_3_method_6_code 52 = .ok (.iload_n 1, 1) := by decide +kernel
theorem d_Cr_addPerson_53 : decode prog_3_method_6_code 53 = .ok (.invokestatic 99, 3) := by decide +kernel
theorem d_Cr_addPerson_56 : decode prog_3_method_6_code 56 = .ok (.aload_n 0, 1) := by decide +kernel
theorem d_Cr_addPerson_57 : decode prog_3_method_6_code 57 = .ok (.getfield 18, 3) := by decide +kernel
theorem d_Cr_addPerson_60 : decode prog_3_method_6_code 60 = .ok (.iload_n 3, 1) := by decide +kernel
theorem d_Cr_addPerson_61 : decode prog_3_method_6_code 61 = .ok (.iload_n 2, 1) := by decide +kernel
theorem d_Cr_addPerson_62 : decode prog_3_method_6_code 62 = .ok (.invokestatic 99, 3) := by decide +kernel
theorem d_Cr_addPerson_65 : decode prog_3_method_6_code 65 = .ok (.aload_n 0, 1) := by decide +kernel
theorem d_Cr_addPerson_66 : decode prog_3_method_6_code 66 = .ok (.getfield 25, 3) := by decide +kernel
theorem d_Cr_addPerson_69 : decode prog_3_method_6_code 69 = .ok (.iload_n 3, 1) := by decide +kernel
theorem d_Cr_addPerson_70 : decode prog_3_method_6_code 70 = .ok (.iconst 0, 1) := by decide +kernel
theorem d_Cr_addPerson_71 : decode prog_3_method_6_code 71 = .ok (.invokestatic 99, 3) := by decide +kernel
theorem d_Cr_addPerson_74 : decode prog_3_method_6_code 74 = .ok (.aload_n 0, 1) := by decide +kernel
theorem d_Cr_addPerson_75 : decode prog_3_method_6_code 75 = .ok (.getfield 12, 3) := by decide +kernel
theorem d_Cr_addPerson_78 : decode prog_3_method_6_code 78 = .ok (.iload_n 3, 1) := by decide +kernel
theorem d_Cr_addPerson_79 : decode prog_3_method_6_code 79 = .ok (.iconst 1, 1) := by decide +kernel
theorem d_Cr_addPerson_80 : decode prog_3_method_6_code 80 = .ok (.iadd, 1) := by decide +kernel
theorem d_Cr_addPerson_81 : decode prog_3_method_6_code 81 = .ok (.putfield 93, 3) := by decide +kernel
theorem d_Cr_addPerson_84 : decode prog_3_method_6_code 84 = .ok (.iload_n 3, 1) := by decide +kernel
theorem d_Cr_addPerson_85 : decode prog_3_method_6_code 85 = .ok (.ireturn, 1) := by decide +kernel
theorem d_Cr_turnEar_0 : decode prog_3_method_7_code 0 = .ok (.aload_n 0, 1) := by decide +kernel
theorem d_Cr_turnEar_1 : decode prog_3_method_7_code 1 = .ok (.getfield 12, 3) := by decide +kernel
theorem d_Cr_turnEar_4 : decode prog_3_method_7_code 4 = .ok (.iload_n 1, 1) := by decide +kernel
theorem d_Cr_turnEar_5 : decode prog_3_method_7_code 5 = .ok (.invokevirtual 103, 3) := by decide +kernel
theorem d_Cr_turnEar_8 : decode prog_3_method_7_code 8 = .ok (.ifCond .eq 19, 3) := by decide +kernel
theorem d_Cr_turnEar_11 : decode prog_3_method_7_code 11 = .ok (.aload_n 0, 1) := by decide +kernel
theorem d_Cr_turnEar_12 : decode prog_3_method_7_code 12 = .ok (.getfield 12, 3) := by decide +kernel
theorem d_Cr_turnEar_15 : decode prog_3_method_7_code 15 = .ok (.iload_n 2, 1) := by decide +kernel
theorem d_Cr_turnEar_16 : decode prog_3_method_7_code 16 = .ok (.invokevirtual 103, 3) := by decide +kernel
theorem d_Cr_turnEar_19 : decode prog_3_method_7_code 19 = .ok (.ifCond .eq 8, 3) := by decide +kernel
theorem d_Cr_turnEar_22 : decode prog_3_method_7_code 22 = .ok (.iload_n 1, 1) := by decide +kernel
theorem d_Cr_turnEar_23 : decode prog_3_method_7_code 23 = .ok (.iload_n 2, 1) := by decide +kernel
theorem d_Cr_turnEar_24 : decode prog_3_method_7_code 24 = .ok (.if_icmp .ne 5, 3) := by decide +kernel
theorem d_Cr_turnEar_27 : decode prog_3_method_7_code 27 = .ok (.iconst 0, 1) := by decide +kernel
theorem d_Cr_turnEar_28 : decode prog_3_method_7_code 28 = .ok (.ireturn, 1) := by decide +kernel
theorem d_Cr_turnEar_29 : decode prog_3_method_7_code 29 = .ok (.aload_n 0, 1) := by decide +kernel
theorem d_Cr_turnEar_30 : decode prog_3_method_7_code 30 = .ok (.getfield 25, 3) := by decide +kernel
theorem d_Cr_turnEar_33 : decode prog_3_method_7_code 33 = .ok (.iload_n 1, 1) := by decide +kernel
theorem d_Cr_turnEar_34 : decode prog_3_method_7_code 34 = .ok (.aload_n 0, 1) := by decide +kernel
theorem d_Cr_turnEar_35 : decode prog_3_method_7_code 35 = .ok (.getfield 25, 3) := by decide +kernel
theorem d_Cr_turnEar_38 : decode prog_3_method_7_code 38 = .ok (.iload_n 1, 1) := by decide +kernel
theorem d_Cr_turnEar_39 : decode prog_3_method_7_code 39 = .ok (.invokestatic 107, 3) := by decide +kernel
theorem d_Cr_turnEar_42 : decode prog_3_method_7_code 42 = .ok (.iconst 1, 1) := by decide +kernel
theorem d_Cr_turnEar_43 : decode prog_3_method_7_code 43 = .ok (.iload_n 2, 1) := by decide +kernel
theorem d_Cr_turnEar_44 : decode prog_3_method_7_code 44 = .ok (.ishl, 1) := by decide +kernel
theorem d_Cr_turnEar_45 : decode prog_3_method_7_code 45 = .ok (.ixor, 1) := by decide +kernel
theorem d_Cr_turnEar_46 : decode prog_3_method_7_code 46 = .ok (.invokestatic 99, 3) := by decide +kernel
theorem d_Cr_turnEar_49 : decode prog_3_method_7_code 49 = .ok (.iconst 1, 1) := by decide +kernel
theorem d_Cr_turnEar_50 : decode prog_3_method_7_code 50 = .ok (.ireturn, 1) := by decide +kernel
theorem d_Mo_hasPerson_0 : decode prog_4_method_3_code 0 = .ok (.iload_n 1, 1) := by decide +kernel
theorem d_Mo_hasPerson_1 : decode prog_4_method_3_code 1 = .ok (.ifCond .lt 15, 3) := by decide +kernel
theorem d_Mo_hasPerson_4 : decode prog_4_method_3_code 4 = .ok (.iload_n 1, 1) := by decide +kernel
theorem d_Mo_hasPerson_5 : decode prog_4_method_3_code 5 = .ok (.aload_n 0, 1) := by decide +kernel
theorem d_Mo_hasPerson_6 : decode prog_4_method_3_code 6 = .ok (.getfield 28, 3) := by decide +kernel
theorem d_Mo_hasPerson_9 : decode prog_4_method_3_code 9 = .ok (.if_icmp .ge 7, 3) := by decide +kernel
theorem d_Mo_hasPerson_12 : decode prog_4_method_3_code 12 = .ok (.iconst 1, 1) := by decide +kernel
theorem d_Mo_hasPerson_13 : decode prog_4_method_3_code 13 = .ok (.goto 4, 3) := by decide +kernel
theorem d_Mo_hasPerson_16 : decode prog_4_method_3_code 16 = .ok (.iconst 0, 1) := by decide +kernel
theorem d_Mo_hasPerson_17 : decode prog_4_method_3_code 17 = .ok (.ireturn, 1) := by decide +kernel
theorem d_JS_length_0 : decode prog_17_method_54_code 0 = .ok (.aload_n 0, 1) := by decide +kernel
theorem d_JS_length_1 : decode prog_17_method_54_code 1 = .ok (.getfield 9, 3) := by decide +kernel
theorem d_JS_length_4 : decode prog_17_method_54_code 4 = .ok (.arraylength, 1) := by decide +kernel
theorem d_JS_length_5 : decode prog_17_method_54_code 5 = .ok (.aload_n 0, 1) := by decide +kernel
theorem d_JS_length_6 : decode prog_17_method_54_code 6 = .ok (.invokevirtual 335, 3) := by decide +kernel
theorem d_JS_length_9 : decode prog_17_method_54_code 9 = .ok (.ishr, 1) := by decide +kernel
theorem d_JS_length_10 : decode prog_17_method_54_code 10 = .ok (.ireturn, 1) := by decide +kernel
theorem d_JS_coder_0 : decode prog_17_method_152_code 0 = .ok (.getstatic 38, 3) := by decide +kernel
theorem d_JS_coder_3 : decode prog_17_method_152_code 3 = .ok (.ifCond .eq 10, 3) := by decide +kernel
theorem d_JS_coder_6 : decode prog_17_method_152_code 6 = .ok (.aload_n 0, 1) := by decide +kernel
theorem d_JS_coder_7 : decode prog_17_method_152_code 7 = .ok (.getfield 15, 3) := by decide +kernel
theorem d_JS_coder_10 : decode prog_17_method_152_code 10 = .ok (.goto 4, 3) := by decide +kernel
theorem d_JS_coder_13 : decode prog_17_method_152_code 13 = .ok (.iconst 1, 1) := by decide +kernel
theorem d_JS_coder_14 : decode prog_17_method_152_code 14 = .ok (.ireturn, 1) := by decide +kernel
theorem d_JS_charAt_0 : decode prog_17_method_56_code 0 = .ok (.aload_n 0, 1) := by decide +kernel
theorem d_JS_charAt_1 : decode prog_17_method_56_code 1 = .ok (.invokevirtual 492, 3) := by decide +kernel
theorem d_JS_charAt_4 : decode prog_17_method_56_code 4 = .ok (.ifCond .eq 12, 3) := by decide +kernel
theorem d_JS_charAt_7 : decode prog_17_method_56_code 7 = .ok (.aload_n 0, 1) := by decide +kernel
theorem d_JS_charAt_8 : decode prog_17_method_56_code 8 = .ok (.getfield 9, 3) := by decide +kernel
theorem d_JS_charAt_11 : decode prog_17_method_56_code 11 = .ok (.iload_n 1, 1) := by decide +kernel
theorem d_JS_charAt_12 : decode prog_17_method_56_code 12 = .ok (.invokestatic 495, 3) := by decide +kernel
theorem d_JS_charAt_15 : decode prog_17_method_56_code 15 = .ok (.ireturn, 1) := by decide +kernel
theorem d_JS_charAt_16 : decode prog_17_method_56_code 16 = .ok (.aload_n 0, 1) := by decide +kernel
theorem d_JS_charAt_17 : decode prog_17_method_56_code 17 = .ok (.getfield 9, 3) := by decide +kernel
theorem d_JS_charAt_20 : decode prog_17_method_56_code 20 = .ok (.iload_n 1, 1) := by decide +kernel
theorem d_JS_charAt_21 : decode prog_17_method_56_code 21 = .ok (.invokestatic 498, 3) := by decide +kernel
theorem d_JS_charAt_24 : decode prog_17_method_56_code 24 = .ok (.ireturn, 1) := by decide +kernel
theorem d_JS_isLatin1_0 : decode prog_17_method_154_code 0 = .ok (.getstatic 38, 3) := by decide +kernel
theorem d_JS_isLatin1_3 : decode prog_17_method_154_code 3 = .ok (.ifCond .eq 14, 3) := by decide +kernel
theorem d_JS_isLatin1_6 : decode prog_17_method_154_code 6 = .ok (.aload_n 0, 1) := by decide +kernel
theorem d_JS_isLatin1_7 : decode prog_17_method_154_code 7 = .ok (.getfield 15, 3) := by decide +kernel
theorem d_JS_isLatin1_10 : decode prog_17_method_154_code 10 = .ok (.ifCond .ne 7, 3) := by decide +kernel
theorem d_JS_isLatin1_13 : decode prog_17_method_154_code 13 = .ok (.iconst 1, 1) := by decide +kernel
theorem d_JS_isLatin1_14 : decode prog_17_method_154_code 14 = .ok (.goto 4, 3) := by decide +kernel
theorem d_JS_isLatin1_17 : decode prog_17_method_154_code 17 = .ok (.iconst 0, 1) := by decide +kernel
theorem d_JS_isLatin1_18 : decode prog_17_method_154_code 18 = .ok (.ireturn, 1) := by decide +kernel
theorem d_JL_charAt_0 : decode prog_18_method_2_code 0 = .ok (.iload_n 1, 1) := by decide +kernel
theorem d_JL_charAt_1 : decode prog_18_method_2_code 1 = .ok (.aload_n 0, 1) := by decide +kernel
theorem d_JL_charAt_2 : decode prog_18_method_2_code 2 = .ok (.arraylength, 1) := by decide +kernel
theorem d_JL_charAt_3 : decode prog_18_method_2_code 3 = .ok (.invokestatic 9, 3) := by decide +kernel
theorem d_JL_charAt_6 : decode prog_18_method_2_code 6 = .ok (.aload_n 0, 1) := by decide +kernel
theorem d_JL_charAt_7 : decode prog_18_method_2_code 7 = .ok (.iload_n 1, 1) := by decide +kernel
theorem d_JL_charAt_8 : decode prog_18_method_2_code 8 = .ok (.baload, 1) := by decide +kernel
theorem d_JL_charAt_9 : decode prog_18_method_2_code 9 = .ok (.sipush 255, 3) := by decide +kernel
theorem d_JL_charAt_12 : decode prog_18_method_2_code 12 = .ok (.iand, 1) := by decide +kernel
theorem d_JL_charAt_13 : decode prog_18_method_2_code 13 = .ok (.i2c, 1) := by decide +kernel
theorem d_JL_charAt_14 : decode prog_18_method_2_code 14 = .ok (.ireturn, 1) := by decide +kernel
theorem d_JS_checkIndex_0 : decode prog_17_method_155_code 0 = .ok (.iload_n 0, 1) := by decide +kernel
theorem d_JS_checkIndex_1 : decode prog_17_method_155_code 1 = .ok (.iload_n 1, 1) := by decide +kernel
theorem d_JS_checkIndex_2 : decode prog_17_method_155_code 2 = .ok (.getstatic 1053, 3) := by decide +kernel
theorem d_JS_checkIndex_5 : decode prog_17_method_155_code 5 = .ok (.invokestatic 1059, 3) := by decide +kernel
theorem d_JS_checkIndex_8 : decode prog_17_method_155_code 8 = .ok (.pop, 1) := by decide +kernel
theorem d_JS_checkIndex_9 : decode prog_17_method_155_code 9 = .ok (.return_, 1) := by decide +kernel
theorem d_JP_checkIndex_0 : decode prog_22_method_11_code 0 = .ok (.iload_n 0, 1) := by decide +kernel
theorem d_JP_checkIndex_1 : decode prog_22_method_11_code 1 = .ok (.ifCond .lt 8, 3) := by decide +kernel
theorem d_JP_checkIndex_4 : decode prog_22_method_11_code 4 = .ok (.iload_n 0, 1) := by decide +kernel
theorem d_JP_checkIndex_5 : decode prog_22_method_11_code 5 = .ok (.iload_n 1, 1) := by decide +kernel
theorem d_JP_checkIndex_6 : decode prog_22_method_11_code 6 = .ok (.if_icmp .lt 10, 3) := by decide +kernel
theorem d_JP_checkIndex_9 : decode prog_22_method_11_code 9 = .ok (.aload_n 2, 1) := by decide +kernel
theorem d_JP_checkIndex_10 : decode prog_22_method_11_code 10 = .ok (.iload_n 0, 1) := by decide +kernel
theorem d_JP_checkIndex_11 : decode prog_22_method_11_code 11 = .ok (.iload_n 1, 1) := by decide +kernel
theorem d_JP_checkIndex_12 : decode prog_22_method_11_code 12 = .ok (.invokestatic 95, 3) := by decide +kernel
theorem d_JP_checkIndex_15 : decode prog_22_method_11_code 15 = .ok (.athrow, 1) := by decide +kernel
theorem d_JP_checkIndex_16 : decode prog_22_method_11_code 16 = .ok (.iload_n 0, 1) := by decide +kernel
theorem d_JP_checkIndex_17 : decode prog_22_method_11_code 17 = .ok (.ireturn, 1) := by decide +kernel
theorem d_JS_indexOf_I_0 : decode prog_17_method_79_code 0 = .ok (.aload_n 0, 1) := by decide +kernel
theorem d_JS_indexOf_I_1 : decode prog_17_method_79_code 1 = .ok (.iload_n 1, 1) := by decide +kernel
theorem d_JS_indexOf_I_2 : decode prog_17_method_79_code 2 = .ok (.iconst 0, 1) := by decide +kernel
theorem d_JS_indexOf_I_3 : decode prog_17_method_79_code 3 = .ok (.invokevirtual 633, 3) := by decide +kernel
theorem d_JS_indexOf_I_6 : decode prog_17_method_79_code 6 = .ok (.ireturn, 1) := by decide +kernel
theorem d_JS_indexOf_II_0 : decode prog_17_method_80_code 0 = .ok (.aload_n 0, 1) := by decide +kernel
theorem d_JS_indexOf_II_1 : decode prog_17_method_80_code 1 = .ok (.invokevirtual 492, 3) := by decide +kernel
theorem d_JS_indexOf_II_4 : decode prog_17_method_80_code 4 = .ok (.ifCond .eq 19, 3) := by decide +kernel
theorem d_JS_indexOf_II_7 : decode prog_17_method_80_code 7 = .ok (.aload_n 0, 1) := by decide +kernel
theorem d_JS_indexOf_II_8 : decode prog_17_method_80_code 8 = .ok (.getfield 9, 3) := by decide +kernel
theorem d_JS_indexOf_II_11 : decode prog_17_method_80_code 11 = .ok (.iload_n 1, 1) := by decide +kernel
theorem d_JS_indexOf_II_12 : decode prog_17_method_80_code 12 = .ok (.iload_n 2, 1) := by decide +kernel
theorem d_JS_indexOf_II_13 : decode prog_17_method_80_code 13 = .ok (.aload_n 0, 1) := by decide +kernel
theorem d_JS_indexOf_II_14 : decode prog_17_method_80_code 14 = .ok (.invokevirtual 505, 3) := by decide +kernel
theorem d_JS_indexOf_II_17 : decode prog_17_method_80_code 17 = .ok (.invokestatic 637, 3) := by decide +kernel
theorem d_JS_indexOf_II_20 : decode prog_17_method_80_code 20 = .ok (.goto 16, 3) := by decide +kernel
theorem d_JS_indexOf_II_23 : decode prog_17_method_80_code 23 = .ok (.aload_n 0, 1) := by decide +kernel
theorem d_JS_indexOf_II_24 : decode prog_17_method_80_code 24 = .ok (.getfield 9, 3) := by decide +kernel
theorem d_JS_indexOf_II_27 : decode prog_17_method_80_code 27 = .ok (.iload_n 1, 1) := by decide +kernel
theorem d_JS_indexOf_II_28 : decode prog_17_method_80_code 28 = .ok (.iload_n 2, 1) := by decide +kernel
theorem d_JS_indexOf_II_29 : decode prog_17_method_80_code 29 = .ok (.aload_n 0, 1) := by decide +kernel
theorem d_JS_indexOf_II_30 : decode prog_17_method_80_code 30 = .ok (.invokevirtual 505, 3) := by decide +kernel
theorem d_JS_indexOf_II_33 : decode prog_17_method_80_code 33 = .ok (.invokestatic 640, 3) := by decide +kernel
theorem d_JS_indexOf_II_36 : decode prog_17_method_80_code 36 = .ok (.ireturn, 1) := by decide +kernel
theorem d_JL_indexOf_0 : decode prog_18_method_22_code 0 = .ok (.iload_n 1, 1) := by decide +kernel
theorem d_JL_indexOf_1 : decode prog_18_method_22_code 1 = .ok (.invokestatic 88, 3) := by decide +kernel
theorem d_JL_indexOf_4 : decode prog_18_method_22_code 4 = .ok (.ifCond .ne 5, 3) := by decide +kernel
theorem d_JL_indexOf_7 : decode prog_18_method_22_code 7 = .ok (.iconst (-1), 1) := by decide +kernel
theorem d_JL_indexOf_8 : decode prog_18_method_22_code 8 = .ok (.ireturn, 1) := by decide +kernel
theorem d_JL_indexOf_9 : decode prog_18_method_22_code 9 = .ok (.iload_n 2, 1) := by decide +kernel
theorem d_JL_indexOf_10 : decode prog_18_method_22_code 10 = .ok (.iconst 0, 1) := by decide +kernel
theorem d_JL_indexOf_11 : decode prog_18_method_22_code 11 = .ok (.invokestatic 92, 3) := by decide +kernel
theorem d_JL_indexOf_14 : decode prog_18_method_22_code 14 = .ok (.istore_n 2, 1) := by decide +kernel
theorem d_JL_indexOf_15 : decode prog_18_method_22_code 15 = .ok (.iload_n 3, 1) := by decide +kernel
theorem d_JL_indexOf_16 : decode prog_18_method_22_code 16 = .ok (.aload_n 0, 1) := by decide +kernel
theorem d_JL_indexOf_17 : decode prog_18_method_22_code 17 = .ok (.arraylength, 1) := by decide +kernel
theorem d_JL_indexOf_18 : decode prog_18_method_22_code 18 = .ok (.invokestatic 38, 3) := by decide +kernel
theorem d_JL_indexOf_21 : decode prog_18_method_22_code 21 = .ok (.istore_n 3, 1) := by decide +kernel
theorem d_JL_indexOf_22 : decode prog_18_method_22_code 22 = .ok (.iload_n 2, 1) := by decide +kernel
theorem d_JL_indexOf_23 : decode prog_18_method_22_code 23 = .ok (.iload_n 3, 1) := by decide +kernel
theorem d_JL_indexOf_24 : decode prog_18_method_22_code 24 = .ok (.if_icmp .lt 5, 3) := by decide +kernel
theorem d_JL_indexOf_27 : decode prog_18_method_22_code 27 = .ok (.iconst (-1), 1) := by decide +kernel
theorem d_JL_indexOf_28 : decode prog_18_method_22_code 28 = .ok (.ireturn, 1) := by decide +kernel
theorem d_JL_indexOf_29 : decode prog_18_method_22_code 29 = .ok (.aload_n 0, 1) := by decide +kernel
theorem d_JL_indexOf_30 : decode prog_18_method_22_code 30 = .ok (.iload_n 1, 1) := by decide +kernel
theorem d_JL_indexOf_31 : decode prog_18_method_22_code 31 = .ok (.iload_n 2, 1) := by decide +kernel
theorem d_JL_indexOf_32 : decode prog_18_method_22_code 32 = .ok (.iload_n 3, 1) := by decide +kernel
theorem d_JL_indexOf_33 : decode prog_18_method_22_code 33 = .ok (.invokestatic 95, 3) := by decide +kernel
theorem d_JL_indexOf_36 : decode prog_18_method_22_code 36 = .ok (.ireturn, 1) := by decide +kernel
theorem d_JL_canEncode_0 : decode prog_18_method_4_code 0 = .ok (.iload_n 0, 1) := by decide +kernel
theorem d_JL_canEncode_1 : decode prog_18_method_4_code 1 = .ok (.ifCond .lt 14, 3) := by decide +kernel
theorem d_JL_canEncode_4 : decode prog_18_method_4_code 4 = .ok (.iload_n 0, 1) := by decide +kernel
theorem d_JL_canEncode_5 : decode prog_18_method_4_code 5 = .ok (.sipush 255, 3) := by decide +kernel
theorem d_JL_canEncode_8 : decode prog_18_method_4_code 8 = .ok (.if_icmp .gt 7, 3) := by decide +kernel
theorem d_JL_canEncode_11 : decode prog_18_method_4_code 11 = .ok (.iconst 1, 1) := by decide +kernel
theorem d_JL_canEncode_12 : decode prog_18_method_4_code 12 = .ok (.goto 4, 3) := by decide +kernel
theorem d_JL_canEncode_15 : decode prog_18_method_4_code 15 = .ok (.iconst 0, 1) := by decide +kernel
theorem d_JL_canEncode_16 : decode prog_18_method_4_code 16 = .ok (.ireturn, 1) := by decide +kernel
theorem d_JL_indexOfChar_0 : decode prog_18_method_23_code 0 = .ok (.iload_n 1, 1) := by decide +kernel
theorem d_JL_indexOfChar_1 : decode prog_18_method_23_code 1 = .ok (.i2b, 1) := by decide +kernel
theorem d_JL_indexOfChar_2 : decode prog_18_method_23_code 2 = .ok (.istore 4, 2) := by decide +kernel
theorem d_JL_indexOfChar_4 : decode prog_18_method_23_code 4 = .ok (.iload_n 2, 1) := by decide +kernel
theorem d_JL_indexOfChar_5 : decode prog_18_method_23_code 5 = .ok (.istore 5, 2) := by decide +kernel
theorem d_JL_indexOfChar_7 : decode prog_18_method_23_code 7 = .ok (.iload 5, 2) := by decide +kernel
theorem d_JL_indexOfChar_9 : decode prog_18_method_23_code 9 = .ok (.iload_n 3, 1) := by decide +kernel
theorem d_JL_indexOfChar_10 : decode prog_18_method_23_code 10 = .ok (.if_icmp .ge 21, 3) := by decide +kernel
theorem d_JL_indexOfChar_13 : decode prog_18_method_23_code 13 = .ok (.aload_n 0, 1) := by decide +kernel
theorem d_JL_indexOfChar_14 : decode prog_18_method_23_code 14 = .ok (.iload 5, 2) := by decide +kernel
theorem d_JL_indexOfChar_16 : decode prog_18_method_23_code 16 = .ok (.baload, 1) := by decide +kernel
theorem d_JL_indexOfChar_17 : decode prog_18_method_23_code 17 = .ok (.iload 4, 2) := by decide +kernel
theorem d_JL_indexOfChar_19 : decode prog_18_method_23_code 19 = .ok (.if_icmp .ne 6, 3) := by decide +kernel
theorem d_JL_indexOfChar_22 : decode prog_18_method_23_code 22 = .ok (.iload 5, 2) := by decide +kernel
theorem d_JL_indexOfChar_24 : decode prog_18_method_23_code 24 = .ok (.ireturn, 1) := by decide +kernel
theorem d_JL_indexOfChar_25 : decode prog_18_method_23_code 25 = .ok (.iinc 5 1, 3) := by decide +kernel
theorem d_JL_indexOfChar_28 : decode prog_18_method_23_code 28 = .ok (.goto (-21), 3) := by decide +kernel
theorem d_JL_indexOfChar_31 : decode prog_18_method_23_code 31 = .ok (.iconst (-1), 1) := by decide +kernel
theorem d_JL_indexOfChar_32 : decode prog_18_method_23_code 32 = .ok (.ireturn, 1) := by decide +kernel
theorem d_JS_checkBoundsBeginEnd_0 : decode prog_17_method_158_code 0 = .ok (.iload_n 0, 1) := by decide +kernel
theorem d_JS_checkBoundsBeginEnd_1 : decode prog_17_method_158_code 1 = .ok (.iload_n 1, 1) := by decide +kernel
theorem d_JS_checkBoundsBeginEnd_2 : decode prog_17_method_158_code 2 = .ok (.iload_n 2, 1) := by decide +kernel
theorem d_JS_checkBoundsBeginEnd_3 : decode prog_17_method_158_code 3 = .ok (.getstatic 1053, 3) := by decide +kernel
theorem d_JS_checkBoundsBeginEnd_6 : decode prog_17_method_158_code 6 = .ok (.invokestatic 1062, 3) := by decide +kernel
theorem d_JS_checkBoundsBeginEnd_9 : decode prog_17_method_158_code 9 = .ok (.pop, 1) := by decide +kernel
theorem d_JS_checkBoundsBeginEnd_10 : decode prog_17_method_158_code 10 = .ok (.return_, 1) := by decide +kernel
theorem d_JP_checkFromToIndex_0 : decode prog_22_method_12_code 0 = .ok (.iload_n 0, 1) := by decide +kernel
theorem d_JP_checkFromToIndex_1 : decode prog_22_method_12_code 1 = .ok (.ifCond .lt 13, 3) := by decide +kernel
theorem d_JP_checkFromToIndex_4 : decode prog_22_method_12_code 4 = .ok (.iload_n 0, 1) := by decide +kernel
theorem d_JP_checkFromToIndex_5 : decode prog_22_method_12_code 5 = .ok (.iload_n 1, 1) := by decide +kernel
theorem d_JP_checkFromToIndex_6 : decode prog_22_method_12_code 6 = .ok (.if_icmp .gt 8, 3) := by decide +kernel
theorem d_JP_checkFromToIndex_9 : decode prog_22_method_12_code 9 = .ok (.iload_n 1, 1) := by decide +kernel
theorem d_JP_checkFromToIndex_10 : decode prog_22_method_12_code 10 = .ok (.iload_n 2, 1) := by decide +kernel
theorem d_JP_checkFromToIndex_11 : decode prog_22_method_12_code 11 = .ok (.if_icmp .le 11, 3) := by decide +kernel
theorem d_JP_checkFromToIndex_14 : decode prog_22_method_12_code 14 = .ok (.aload_n 3, 1) := by decide +kernel
theorem d_JP_checkFromToIndex_15 : decode prog_22_method_12_code 15 = .ok (.iload_n 0, 1) := by decide +kernel
theorem d_JP_checkFromToIndex_16 : decode prog_22_method_12_code 16 = .ok (.iload_n 1, 1) := by decide +kernel
theorem d_JP_checkFromToIndex_17 : decode prog_22_method_12_code 17 = .ok (.iload_n 2, 1) := by decide +kernel
theorem d_JP_checkFromToIndex_18 : decode prog_22_method_12_code 18 = .ok (.invokestatic 99, 3) := by decide +kernel
theorem d_JP_checkFromToIndex_21 : decode prog_22_method_12_code 21 = .ok (.athrow, 1) := by decide +kernel
theorem d_JP_checkFromToIndex_22 : decode prog_22_method_12_code 22 = .ok (.iload_n 0, 1) := by decide +kernel
theorem d_JP_checkFromToIndex_23 : decode prog_22_method_12_code 23 = .ok (.ireturn, 1) := by decide +kernel
theorem d_JA_copyOf_0 : decode prog_21_method_123_code 0 = .ok (.iload_n 1, 1) := by decide +kernel
theorem d_JA_copyOf_1 : decode prog_21_method_123_code 1 = .ok (.aload_n 0, 1) := by decide +kernel
theorem d_JA_copyOf_2 : decode prog_21_method_123_code 2 = .ok (.arraylength, 1) := by decide +kernel
theorem d_JA_copyOf_3 : decode prog_21_method_123_code 3 = .ok (.if_icmp .ne 11, 3) := by decide +kernel
theorem d_JA_copyOf_6 : decode prog_21_method_123_code 6 = .ok (.aload_n 0, 1) := by decide +kernel
theorem d_JA_copyOf_7 : decode prog_21_method_123_code 7 = .ok (.invokevirtual 316, 3) := by decide +kernel
theorem d_JA_copyOf_10 : decode prog_21_method_123_code 10 = .ok (.checkcast 317, 3) := by decide +kernel
theorem d_JA_copyOf_13 : decode prog_21_method_123_code 13 = .ok (.areturn, 1) := by decide +kernel
theorem d_JA_copyOf_14 : decode prog_21_method_123_code 14 = .ok (.iload_n 1, 1) := by decide +kernel
theorem d_JA_copyOf_15 : decode prog_21_method_123_code 15 = .ok (.newarray .int, 2) := by decide +kernel
theorem d_JA_copyOf_17 : decode prog_21_method_123_code 17 = .ok (.astore_n 2, 1) := by decide +kernel
theorem d_JA_copyOf_18 : decode prog_21_method_123_code 18 = .ok (.aload_n 0, 1) := by decide +kernel
theorem d_JA_copyOf_19 : decode prog_21_method_123_code 19 = .ok (.iconst 0, 1) := by decide +kernel
theorem d_JA_copyOf_20 : decode prog_21_method_123_code 20 = .ok (.aload_n 2, 1) := by decide +kernel
theorem d_JA_copyOf_21 : decode prog_21_method_123_code 21 = .ok (.iconst 0, 1) := by decide +kernel
theorem d_JA_copyOf_22 : decode prog_21_method_123_code 22 = .ok (.aload_n 0, 1) := by decide +kernel
theorem d_JA_copyOf_23 : decode prog_21_method_123_code 23 = .ok (.arraylength, 1) := by decide +kernel
theorem d_JA_copyOf_24 : decode prog_21_method_123_code 24 = .ok (.iload_n 1, 1) := by decide +kernel
theorem d_JA_copyOf_25 : decode prog_21_method_123_code 25 = .ok (.invokestatic 304, 3) := by decide +kernel
theorem d_JA_copyOf_28 : decode prog_21_method_123_code 28 = .ok (.invokestatic 150, 3) := by decide +kernel
theorem d_JA_copyOf_31 : decode prog_21_method_123_code 31 = .ok (.aload_n 2, 1) := by decide +kernel
theorem d_JA_copyOf_32 : decode prog_21_method_123_code 32 = .ok (.areturn, 1) := by decide +kernel
theorem d_Cr_addText_0 : decode prog_3_method_8_code 0 = .ok (.aload_n 0, 1) := by decide +kernel
theorem d_Cr_addText_1 : decode prog_3_method_8_code 1 = .ok (.getfield 75, 3) := by decide +kernel
theorem d_Cr_addText_4 : decode prog_3_method_8_code 4 = .ok (.ifCond .lt 15, 3) := by decide +kernel
theorem d_Cr_addText_7 : decode prog_3_method_8_code 7 = .ok (.aload_n 0, 1) := by decide +kernel
theorem d_Cr_addText_8 : decode prog_3_method_8_code 8 = .ok (.getfield 75, 3) := by decide +kernel
theorem d_Cr_addText_11 : decode prog_3_method_8_code 11 = .ok (.aload_n 0, 1) := by decide +kernel
theorem d_Cr_addText_12 : decode prog_3_method_8_code 12 = .ok (.getfield 34, 3) := by decide +kernel
theorem d_Cr_addText_15 : decode prog_3_method_8_code 15 = .ok (.arraylength, 1) := by decide +kernel
theorem d_Cr_addText_16 : decode prog_3_method_8_code 16 = .ok (.if_icmp .lt 5, 3) := by decide +kernel
theorem d_Cr_addText_19 : decode prog_3_method_8_code 19 = .ok (.iconst (-1), 1) := by decide +kernel
theorem d_Cr_addText_20 : decode prog_3_method_8_code 20 = .ok (.ireturn, 1) := by decide +kernel
theorem d_Cr_addText_21 : decode prog_3_method_8_code 21 = .ok (.aload_n 0, 1) := by decide +kernel
theorem d_Cr_addText_22 : decode prog_3_method_8_code 22 = .ok (.getfield 34, 3) := by decide +kernel
theorem d_Cr_addText_25 : decode prog_3_method_8_code 25 = .ok (.aload_n 0, 1) := by decide +kernel
theorem d_Cr_addText_26 : decode prog_3_method_8_code 26 = .ok (.getfield 75, 3) := by decide +kernel
theorem d_Cr_addText_29 : decode prog_3_method_8_code 29 = .ok (.aload_n 1, 1) := by decide +kernel
theorem d_Cr_addText_30 : decode prog_3_method_8_code 30 = .ok (.aastore, 1) := by decide +kernel
theorem d_Cr_addText_31 : decode prog_3_method_8_code 31 = .ok (.aload_n 0, 1) := by decide +kernel
theorem d_Cr_addText_32 : decode prog_3_method_8_code 32 = .ok (.dup, 1) := by decide +kernel
theorem d_Cr_addText_33 : decode prog_3_method_8_code 33 = .ok (.getfield 75, 3) := by decide +kernel
theorem d_Cr_addText_36 : decode prog_3_method_8_code 36 = .ok (.iconst 1, 1) := by decide +kernel
theorem d_Cr_addText_37 : decode prog_3_method_8_code 37 = .ok (.iadd, 1) := by decide +kernel
theorem d_Cr_addText_38 : decode prog_3_method_8_code 38 = .ok (.putfield 75, 3) := by decide +kernel
theorem d_Cr_addText_41 : decode prog_3_method_8_code 41 = .ok (.aload_n 0, 1) := by decide +kernel
theorem d_Cr_addText_42 : decode prog_3_method_8_code 42 = .ok (.getfield 75, 3) := by decide +kernel
theorem d_Cr_addText_45 : decode prog_3_method_8_code 45 = .ok (.iconst 1, 1) := by decide +kernel
theorem d_Cr_addText_46 : decode prog_3_method_8_code 46 = .ok (.isub, 1) := by decide +kernel
theorem d_Cr_addText_47 : decode prog_3_method_8_code 47 = .ok (.ireturn, 1) := by decide +kernel
theorem d_Cr_textAt_0 : decode prog_3_method_9_code 0 = .ok (.iload_n 1, 1) := by decide +kernel
theorem d_Cr_textAt_1 : decode prog_3_method_9_code 1 = .ok (.ifCond .lt 29, 3) := by decide +kernel
theorem d_Cr_textAt_4 : decode prog_3_method_9_code 4 = .ok (.iload_n 1, 1) := by decide +kernel
theorem d_Cr_textAt_5 : decode prog_3_method_9_code 5 = .ok (.aload_n 0, 1) := by decide +kernel
theorem d_Cr_textAt_6 : decode prog_3_method_9_code 6 = .ok (.getfield 75, 3) := by decide +kernel
theorem d_Cr_textAt_9 : decode prog_3_method_9_code 9 = .ok (.if_icmp .ge 21, 3) := by decide +kernel
theorem d_Cr_textAt_12 : decode prog_3_method_9_code 12 = .ok (.iload_n 1, 1) := by decide +kernel
theorem d_Cr_textAt_13 : decode prog_3_method_9_code 13 = .ok (.aload_n 0, 1) := by decide +kernel
theorem d_Cr_textAt_14 : decode prog_3_method_9_code 14 = .ok (.getfield 34, 3) := by decide +kernel
theorem d_Cr_textAt_17 : decode prog_3_method_9_code 17 = .ok (.arraylength, 1) := by decide +kernel
theorem d_Cr_textAt_18 : decode prog_3_method_9_code 18 = .ok (.if_icmp .ge 12, 3) := by decide +kernel
theorem d_Cr_textAt_21 : decode prog_3_method_9_code 21 = .ok (.aload_n 0, 1) := by decide +kernel
theorem d_Cr_textAt_22 : decode prog_3_method_9_code 22 = .ok (.getfield 34, 3) := by decide +kernel
theorem d_Cr_textAt_25 : decode prog_3_method_9_code 25 = .ok (.iload_n 1, 1) := by decide +kernel
theorem d_Cr_textAt_26 : decode prog_3_method_9_code 26 = .ok (.aaload, 1) := by decide +kernel
theorem d_Cr_textAt_27 : decode prog_3_method_9_code 27 = .ok (.goto 4, 3) := by decide +kernel
theorem d_Cr_textAt_30 : decode prog_3_method_9_code 30 = .ok (.aconst_null, 1) := by decide +kernel
theorem d_Cr_textAt_31 : decode prog_3_method_9_code 31 = .ok (.areturn, 1) := by decide +kernel
theorem d_Mo_canTell_0 : decode prog_4_method_4_code 0 = .ok (.iload_n 1, 1) := by decide +kernel
theorem d_Mo_canTell_1 : decode prog_4_method_4_code 1 = .ok (.ifCond .lt 22, 3) := by decide +kernel
theorem d_Mo_canTell_4 : decode prog_4_method_4_code 4 = .ok (.iload_n 1, 1) := by decide +kernel
theorem d_Mo_canTell_5 : decode prog_4_method_4_code 5 = .ok (.aload_n 0, 1) := by decide +kernel
theorem d_Mo_canTell_6 : decode prog_4_method_4_code 6 = .ok (.getfield 28, 3) := by decide +kernel
theorem d_Mo_canTell_9 : decode prog_4_method_4_code 9 = .ok (.if_icmp .gt 14, 3) := by decide +kernel
theorem d_Mo_canTell_12 : decode prog_4_method_4_code 12 = .ok (.aload_n 0, 1) := by decide +kernel
theorem d_Mo_canTell_13 : decode prog_4_method_4_code 13 = .ok (.invokevirtual 43, 3) := by decide +kernel
theorem d_Mo_canTell_16 : decode prog_4_method_4_code 16 = .ok (.ifCond .eq 7, 3) := by decide +kernel
theorem d_Mo_canTell_19 : decode prog_4_method_4_code 19 = .ok (.iconst 1, 1) := by decide +kernel
theorem d_Mo_canTell_20 : decode prog_4_method_4_code 20 = .ok (.goto 4, 3) := by decide +kernel
theorem d_Mo_canTell_23 : decode prog_4_method_4_code 23 = .ok (.iconst 0, 1) := by decide +kernel
theorem d_Mo_canTell_24 : decode prog_4_method_4_code 24 = .ok (.ireturn, 1) := by decide +kernel
theorem d_Mo_canPass_0 : decode prog_4_method_5_code 0 = .ok (.aload_n 0, 1) := by decide +kernel
theorem d_Mo_canPass_1 : decode prog_4_method_5_code 1 = .ok (.getfield 37, 3) := by decide +kernel
theorem d_Mo_canPass_4 : decode prog_4_method_5_code 4 = .ok (.sipush 9999, 3) := by decide +kernel
theorem d_Mo_canPass_7 : decode prog_4_method_5_code 7 = .ok (.if_icmp .ge 7, 3) := by decide +kernel
theorem d_Mo_canPass_10 : decode prog_4_method_5_code 10 = .ok (.iconst 1, 1) := by decide +kernel
theorem d_Mo_canPass_11 : decode prog_4_method_5_code 11 = .ok (.goto 4, 3) := by decide +kernel
theorem d_Mo_canPass_14 : decode prog_4_method_5_code 14 = .ok (.iconst 0, 1) := by decide +kernel
theorem d_Mo_canPass_15 : decode prog_4_method_5_code 15 = .ok (.ireturn, 1) := by decide +kernel
theorem d_Cr_keepStep_0 : decode prog_3_method_12_code 0 = .ok (.aload_n 0, 1) := by decide +kernel
theorem d_Cr_keepStep_1 : decode prog_3_method_12_code 1 = .ok (.aload_n 0, 1) := by decide +kernel
theorem d_Cr_keepStep_2 : decode prog_3_method_12_code 2 = .ok (.getfield 68, 3) := by decide +kernel
theorem d_Cr_keepStep_5 : decode prog_3_method_12_code 5 = .ok (.invokevirtual 115, 3) := by decide +kernel
theorem d_Cr_keepStep_8 : decode prog_3_method_12_code 8 = .ok (.aload_n 0, 1) := by decide +kernel
theorem d_Cr_keepStep_9 : decode prog_3_method_12_code 9 = .ok (.getfield 12, 3) := by decide +kernel
theorem d_Cr_keepStep_12 : decode prog_3_method_12_code 12 = .ok (.invokestatic 61, 3) := by decide +kernel
theorem d_Cr_keepStep_15 : decode prog_3_method_12_code 15 = .ok (.aload_n 0, 1) := by decide +kernel
theorem d_Cr_keepStep_16 : decode prog_3_method_12_code 16 = .ok (.getfield 68, 3) := by decide +kernel
theorem d_Cr_keepStep_19 : decode prog_3_method_12_code 19 = .ok (.bipush 30, 2) := by decide +kernel
theorem d_Cr_keepStep_21 : decode prog_3_method_12_code 21 = .ok (.if_icmp .ge 16, 3) := by decide +kernel
theorem d_Cr_keepStep_24 : decode prog_3_method_12_code 24 = .ok (.aload_n 0, 1) := by decide +kernel
theorem d_Cr_keepStep_25 : decode prog_3_method_12_code 25 = .ok (.dup, 1) := by decide +kernel
theorem d_Cr_keepStep_26 : decode prog_3_method_12_code 26 = .ok (.getfield 68, 3) := by decide +kernel
theorem d_Cr_keepStep_29 : decode prog_3_method_12_code 29 = .ok (.iconst 1, 1) := by decide +kernel
theorem d_Cr_keepStep_30 : decode prog_3_method_12_code 30 = .ok (.iadd, 1) := by decide +kernel
theorem d_Cr_keepStep_31 : decode prog_3_method_12_code 31 = .ok (.putfield 68, 3) := by decide +kernel
theorem d_Cr_keepStep_34 : decode prog_3_method_12_code 34 = .ok (.goto 16, 3) := by decide +kernel
theorem d_Cr_keepStep_37 : decode prog_3_method_12_code 37 = .ok (.aload_n 0, 1) := by decide +kernel
theorem d_Cr_keepStep_38 : decode prog_3_method_12_code 38 = .ok (.aload_n 0, 1) := by decide +kernel
theorem d_Cr_keepStep_39 : decode prog_3_method_12_code 39 = .ok (.getfield 65, 3) := by decide +kernel
theorem d_Cr_keepStep_42 : decode prog_3_method_12_code 42 = .ok (.iconst 1, 1) := by decide +kernel
theorem d_Cr_keepStep_43 : decode prog_3_method_12_code 43 = .ok (.iadd, 1) := by decide +kernel
theorem d_Cr_keepStep_44 : decode prog_3_method_12_code 44 = .ok (.bipush 30, 2) := by decide +kernel
theorem d_Cr_keepStep_46 : decode prog_3_method_12_code 46 = .ok (.irem, 1) := by decide +kernel
theorem d_Cr_keepStep_47 : decode prog_3_method_12_code 47 = .ok (.putfield 65, 3) := by decide +kernel
theorem d_Cr_keepStep_50 : decode prog_3_method_12_code 50 = .ok (.return_, 1) := by decide +kernel
theorem d_Cr_stepAt_0 : decode prog_3_method_11_code 0 = .ok (.aload_n 0, 1) := by decide +kernel
theorem d_Cr_stepAt_1 : decode prog_3_method_11_code 1 = .ok (.getfield 65, 3) := by decide +kernel
theorem d_Cr_stepAt_4 : decode prog_3_method_11_code 4 = .ok (.iload_n 1, 1) := by decide +kernel
theorem d_Cr_stepAt_5 : decode prog_3_method_11_code 5 = .ok (.iadd, 1) := by decide +kernel
theorem d_Cr_stepAt_6 : decode prog_3_method_11_code 6 = .ok (.bipush 30, 2) := by decide +kernel
theorem d_Cr_stepAt_8 : decode prog_3_method_11_code 8 = .ok (.irem, 1) := by decide +kernel
theorem d_Cr_stepAt_9 : decode prog_3_method_11_code 9 = .ok (.istore_n 2, 1) := by decide +kernel
theorem d_Cr_stepAt_10 : decode prog_3_method_11_code 10 = .ok (.iload_n 2, 1) := by decide +kernel
theorem d_Cr_stepAt_11 : decode prog_3_method_11_code 11 = .ok (.ifCond .lt 21, 3) := by decide +kernel
theorem d_Cr_stepAt_14 : decode prog_3_method_11_code 14 = .ok (.iload_n 2, 1) := by decide +kernel
theorem d_Cr_stepAt_15 : decode prog_3_method_11_code 15 = .ok (.aload_n 0, 1) := by decide +kernel
theorem d_Cr_stepAt_16 : decode prog_3_method_11_code 16 = .ok (.getfield 28, 3) := by decide +kernel
theorem d_Cr_stepAt_19 : decode prog_3_method_11_code 19 = .ok (.arraylength, 1) := by decide +kernel
theorem d_Cr_stepAt_20 : decode prog_3_method_11_code 20 = .ok (.if_icmp .ge 12, 3) := by decide +kernel
theorem d_Cr_stepAt_23 : decode prog_3_method_11_code 23 = .ok (.aload_n 0, 1) := by decide +kernel
theorem d_Cr_stepAt_24 : decode prog_3_method_11_code 24 = .ok (.getfield 28, 3) := by decide +kernel
theorem d_Cr_stepAt_27 : decode prog_3_method_11_code 27 = .ok (.iload_n 2, 1) := by decide +kernel
theorem d_Cr_stepAt_28 : decode prog_3_method_11_code 28 = .ok (.aaload, 1) := by decide +kernel
theorem d_Cr_stepAt_29 : decode prog_3_method_11_code 29 = .ok (.goto 4, 3) := by decide +kernel
theorem d_Cr_stepAt_32 : decode prog_3_method_11_code 32 = .ok (.aconst_null, 1) := by decide +kernel
theorem d_Cr_stepAt_33 : decode prog_3_method_11_code 33 = .ok (.areturn, 1) := by decide +kernel
theorem d_Cr_copyStep_0 : decode prog_3_method_3_code 0 = .ok (.aload_n 0, 1) := by decide +kernel
theorem d_Cr_copyStep_1 : decode prog_3_method_3_code 1 = .ok (.ifnull 12, 3) := by decide +kernel
theorem d_Cr_copyStep_4 : decode prog_3_method_3_code 4 = .ok (.aload_n 1, 1) := by decide +kernel
theorem d_Cr_copyStep_5 : decode prog_3_method_3_code 5 = .ok (.ifnull 8, 3) := by decide +kernel
theorem d_Cr_copyStep_8 : decode prog_3_method_3_code 8 = .ok (.aload_n 0, 1) := by decide +kernel
theorem d_Cr_copyStep_9 : decode prog_3_method_3_code 9 = .ok (.aload_n 1, 1) := by decide +kernel
theorem d_Cr_copyStep_10 : decode prog_3_method_3_code 10 = .ok (.invokevirtual 57, 3) := by decide +kernel
theorem d_Cr_copyStep_13 : decode prog_3_method_3_code 13 = .ok (.return_, 1) := by decide +kernel
theorem d_Mo_copyFrom_0 : decode prog_4_method_2_code 0 = .ok (.aload_n 1, 1) := by decide +kernel
theorem d_Mo_copyFrom_1 : decode prog_4_method_2_code 1 = .ok (.getfield 9, 3) := by decide +kernel
theorem d_Mo_copyFrom_4 : decode prog_4_method_2_code 4 = .ok (.iconst 0, 1) := by decide +kernel
theorem d_Mo_copyFrom_5 : decode prog_4_method_2_code 5 = .ok (.aload_n 0, 1) := by decide +kernel
theorem d_Mo_copyFrom_6 : decode prog_4_method_2_code 6 = .ok (.getfield 9, 3) := by decide +kernel
theorem d_Mo_copyFrom_9 : decode prog_4_method_2_code 9 = .ok (.iconst 0, 1) := by decide +kernel
theorem d_Mo_copyFrom_10 : decode prog_4_method_2_code 10 = .ok (.aload_n 0, 1) := by decide +kernel
theorem d_Mo_copyFrom_11 : decode prog_4_method_2_code 11 = .ok (.getfield 9, 3) := by decide +kernel
theorem d_Mo_copyFrom_14 : decode prog_4_method_2_code 14 = .ok (.arraylength, 1) := by decide +kernel
theorem d_Mo_copyFrom_15 : decode prog_4_method_2_code 15 = .ok (.invokestatic 22, 3) := by decide +kernel
theorem d_Mo_copyFrom_18 : decode prog_4_method_2_code 18 = .ok (.aload_n 1, 1) := by decide +kernel
theorem d_Mo_copyFrom_19 : decode prog_4_method_2_code 19 = .ok (.getfield 15, 3) := by decide +kernel
theorem d_Mo_copyFrom_22 : decode prog_4_method_2_code 22 = .ok (.iconst 0, 1) := by decide +kernel
theorem d_Mo_copyFrom_23 : decode prog_4_method_2_code 23 = .ok (.aload_n 0, 1) := by decide +kernel
theorem d_Mo_copyFrom_24 : decode prog_4_method_2_code 24 = .ok (.getfield 15, 3) := by decide +kernel
theorem d_Mo_copyFrom_27 : decode prog_4_method_2_code 27 = .ok (.iconst 0, 1) := by decide +kernel
theorem d_Mo_copyFrom_28 : decode prog_4_method_2_code 28 = .ok (.aload_n 0, 1) := by decide +kernel
theorem d_Mo_copyFrom_29 : decode prog_4_method_2_code 29 = .ok (.getfield 15, 3) := by decide +kernel
theorem d_Mo_copyFrom_32 : decode prog_4_method_2_code 32 = .ok (.arraylength, 1) := by decide +kernel
theorem d_Mo_copyFrom_33 : decode prog_4_method_2_code 33 = .ok (.invokestatic 22, 3) := by decide +kernel
theorem d_Mo_copyFrom_36 : decode prog_4_method_2_code 36 = .ok (.aload_n 0, 1) := by decide +kernel
theorem d_Mo_copyFrom_37 : decode prog_4_method_2_code 37 = .ok (.aload_n 1, 1) := by decide +kernel
theorem d_Mo_copyFrom_38 : decode prog_4_method_2_code 38 = .ok (.getfield 28, 3) := by decide +kernel
theorem d_Mo_copyFrom_41 : decode prog_4_method_2_code 41 = .ok (.putfield 28, 3) := by decide +kernel
theorem d_Mo_copyFrom_44 : decode prog_4_method_2_code 44 = .ok (.aload_n 0, 1) := by decide +kernel
theorem d_Mo_copyFrom_45 : decode prog_4_method_2_code 45 = .ok (.aload_n 1, 1) := by decide +kernel
theorem d_Mo_copyFrom_46 : decode prog_4_method_2_code 46 = .ok (.getfield 31, 3) := by decide +kernel
theorem d_Mo_copyFrom_49 : decode prog_4_method_2_code 49 = .ok (.putfield 31, 3) := by decide +kernel
theorem d_Mo_copyFrom_52 : decode prog_4_method_2_code 52 = .ok (.aload_n 0, 1) := by decide +kernel
theorem d_Mo_copyFrom_53 : decode prog_4_method_2_code 53 = .ok (.aload_n 1, 1) := by decide +kernel
theorem d_Mo_copyFrom_54 : decode prog_4_method_2_code 54 = .ok (.getfield 34, 3) := by decide +kernel
theorem d_Mo_copyFrom_57 : decode prog_4_method_2_code 57 = .ok (.putfield 34, 3) := by decide +kernel
theorem d_Mo_copyFrom_60 : decode prog_4_method_2_code 60 = .ok (.aload_n 0, 1) := by decide +kernel
theorem d_Mo_copyFrom_61 : decode prog_4_method_2_code 61 = .ok (.aload_n 1, 1) := by decide +kernel
theorem d_Mo_copyFrom_62 : decode prog_4_method_2_code 62 = .ok (.getfield 37, 3) := by decide +kernel
theorem d_Mo_copyFrom_65 : decode prog_4_method_2_code 65 = .ok (.putfield 37, 3) := by decide +kernel
theorem d_Mo_copyFrom_68 : decode prog_4_method_2_code 68 = .ok (.aload_n 0, 1) := by decide +kernel
theorem d_Mo_copyFrom_69 : decode prog_4_method_2_code 69 = .ok (.aload_n 1, 1) := by decide +kernel
theorem d_Mo_copyFrom_70 : decode prog_4_method_2_code 70 = .ok (.getfield 18, 3) := by decide +kernel
theorem d_Mo_copyFrom_73 : decode prog_4_method_2_code 73 = .ok (.putfield 18, 3) := by decide +kernel
theorem d_Mo_copyFrom_76 : decode prog_4_method_2_code 76 = .ok (.aload_n 0, 1) := by decide +kernel
theorem d_Mo_copyFrom_77 : decode prog_4_method_2_code 77 = .ok (.aload_n 1, 1) := by decide +kernel
theorem d_Mo_copyFrom_78 : decode prog_4_method_2_code 78 = .ok (.getfield 40, 3) := by decide +kernel
theorem d_Mo_copyFrom_81 : decode prog_4_method_2_code 81 = .ok (.putfield 40, 3) := by decide +kernel
theorem d_Mo_copyFrom_84 : decode prog_4_method_2_code 84 = .ok (.return_, 1) := by decide +kernel
theorem d_Cr_rulingText_0 : decode prog_3_method_10_code 0 = .ok (.aload_n 0, 1) := by decide +kernel
theorem d_Cr_rulingText_1 : decode prog_3_method_10_code 1 = .ok (.aload_n 0, 1) := by decide +kernel
theorem d_Cr_rulingText_2 : decode prog_3_method_10_code 2 = .ok (.getfield 38, 3) := by decide +kernel
theorem d_Cr_rulingText_5 : decode prog_3_method_10_code 5 = .ok (.invokevirtual 111, 3) := by decide +kernel
theorem d_Cr_rulingText_8 : decode prog_3_method_10_code 8 = .ok (.areturn, 1) := by decide +kernel
theorem d_As_saysYes_0 : decode prog_2_method_3_code 0 = .ok (.aload_n 0, 1) := by decide +kernel
theorem d_As_saysYes_1 : decode prog_2_method_3_code 1 = .ok (.aload_n 1, 1) := by decide +kernel
theorem d_As_saysYes_2 : decode prog_2_method_3_code 2 = .ok (.putfield 25, 3) := by decide +kernel
theorem d_As_saysYes_5 : decode prog_2_method_3_code 5 = .ok (.aload_n 0, 1) := by decide +kernel
theorem d_As_saysYes_6 : decode prog_2_method_3_code 6 = .ok (.iload_n 3, 1) := by decide +kernel
theorem d_As_saysYes_7 : decode prog_2_method_3_code 7 = .ok (.putfield 38, 3) := by decide +kernel
theorem d_As_saysYes_10 : decode prog_2_method_3_code 10 = .ok (.aload_n 0, 1) := by decide +kernel
theorem d_As_saysYes_11 : decode prog_2_method_3_code 11 = .ok (.iload 4, 2) := by decide +kernel
theorem d_As_saysYes_13 : decode prog_2_method_3_code 13 = .ok (.putfield 41, 3) := by decide +kernel
theorem d_As_saysYes_16 : decode prog_2_method_3_code 16 = .ok (.aload_n 0, 1) := by decide +kernel
theorem d_As_saysYes_17 : decode prog_2_method_3_code 17 = .ok (.iconst 0, 1) := by decide +kernel
theorem d_As_saysYes_18 : decode prog_2_method_3_code 18 = .ok (.putfield 44, 3) := by decide +kernel
theorem d_As_saysYes_21 : decode prog_2_method_3_code 21 = .ok (.aload_n 2, 1) := by decide +kernel
theorem d_As_saysYes_22 : decode prog_2_method_3_code 22 = .ok (.ifnull 11, 3) := by decide +kernel
theorem d_As_saysYes_25 : decode prog_2_method_3_code 25 = .ok (.aload_n 2, 1) := by decide +kernel
theorem d_As_saysYes_26 : decode prog_2_method_3_code 26 = .ok (.getfield 47, 3) := by decide +kernel
theorem d_As_saysYes_29 : decode prog_2_method_3_code 29 = .ok (.iconst (-1), 1) := by decide +kernel
theorem d_As_saysYes_30 : decode prog_2_method_3_code 30 = .ok (.if_icmp .ne 8, 3) := by decide +kernel
theorem d_As_saysYes_33 : decode prog_2_method_3_code 33 = .ok (.aload_n 0, 1) := by decide +kernel
theorem d_As_saysYes_34 : decode prog_2_method_3_code 34 = .ok (.invokevirtual 52, 3) := by decide +kernel
theorem d_As_saysYes_37 : decode prog_2_method_3_code 37 = .ok (.ireturn, 1) := by decide +kernel
theorem d_As_saysYes_38 : decode prog_2_method_3_code 38 = .ok (.aload_n 0, 1) := by decide +kernel
theorem d_As_saysYes_39 : decode prog_2_method_3_code 39 = .ok (.aload_n 2, 1) := by decide +kernel
theorem d_As_saysYes_40 : decode prog_2_method_3_code 40 = .ok (.aload_n 2, 1) := by decide +kernel
theorem d_As_saysYes_41 : decode prog_2_method_3_code 41 = .ok (.getfield 47, 3) := by decide +kernel
theorem d_As_saysYes_44 : decode prog_2_method_3_code 44 = .ok (.aload_n 2, 1) := by decide +kernel
theorem d_As_saysYes_45 : decode prog_2_method_3_code 45 = .ok (.getfield 56, 3) := by decide +kernel
theorem d_As_saysYes_48 : decode prog_2_method_3_code 48 = .ok (.invokevirtual 59, 3) := by decide +kernel
theorem d_As_saysYes_51 : decode prog_2_method_3_code 51 = .ok (.ifCond .le 7, 3) := by decide +kernel
theorem d_As_saysYes_54 : decode prog_2_method_3_code 54 = .ok (.iconst 1, 1) := by decide +kernel
theorem d_As_saysYes_55 : decode prog_2_method_3_code 55 = .ok (.goto 4, 3) := by decide +kernel
theorem d_As_saysYes_58 : decode prog_2_method_3_code 58 = .ok (.iconst 0, 1) := by decide +kernel
theorem d_As_saysYes_59 : decode prog_2_method_3_code 59 = .ok (.ireturn, 1) := by decide +kernel
theorem d_As_saysBySort_0 : decode prog_2_method_4_code 0 = .ok (.aload_n 0, 1) := by decide +kernel
theorem d_As_saysBySort_1 : decode prog_2_method_4_code 1 = .ok (.getfield 25, 3) := by decide +kernel
theorem d_As_saysBySort_4 : decode prog_2_method_4_code 4 = .ok (.getfield 63, 3) := by decide +kernel
theorem d_As_saysBySort_7 : decode prog_2_method_4_code 7 = .ok (.aload_n 0, 1) := by decide +kernel
theorem d_As_saysBySort_8 : decode prog_2_method_4_code 8 = .ok (.getfield 38, 3) := by decide +kernel
theorem d_As_saysBySort_11 : decode prog_2_method_4_code 11 = .ok (.invokestatic 66, 3) := by decide +kernel
theorem d_As_saysBySort_14 : decode prog_2_method_4_code 14 = .ok (.istore_n 1, 1) := by decide +kernel
theorem d_As_saysBySort_15 : decode prog_2_method_4_code 15 = .ok (.aload_n 0, 1) := by decide +kernel
theorem d_As_saysBySort_16 : decode prog_2_method_4_code 16 = .ok (.getfield 15, 3) := by decide +kernel
theorem d_As_saysBySort_19 : decode prog_2_method_4_code 19 = .ok (.getfield 70, 3) := by decide +kernel
theorem d_As_saysBySort_22 : decode prog_2_method_4_code 22 = .ok (.aload_n 0, 1) := by decide +kernel
theorem d_As_saysBySort_23 : decode prog_2_method_4_code 23 = .ok (.getfield 38, 3) := by decide +kernel
theorem d_As_saysBySort_26 : decode prog_2_method_4_code 26 = .ok (.invokestatic 66, 3) := by decide +kernel
theorem d_As_saysBySort_29 : decode prog_2_method_4_code 29 = .ok (.tableswitch 82 0 2 #[27, 38, 60], 27) := by decide +kernel
theorem d_As_saysBySort_56 : decode prog_2_method_4_code 56 = .ok (.iload_n 1, 1) := by decide +kernel
theorem d_As_saysBySort_57 : decode prog_2_method_4_code 57 = .ok (.iconst 4, 1) := by decide +kernel
theorem d_As_saysBySort_58 : decode prog_2_method_4_code 58 = .ok (.if_icmp .le 7, 3) := by decide +kernel
theorem d_As_saysBySort_61 : decode prog_2_method_4_code 61 = .ok (.iconst 1, 1) := by decide +kernel
theorem d_As_saysBySort_62 : decode prog_2_method_4_code 62 = .ok (.goto 4, 3) := by decide +kernel
theorem d_As_saysBySort_65 : decode prog_2_method_4_code 65 = .ok (.iconst 0, 1) := by decide +kernel
theorem d_As_saysBySort_66 : decode prog_2_method_4_code 66 = .ok (.ireturn, 1) := by decide +kernel
theorem d_As_saysBySort_67 : decode prog_2_method_4_code 67 = .ok (.aload_n 0, 1) := by decide +kernel
theorem d_As_saysBySort_68 : decode prog_2_method_4_code 68 = .ok (.getfield 41, 3) := by decide +kernel
theorem d_As_saysBySort_71 : decode prog_2_method_4_code 71 = .ok (.iconst 2, 1) := by decide +kernel
theorem d_As_saysBySort_72 : decode prog_2_method_4_code 72 = .ok (.imul, 1) := by decide +kernel
theorem d_As_saysBySort_73 : decode prog_2_method_4_code 73 = .ok (.aload_n 0, 1) := by decide +kernel
theorem d_As_saysBySort_74 : decode prog_2_method_4_code 74 = .ok (.getfield 25, 3) := by decide +kernel
theorem d_As_saysBySort_77 : decode prog_2_method_4_code 77 = .ok (.getfield 28, 3) := by decide +kernel
theorem d_As_saysBySort_80 : decode prog_2_method_4_code 80 = .ok (.if_icmp .lt 7, 3) := by decide +kernel
theorem d_As_saysBySort_83 : decode prog_2_method_4_code 83 = .ok (.iconst 1, 1) := by decide +kernel
theorem d_As_saysBySort_84 : decode prog_2_method_4_code 84 = .ok (.goto 4, 3) := by decide +kernel
theorem d_As_saysBySort_87 : decode prog_2_method_4_code 87 = .ok (.iconst 0, 1) := by decide +kernel
theorem d_As_saysBySort_88 : decode prog_2_method_4_code 88 = .ok (.ireturn, 1) := by decide +kernel
theorem d_As_saysBySort_89 : decode prog_2_method_4_code 89 = .ok (.aload_n 0, 1) := by decide +kernel
theorem d_As_saysBySort_90 : decode prog_2_method_4_code 90 = .ok (.getfield 41, 3) := by decide +kernel
theorem d_As_saysBySort_93 : decode prog_2_method_4_code 93 = .ok (.iconst 2, 1) := by decide +kernel
theorem d_As_saysBySort_94 : decode prog_2_method_4_code 94 = .ok (.imul, 1) := by decide +kernel
theorem d_As_saysBySort_95 : decode prog_2_method_4_code 95 = .ok (.aload_n 0, 1) := by decide +kernel
theorem d_As_saysBySort_96 : decode prog_2_method_4_code 96 = .ok (.getfield 25, 3) := by decide +kernel
theorem d_As_saysBySort_99 : decode prog_2_method_4_code 99 = .ok (.getfield 28, 3) := by decide +kernel
theorem d_As_saysBySort_102 : decode prog_2_method_4_code 102 = .ok (.if_icmp .ge 7, 3) := by decide +kernel
theorem d_As_saysBySort_105 : decode prog_2_method_4_code 105 = .ok (.iconst 1, 1) := by decide +kernel
theorem d_As_saysBySort_106 : decode prog_2_method_4_code 106 = .ok (.goto 4, 3) := by decide +kernel
theorem d_As_saysBySort_109 : decode prog_2_method_4_code 109 = .ok (.iconst 0, 1) := by decide +kernel
theorem d_As_saysBySort_110 : decode prog_2_method_4_code 110 = .ok (.ireturn, 1) := by decide +kernel
theorem d_As_saysBySort_111 : decode prog_2_method_4_code 111 = .ok (.aload_n 0, 1) := by decide +kernel
theorem d_As_saysBySort_112 : decode prog_2_method_4_code 112 = .ok (.getfield 41, 3) := by decide +kernel
theorem d_As_saysBySort_115 : decode prog_2_method_4_code 115 = .ok (.iload_n 1, 1) := by decide +kernel
theorem d_As_saysBySort_116 : decode prog_2_method_4_code 116 = .ok (.isub, 1) := by decide +kernel
theorem d_As_saysBySort_117 : decode prog_2_method_4_code 117 = .ok (.invokestatic 73, 3) := by decide +kernel
theorem d_As_saysBySort_120 : decode prog_2_method_4_code 120 = .ok (.iconst 2, 1) := by decide +kernel
theorem d_As_saysBySort_121 : decode prog_2_method_4_code 121 = .ok (.if_icmp .gt 7, 3) := by decide +kernel
theorem d_As_saysBySort_124 : decode prog_2_method_4_code 124 = .ok (.iconst 1, 1) := by decide +kernel
theorem d_As_saysBySort_125 : decode prog_2_method_4_code 125 = .ok (.goto 4, 3) := by decide +kernel
theorem d_As_saysBySort_128 : decode prog_2_method_4_code 128 = .ok (.iconst 0, 1) := by decide +kernel
theorem d_As_saysBySort_129 : decode prog_2_method_4_code 129 = .ok (.ireturn, 1) := by decide +kernel
theorem d_As_worth_0 : decode prog_2_method_6_code 0 = .ok (.iconst 0, 1) := by decide +kernel
theorem d_As_worth_1 : decode prog_2_method_6_code 1 = .ok (.istore 4, 2) := by decide +kernel
theorem d_As_worth_3 : decode prog_2_method_6_code 3 = .ok (.iload_n 2, 1) := by decide +kernel
theorem d_As_worth_4 : decode prog_2_method_6_code 4 = .ok (.istore 5, 2) := by decide +kernel
theorem d_As_worth_6 : decode prog_2_method_6_code 6 = .ok (.iconst 0, 1) := by decide +kernel
theorem d_As_worth_7 : decode prog_2_method_6_code 7 = .ok (.istore 6, 2) := by decide +kernel
theorem d_As_worth_9 : decode prog_2_method_6_code 9 = .ok (.iload 6, 2) := by decide +kernel
theorem d_As_worth_11 : decode prog_2_method_6_code 11 = .ok (.sipush 300, 3) := by decide +kernel
theorem d_As_worth_14 : decode prog_2_method_6_code 14 = .ok (.if_icmp .ge 223, 3) := by decide +kernel
theorem d_As_worth_17 : decode prog_2_method_6_code 17 = .ok (.iload 5, 2) := by decide +kernel
theorem d_As_worth_19 : decode prog_2_method_6_code 19 = .ok (.iload_n 3, 1) := by decide +kernel
theorem d_As_worth_20 : decode prog_2_method_6_code 20 = .ok (.if_icmp .ge 217, 3) := by decide +kernel
theorem d_As_worth_23 : decode prog_2_method_6_code 23 = .ok (.aload_n 1, 1) := by decide +kernel
theorem d_As_worth_24 : decode prog_2_method_6_code 24 = .ok (.getfield 97, 3) := by decide +kernel
theorem d_As_worth_27 : decode prog_2_method_6_code 27 = .ok (.iload 5, 2) := by decide +kernel
theorem d_As_worth_29 : decode prog_2_method_6_code 29 = .ok (.invokestatic 66, 3) := by decide +kernel
theorem d_As_worth_32 : decode prog_2_method_6_code 32 = .ok (.istore 7, 2) := by decide +kernel
theorem d_As_worth_34 : decode prog_2_method_6_code 34 = .ok (.aload_n 1, 1) := by decide +kernel
theorem d_As_worth_35 : decode prog_2_method_6_code 35 = .ok (.getfield 100, 3) := by decide +kernel
theorem d_As_worth_38 : decode prog_2_method_6_code 38 = .ok (.iload 5, 2) := by decide +kernel
theorem d_As_worth_40 : decode prog_2_method_6_code 40 = .ok (.invokestatic 66, 3) := by decide +kernel
theorem d_As_worth_43 : decode prog_2_method_6_code 43 = .ok (.istore 8, 2) := by decide +kernel
theorem d_As_worth_45 : decode prog_2_method_6_code 45 = .ok (.iinc 5 1, 3) := by decide +kernel
theorem d_As_worth_48 : decode prog_2_method_6_code 48 = .ok (.iload 7, 2) := by decide +kernel
theorem d_As_worth_50 : decode prog_2_method_6_code 50 = .ok (.bipush 43, 2) := by decide +kernel
theorem d_As_worth_52 : decode prog_2_method_6_code 52 = .ok (.if_icmp .ne 10, 3) := by decide +kernel
theorem d_As_worth_55 : decode prog_2_method_6_code 55 = .ok (.iload 8, 2) := by decide +kernel
theorem d_As_worth_57 : decode prog_2_method_6_code 57 = .ok (.istore 5, 2) := by decide +kernel
theorem d_As_worth_59 : decode prog_2_method_6_code 59 = .ok (.goto 172, 3) := by decide +kernel
theorem d_As_worth_62 : decode prog_2_method_6_code 62 = .ok (.iload 7, 2) := by decide +kernel
theorem d_As_worth_64 : decode prog_2_method_6_code 64 = .ok (.bipush 44, 2) := by decide +kernel
theorem d_As_worth_66 : decode prog_2_method_6_code 66 = .ok (.if_icmp .ne 30, 3) := by decide +kernel
theorem d_As_worth_69 : decode prog_2_method_6_code 69 = .ok (.iinc 4 (-1), 3) := by decide +kernel
theorem d_As_worth_72 : decode prog_2_method_6_code 72 = .ok (.aload_n 0, 1) := by decide +kernel
theorem d_As_worth_73 : decode prog_2_method_6_code 73 = .ok (.getfield 9, 3) := by decide +kernel
theorem d_As_worth_76 : decode prog_2_method_6_code 76 = .ok (.iload 4, 2) := by decide +kernel
theorem d_As_worth_78 : decode prog_2_method_6_code 78 = .ok (.invokestatic 66, 3) := by decide +kernel
theorem d_As_worth_81 : decode prog_2_method_6_code 81 = .ok (.ifCond .ne 8, 3) := by decide +kernel
theorem d_As_worth_84 : decode prog_2_method_6_code 84 = .ok (.iload 8, 2) := by decide +kernel
theorem d_As_worth_86 : decode prog_2_method_6_code 86 = .ok (.goto 5, 3) := by decide +kernel
theorem d_As_worth_89 : decode prog_2_method_6_code 89 = .ok (.iload 5, 2) := by decide +kernel
theorem d_As_worth_91 : decode prog_2_method_6_code 91 = .ok (.istore 5, 2) := by decide +kernel
theorem d_As_worth_93 : decode prog_2_method_6_code 93 = .ok (.goto 138, 3) := by decide +kernel
theorem d_As_worth_96 : decode prog_2_method_6_code 96 = .ok (.iload 7, 2) := by decide +kernel
theorem d_As_worth_98 : decode prog_2_method_6_code 98 = .ok (.invokestatic 105, 3) := by decide +kernel
theorem d_As_worth_101 : decode prog_2_method_6_code 101 = .ok (.ifCond .eq 61, 3) := by decide +kernel
theorem d_As_worth_104 : decode prog_2_method_6_code 104 = .ok (.iinc 4 (-1), 3) := by decide +kernel
theorem d_As_worth_107 : decode prog_2_method_6_code 107 = .ok (.iload 7, 2) := by decide +kernel
theorem d_As_worth_109 : decode prog_2_method_6_code 109 = .ok (.aload_n 0, 1) := by decide +kernel
theorem d_As_worth_110 : decode prog_2_method_6_code 110 = .ok (.getfield 9, 3) := by decide +kernel
theorem d_As_worth_113 : decode prog_2_method_6_code 113 = .ok (.iload 4, 2) := by decide +kernel
theorem d_As_worth_115 : decode prog_2_method_6_code 115 = .ok (.iconst 1, 1) := by decide +kernel
theorem d_As_worth_116 : decode prog_2_method_6_code 116 = .ok (.isub, 1) := by decide +kernel
theorem d_As_worth_117 : decode prog_2_method_6_code 117 = .ok (.invokestatic 66, 3) := by decide +kernel
theorem d_As_worth_120 : decode prog_2_method_6_code 120 = .ok (.i2l, 1) := by decide +kernel
theorem d_As_worth_121 : decode prog_2_method_6_code 121 = .ok (.aload_n 0, 1) := by decide +kernel
theorem d_As_worth_122 : decode prog_2_method_6_code 122 = .ok (.getfield 9, 3) := by decide +kernel
theorem d_As_worth_125 : decode prog_2_method_6_code 125 = .ok (.iload 4, 2) := by decide +kernel
theorem d_As_worth_127 : decode prog_2_method_6_code 127 = .ok (.invokestatic 66, 3) := by decide +kernel
theorem d_As_worth_130 : decode prog_2_method_6_code 130 = .ok (.i2l, 1) := by decide +kernel
theorem d_As_worth_131 : decode prog_2_method_6_code 131 = .ok (.invokestatic 109, 3) := by decide +kernel
theorem d_As_worth_134 : decode prog_2_method_6_code 134 = .ok (.lstore 9, 2) := by decide +kernel
theorem d_As_worth_136 : decode prog_2_method_6_code 136 = .ok (.aload_n 0, 1) := by decide +kernel
theorem d_As_worth_137 : decode prog_2_method_6_code 137 = .ok (.getfield 9, 3) := by decide +kernel
theorem d_As_worth_140 : decode prog_2_method_6_code 140 = .ok (.iload 4, 2) := by decide +kernel
theorem d_As_worth_142 : decode prog_2_method_6_code 142 = .ok (.iconst 1, 1) := by decide +kernel
theorem d_As_worth_143 : decode prog_2_method_6_code 143 = .ok (.isub, 1) := by decide +kernel
theorem d_As_worth_144 : decode prog_2_method_6_code 144 = .ok (.lload 9, 2) := by decide +kernel
theorem d_As_worth_146 : decode prog_2_method_6_code 146 = .ok (.ldc2_w 113, 3) := by decide +kernel
theorem d_As_worth_149 : decode prog_2_method_6_code 149 = .ok (.ldc2_w 115, 3) := by decide +kernel
theorem d_As_worth_152 : decode prog_2_method_6_code 152 = .ok (.invokestatic 93, 3) := by decide +kernel
theorem d_As_worth_155 : decode prog_2_method_6_code 155 = .ok (.l2i, 1) := by decide +kernel
theorem d_As_worth_156 : decode prog_2_method_6_code 156 = .ok (.invokestatic 117, 3) := by decide +kernel
theorem d_As_worth_159 : decode prog_2_method_6_code 159 = .ok (.goto 72, 3) := by decide +kernel
theorem d_As_worth_162 : decode prog_2_method_6_code 162 = .ok (.iload 7, 2) := by decide +kernel
theorem d_As_worth_164 : decode prog_2_method_6_code 164 = .ok (.invokestatic 121, 3) := by decide +kernel
theorem d_As_worth_167 : decode prog_2_method_6_code 167 = .ok (.ifCond .eq 34, 3) := by decide +kernel
theorem d_As_worth_170 : decode prog_2_method_6_code 170 = .ok (.aload_n 0, 1) := by decide +kernel
theorem d_As_worth_171 : decode prog_2_method_6_code 171 = .ok (.getfield 9, 3) := by decide +kernel
theorem d_As_worth_174 : decode prog_2_method_6_code 174 = .ok (.iload 4, 2) := by decide +kernel
theorem d_As_worth_176 : decode prog_2_method_6_code 176 = .ok (.iconst 1, 1) := by decide +kernel
theorem d_As_worth_177 : decode prog_2_method_6_code 177 = .ok (.isub, 1) := by decide +kernel
theorem d_As_worth_178 : decode prog_2_method_6_code 178 = .ok (.aload_n 0, 1) := by decide +kernel
theorem d_As_worth_179 : decode prog_2_method_6_code 179 = .ok (.iload 7, 2) := by decide +kernel
theorem d_As_worth_181 : decode prog_2_method_6_code 181 = .ok (.aload_n 0, 1) := by decide +kernel
theorem d_As_worth_182 : decode prog_2_method_6_code 182 = .ok (.getfield 9, 3) := by decide +kernel
theorem d_As_worth_185 : decode prog_2_method_6_code 185 = .ok (.iload 4, 2) := by decide +kernel
theorem d_As_worth_187 : decode prog_2_method_6_code 187 = .ok (.iconst 1, 1) := by decide +kernel
theorem d_As_worth_188 : decode prog_2_method_6_code 188 = .ok (.isub, 1) := by decide +kernel
theorem d_As_worth_189 : decode prog_2_method_6_code 189 = .ok (.invokestatic 66, 3) := by decide +kernel
theorem d_As_worth_192 : decode prog_2_method_6_code 192 = .ok (.invokevirtual 124, 3) := by decide +kernel
theorem d_As_worth_195 : decode prog_2_method_6_code 195 = .ok (.invokestatic 117, 3) := by decide +kernel
theorem d_As_worth_198 : decode prog_2_method_6_code 198 = .ok (.goto 33, 3) := by decide +kernel
theorem d_As_worth_201 : decode prog_2_method_6_code 201 = .ok (.aload_n 0, 1) := by decide +kernel
theorem d_As_worth_202 : decode prog_2_method_6_code 202 = .ok (.getfield 9, 3) := by decide +kernel
theorem d_As_worth_205 : decode prog_2_method_6_code 205 = .ok (.iload 4, 2) := by decide +kernel
theorem d_As_worth_207 : decode prog_2_method_6_code 207 = .ok (.iload 7, 2) := by decide +kernel
theorem d_As_worth_209 : decode prog_2_method_6_code 209 = .ok (.bipush 39, 2) := by decide +kernel
theorem d_As_worth_211 : decode prog_2_method_6_code 211 = .ok (.if_icmp .ne 8, 3) := by decide +kernel
theorem d_As_worth_214 : decode prog_2_method_6_code 214 = .ok (.iload 8, 2) := by decide +kernel
theorem d_As_worth_216 : decode prog_2_method_6_code 216 = .ok (.goto 9, 3) := by decide +kernel
theorem d_As_worth_219 : decode prog_2_method_6_code 219 = .ok (.aload_n 0, 1) := by decide +kernel
theorem d_As_worth_220 : decode prog_2_method_6_code 220 = .ok (.iload 7, 2) := by decide +kernel
theorem d_As_worth_222 : decode prog_2_method_6_code 222 = .ok (.invokevirtual 128, 3) := by decide +kernel
theorem d_As_worth_225 : decode prog_2_method_6_code 225 = .ok (.invokestatic 117, 3) := by decide +kernel
theorem d_As_worth_228 : decode prog_2_method_6_code 228 = .ok (.iinc 4 1, 3) := by decide +kernel
theorem d_As_worth_231 : decode prog_2_method_6_code 231 = .ok (.iinc 6 1, 3) := by decide +kernel
theorem d_As_worth_234 : decode prog_2_method_6_code 234 = .ok (.goto (-225), 3) := by decide +kernel
theorem d_As_worth_237 : decode prog_2_method_6_code 237 = .ok (.aload_n 0, 1) := by decide +kernel
theorem d_As_worth_238 : decode prog_2_method_6_code 238 = .ok (.getfield 9, 3) := by decide +kernel
theorem d_As_worth_241 : decode prog_2_method_6_code 241 = .ok (.iconst 0, 1) := by decide +kernel
theorem d_As_worth_242 : decode prog_2_method_6_code 242 = .ok (.invokestatic 66, 3) := by decide +kernel
theorem d_As_worth_245 : decode prog_2_method_6_code 245 = .ok (.ireturn, 1) := by decide +kernel
theorem d_As_joined_0 : decode prog_2_method_9_code 0 = .ok (.iload_n 0, 1) := by decide +kernel
theorem d_As_joined_1 : decode prog_2_method_9_code 1 = .ok (.tableswitch 193 16 35 #[127, 121, 193, 193, 193, 193, 193, 193, 193, 193, 145, 169, 133, 157, 181, 193, 95, 99, 103, 107], 95) := by decide +kernel
theorem d_As_joined_96 : decode prog_2_method_9_code 96 = .ok (.lload_n 1, 1) := by decide +kernel
theorem d_As_joined_97 : decode prog_2_method_9_code 97 = .ok (.lload_n 3, 1) := by decide +kernel
theorem d_As_joined_98 : decode prog_2_method_9_code 98 = .ok (.ladd, 1) := by decide +kernel
theorem d_As_joined_99 : decode prog_2_method_9_code 99 = .ok (.lreturn, 1) := by decide +kernel
theorem d_As_joined_100 : decode prog_2_method_9_code 100 = .ok (.lload_n 1, 1) := by decide +kernel
theorem d_As_joined_101 : decode prog_2_method_9_code 101 = .ok (.lload_n 3, 1) := by decide +kernel
theorem d_As_joined_102 : decode prog_2_method_9_code 102 = .ok (.lsub, 1) := by decide +kernel
theorem d_As_joined_103 : decode prog_2_method_9_code 103 = .ok (.lreturn, 1) := by decide +kernel
theorem d_As_joined_104 : decode prog_2_method_9_code 104 = .ok (.lload_n 1, 1) := by decide +kernel
theorem d_As_joined_105 : decode prog_2_method_9_code 105 = .ok (.lload_n 3, 1) := by decide +kernel
theorem d_As_joined_106 : decode prog_2_method_9_code 106 = .ok (.lmul, 1) := by decide +kernel
theorem d_As_joined_107 : decode prog_2_method_9_code 107 = .ok (.lreturn, 1) := by decide +kernel
theorem d_As_joined_108 : decode prog_2_method_9_code 108 = .ok (.lload_n 3, 1) := by decide +kernel
theorem d_As_joined_109 : decode prog_2_method_9_code 109 = .ok (.lconst 0, 1) := by decide +kernel
theorem d_As_joined_110 : decode prog_2_method_9_code 110 = .ok (.lcmp, 1) := by decide +kernel
theorem d_As_joined_111 : decode prog_2_method_9_code 111 = .ok (.ifCond .ne 7, 3) := by decide +kernel
theorem d_As_joined_114 : decode prog_2_method_9_code 114 = .ok (.lconst 0, 1) := by decide +kernel
theorem d_As_joined_115 : decode prog_2_method_9_code 115 = .ok (.goto 6, 3) := by decide +kernel
theorem d_As_joined_118 : decode prog_2_method_9_code 118 = .ok (.lload_n 1, 1) := by decide +kernel
theorem d_As_joined_119 : decode prog_2_method_9_code 119 = .ok (.lload_n 3, 1) := by decide +kernel
theorem d_As_joined_120 : decode prog_2_method_9_code 120 = .ok (.ldiv, 1) := by decide +kernel
theorem d_As_joined_121 : decode prog_2_method_9_code 121 = .ok (.lreturn, 1) := by decide +kernel
theorem d_As_joined_122 : decode prog_2_method_9_code 122 = .ok (.lload_n 1, 1) := by decide +kernel
theorem d_As_joined_123 : decode prog_2_method_9_code 123 = .ok (.lload_n 3, 1) := by decide +kernel
theorem d_As_joined_124 : decode prog_2_method_9_code 124 = .ok (.invokestatic 145, 3) := by decide +kernel
theorem d_As_joined_127 : decode prog_2_method_9_code 127 = .ok (.lreturn, 1) := by decide +kernel
theorem d_As_joined_128 : decode prog_2_method_9_code 128 = .ok (.lload_n 1, 1) := by decide +kernel
theorem d_As_joined_129 : decode prog_2_method_9_code 129 = .ok (.lload_n 3, 1) := by decide +kernel
theorem d_As_joined_130 : decode prog_2_method_9_code 130 = .ok (.invokestatic 149, 3) := by decide +kernel
theorem d_As_joined_133 : decode prog_2_method_9_code 133 = .ok (.lreturn, 1) := by decide +kernel
theorem d_As_joined_134 : decode prog_2_method_9_code 134 = .ok (.lload_n 1, 1) := by decide +kernel
theorem d_As_joined_135 : decode prog_2_method_9_code 135 = .ok (.lload_n 3, 1) := by decide +kernel
theorem d_As_joined_136 : decode prog_2_method_9_code 136 = .ok (.lcmp, 1) := by decide +kernel
theorem d_As_joined_137 : decode prog_2_method_9_code 137 = .ok (.ifCond .ge 7, 3) := by decide +kernel
theorem d_As_joined_140 : decode prog_2_method_9_code 140 = .ok (.lconst 1, 1) := by decide +kernel
theorem d_As_joined_141 : decode prog_2_method_9_code 141 = .ok (.goto 4, 3) := by decide +kernel
theorem d_As_joined_144 : decode prog_2_method_9_code 144 = .ok (.lconst 0, 1) := by decide +kernel
theorem d_As_joined_145 : decode prog_2_method_9_code 145 = .ok (.lreturn, 1) := by decide +kernel
theorem d_As_joined_146 : decode prog_2_method_9_code 146 = .ok (.lload_n 1, 1) := by decide +kernel
theorem d_As_joined_147 : decode prog_2_method_9_code 147 = .ok (.lload_n 3, 1) := by decide +kernel
theorem d_As_joined_148 : decode prog_2_method_9_code 148 = .ok (.lcmp, 1) := by decide +kernel
theorem d_As_joined_149 : decode prog_2_method_9_code 149 = .ok (.ifCond .gt 7, 3) := by decide +kernel
theorem d_As_joined_152 : decode prog_2_method_9_code 152 = .ok (.lconst 1, 1) := by decide +kernel
theorem d_As_joined_153 : decode prog_2_method_9_code 153 = .ok (.goto 4, 3) := by decide +kernel
theorem d_As_joined_156 : decode prog_2_method_9_code 156 = .ok (.lconst 0, 1) := by decide +kernel
theorem d_As_joined_157 : decode prog_2_method_9_code 157 = .ok (.lreturn, 1) := by decide +kernel
theorem d_As_joined_158 : decode prog_2_method_9_code 158 = .ok (.lload_n 1, 1) := by decide +kernel
theorem d_As_joined_159 : decode prog_2_method_9_code 159 = .ok (.lload_n 3, 1) := by decide +kernel
theorem d_As_joined_160 : decode prog_2_method_9_code 160 = .ok (.lcmp, 1) := by decide +kernel
theorem d_As_joined_161 : decode prog_2_method_9_code 161 = .ok (.ifCond .le 7, 3) := by decide +kernel
theorem d_As_joined_164 : decode prog_2_method_9_code 164 = .ok (.lconst 1, 1) := by decide +kernel
theorem d_As_joined_165 : decode prog_2_method_9_code 165 = .ok (.goto 4, 3) := by decide +kernel
theorem d_As_joined_168 : decode prog_2_method_9_code 168 = .ok (.lconst 0, 1) := by decide +kernel
theorem d_As_joined_169 : decode prog_2_method_9_code 169 = .ok (.lreturn, 1) := by decide +kernel
theorem d_As_joined_170 : decode prog_2_method_9_code 170 = .ok (.lload_n 1, 1) := by decide +kernel
theorem d_As_joined_171 : decode prog_2_method_9_code 171 = .ok (.lload_n 3, 1) := by decide +kernel
theorem d_As_joined_172 : decode prog_2_method_9_code 172 = .ok (.lcmp, 1) := by decide +kernel
theorem d_As_joined_173 : decode prog_2_method_9_code 173 = .ok (.ifCond .lt 7, 3) := by decide +kernel
theorem d_As_joined_176 : decode prog_2_method_9_code 176 = .ok (.lconst 1, 1) := by decide +kernel
theorem d_As_joined_177 : decode prog_2_method_9_code 177 = .ok (.goto 4, 3) := by decide +kernel
theorem d_As_joined_180 : decode prog_2_method_9_code 180 = .ok (.lconst 0, 1) := by decide +kernel
theorem d_As_joined_181 : decode prog_2_method_9_code 181 = .ok (.lreturn, 1) := by decide +kernel
theorem d_As_joined_182 : decode prog_2_method_9_code 182 = .ok (.lload_n 1, 1) := by decide +kernel
theorem d_As_joined_183 : decode prog_2_method_9_code 183 = .ok (.lload_n 3, 1) := by decide +kernel
theorem d_As_joined_184 : decode prog_2_method_9_code 184 = .ok (.lcmp, 1) := by decide +kernel
theorem d_As_joined_185 : decode prog_2_method_9_code 185 = .ok (.ifCond .ne 7, 3) := by decide +kernel
theorem d_As_joined_188 : decode prog_2_method_9_code 188 = .ok (.lconst 1, 1) := by decide +kernel
theorem d_As_joined_189 : decode prog_2_method_9_code 189 = .ok (.goto 4, 3) := by decide +kernel
theorem d_As_joined_192 : decode prog_2_method_9_code 192 = .ok (.lconst 0, 1) := by decide +kernel
theorem d_As_joined_193 : decode prog_2_method_9_code 193 = .ok (.lreturn, 1) := by decide +kernel
theorem d_As_joined_194 : decode prog_2_method_9_code 194 = .ok (.lload_n 1, 1) := by decide +kernel
theorem d_As_joined_195 : decode prog_2_method_9_code 195 = .ok (.lload_n 3, 1) := by decide +kernel
theorem d_As_joined_196 : decode prog_2_method_9_code 196 = .ok (.lcmp, 1) := by decide +kernel
theorem d_As_joined_197 : decode prog_2_method_9_code 197 = .ok (.ifCond .eq 7, 3) := by decide +kernel
theorem d_As_joined_200 : decode prog_2_method_9_code 200 = .ok (.lconst 1, 1) := by decide +kernel
theorem d_As_joined_201 : decode prog_2_method_9_code 201 = .ok (.goto 4, 3) := by decide +kernel
theorem d_As_joined_204 : decode prog_2_method_9_code 204 = .ok (.lconst 0, 1) := by decide +kernel
theorem d_As_joined_205 : decode prog_2_method_9_code 205 = .ok (.lreturn, 1) := by decide +kernel
theorem d_As_changed_0 : decode prog_2_method_8_code 0 = .ok (.iload_n 2, 1) := by decide +kernel
theorem d_As_changed_1 : decode prog_2_method_8_code 1 = .ok (.ifCond .lt 18, 3) := by decide +kernel
theorem d_As_changed_4 : decode prog_2_method_8_code 4 = .ok (.iload_n 2, 1) := by decide +kernel
theorem d_As_changed_5 : decode prog_2_method_8_code 5 = .ok (.aload_n 0, 1) := by decide +kernel
theorem d_As_changed_6 : decode prog_2_method_8_code 6 = .ok (.getfield 25, 3) := by decide +kernel
theorem d_As_changed_9 : decode prog_2_method_8_code 9 = .ok (.getfield 28, 3) := by decide +kernel
theorem d_As_changed_12 : decode prog_2_method_8_code 12 = .ok (.if_icmp .ge 7, 3) := by decide +kernel
theorem d_As_changed_15 : decode prog_2_method_8_code 15 = .ok (.iconst 1, 1) := by decide +kernel
theorem d_As_changed_16 : decode prog_2_method_8_code 16 = .ok (.goto 4, 3) := by decide +kernel
theorem d_As_changed_19 : decode prog_2_method_8_code 19 = .ok (.iconst 0, 1) := by decide +kernel
theorem d_As_changed_20 : decode prog_2_method_8_code 20 = .ok (.istore_n 3, 1) := by decide +kernel
theorem d_As_changed_21 : decode prog_2_method_8_code 21 = .ok (.iload_n 1, 1) := by decide +kernel
theorem d_As_changed_22 : decode prog_2_method_8_code 22 = .ok (.lookupswitch 78 #[(10, 34), (11, 54), (18, 74)], 34) := by decide +kernel
theorem d_As_changed_56 : decode prog_2_method_8_code 56 = .ok (.iload_n 3, 1) := by decide +kernel
theorem d_As_changed_57 : decode prog_2_method_8_code 57 = .ok (.ifCond .eq 17, 3) := by decide +kernel
theorem d_As_changed_60 : decode prog_2_method_8_code 60 = .ok (.aload_n 0, 1) := by decide +kernel
theorem d_As_changed_61 : decode prog_2_method_8_code 61 = .ok (.getfield 25, 3) := by decide +kernel
theorem d_As_changed_64 : decode prog_2_method_8_code 64 = .ok (.getfield 63, 3) := by decide +kernel
theorem d_As_changed_67 : decode prog_2_method_8_code 67 = .ok (.iload_n 2, 1) := by decide +kernel
theorem d_As_changed_68 : decode prog_2_method_8_code 68 = .ok (.invokestatic 66, 3) := by decide +kernel
theorem d_As_changed_71 : decode prog_2_method_8_code 71 = .ok (.goto 4, 3) := by decide +kernel
theorem d_As_changed_74 : decode prog_2_method_8_code 74 = .ok (.iconst 0, 1) := by decide +kernel
theorem d_As_changed_75 : decode prog_2_method_8_code 75 = .ok (.ireturn, 1) := by decide +kernel
theorem d_As_changed_76 : decode prog_2_method_8_code 76 = .ok (.iload_n 3, 1) := by decide +kernel
theorem d_As_changed_77 : decode prog_2_method_8_code 77 = .ok (.ifCond .eq 17, 3) := by decide +kernel
theorem d_As_changed_80 : decode prog_2_method_8_code 80 = .ok (.aload_n 0, 1) := by decide +kernel
theorem d_As_changed_81 : decode prog_2_method_8_code 81 = .ok (.getfield 25, 3) := by decide +kernel
theorem d_As_changed_84 : decode prog_2_method_8_code 84 = .ok (.getfield 137, 3) := by decide +kernel
theorem d_As_changed_87 : decode prog_2_method_8_code 87 = .ok (.iload_n 2, 1) := by decide +kernel
theorem d_As_changed_88 : decode prog_2_method_8_code 88 = .ok (.ishr, 1) := by decide +kernel
theorem d_As_changed_89 : decode prog_2_method_8_code 89 = .ok (.iconst 1, 1) := by decide +kernel
theorem d_As_changed_90 : decode prog_2_method_8_code 90 = .ok (.iand, 1) := by decide +kernel
theorem d_As_changed_91 : decode prog_2_method_8_code 91 = .ok (.goto 4, 3) := by decide +kernel
theorem d_As_changed_94 : decode prog_2_method_8_code 94 = .ok (.iconst 0, 1) := by decide +kernel
theorem d_As_changed_95 : decode prog_2_method_8_code 95 = .ok (.ireturn, 1) := by decide +kernel
theorem d_As_changed_96 : decode prog_2_method_8_code 96 = .ok (.iconst 1, 1) := by decide +kernel
theorem d_As_changed_97 : decode prog_2_method_8_code 97 = .ok (.iload_n 2, 1) := by decide +kernel
theorem d_As_changed_98 : decode prog_2_method_8_code 98 = .ok (.isub, 1) := by decide +kernel
theorem d_As_changed_99 : decode prog_2_method_8_code 99 = .ok (.ireturn, 1) := by decide +kernel
theorem d_As_changed_100 : decode prog_2_method_8_code 100 = .ok (.iload_n 2, 1) := by decide +kernel
theorem d_As_changed_101 : decode prog_2_method_8_code 101 = .ok (.ineg, 1) := by decide +kernel
theorem d_As_changed_102 : decode prog_2_method_8_code 102 = .ok (.ireturn, 1) := by decide +kernel
theorem d_As_named_0 : decode prog_2_method_7_code 0 = .ok (.iload_n 1, 1) := by decide +kernel
theorem d_As_named_1 : decode prog_2_method_7_code 1 = .ok (.tableswitch 185 3 24 #[131, 185, 185, 185, 185, 185, 185, 185, 185, 185, 185, 185, 185, 185, 185, 185, 103, 111, 116, 146, 154, 180], 103) := by decide +kernel
theorem d_As_named_104 : decode prog_2_method_7_code 104 = .ok (.aload_n 0, 1) := by decide +kernel
theorem d_As_named_105 : decode prog_2_method_7_code 105 = .ok (.getfield 25, 3) := by decide +kernel
theorem d_As_named_108 : decode prog_2_method_7_code 108 = .ok (.getfield 131, 3) := by decide +kernel
theorem d_As_named_111 : decode prog_2_method_7_code 111 = .ok (.ireturn, 1) := by decide +kernel
theorem d_As_named_112 : decode prog_2_method_7_code 112 = .ok (.aload_n 0, 1) := by decide +kernel
theorem d_As_named_113 : decode prog_2_method_7_code 113 = .ok (.getfield 38, 3) := by decide +kernel
theorem d_As_named_116 : decode prog_2_method_7_code 116 = .ok (.ireturn, 1) := by decide +kernel
theorem d_As_named_117 : decode prog_2_method_7_code 117 = .ok (.aload_n 0, 1) := by decide +kernel
theorem d_As_named_118 : decode prog_2_method_7_code 118 = .ok (.getfield 25, 3) := by decide +kernel
theorem d_As_named_121 : decode prog_2_method_7_code 121 = .ok (.getfield 63, 3) := by decide +kernel
theorem d_As_named_124 : decode prog_2_method_7_code 124 = .ok (.aload_n 0, 1) := by decide +kernel
theorem d_As_named_125 : decode prog_2_method_7_code 125 = .ok (.getfield 38, 3) := by decide +kernel
theorem d_As_named_128 : decode prog_2_method_7_code 128 = .ok (.invokestatic 66, 3) := by decide +kernel
theorem d_As_named_131 : decode prog_2_method_7_code 131 = .ok (.ireturn, 1) := by decide +kernel
theorem d_As_named_132 : decode prog_2_method_7_code 132 = .ok (.aload_n 0, 1) := by decide +kernel
theorem d_As_named_133 : decode prog_2_method_7_code 133 = .ok (.getfield 15, 3) := by decide +kernel
theorem d_As_named_136 : decode prog_2_method_7_code 136 = .ok (.getfield 70, 3) := by decide +kernel
theorem d_As_named_139 : decode prog_2_method_7_code 139 = .ok (.aload_n 0, 1) := by decide +kernel
theorem d_As_named_140 : decode prog_2_method_7_code 140 = .ok (.getfield 38, 3) := by decide +kernel
theorem d_As_named_143 : decode prog_2_method_7_code 143 = .ok (.invokestatic 66, 3) := by decide +kernel
theorem d_As_named_146 : decode prog_2_method_7_code 146 = .ok (.ireturn, 1) := by decide +kernel
theorem d_As_named_147 : decode prog_2_method_7_code 147 = .ok (.aload_n 0, 1) := by decide +kernel
theorem d_As_named_148 : decode prog_2_method_7_code 148 = .ok (.getfield 25, 3) := by decide +kernel
theorem d_As_named_151 : decode prog_2_method_7_code 151 = .ok (.getfield 28, 3) := by decide +kernel
theorem d_As_named_154 : decode prog_2_method_7_code 154 = .ok (.ireturn, 1) := by decide +kernel
theorem d_As_named_155 : decode prog_2_method_7_code 155 = .ok (.aload_n 0, 1) := by decide +kernel
theorem d_As_named_156 : decode prog_2_method_7_code 156 = .ok (.getfield 15, 3) := by decide +kernel
theorem d_As_named_159 : decode prog_2_method_7_code 159 = .ok (.getfield 134, 3) := by decide +kernel
theorem d_As_named_162 : decode prog_2_method_7_code 162 = .ok (.aload_n 0, 1) := by decide +kernel
theorem d_As_named_163 : decode prog_2_method_7_code 163 = .ok (.getfield 38, 3) := by decide +kernel
theorem d_As_named_166 : decode prog_2_method_7_code 166 = .ok (.invokestatic 66, 3) := by decide +kernel
theorem d_As_named_169 : decode prog_2_method_7_code 169 = .ok (.aload_n 0, 1) := by decide +kernel
theorem d_As_named_170 : decode prog_2_method_7_code 170 = .ok (.getfield 25, 3) := by decide +kernel
theorem d_As_named_173 : decode prog_2_method_7_code 173 = .ok (.getfield 137, 3) := by decide +kernel
theorem d_As_named_176 : decode prog_2_method_7_code 176 = .ok (.iand, 1) := by decide +kernel
theorem d_As_named_177 : decode prog_2_method_7_code 177 = .ok (.invokestatic 140, 3) := by decide +kernel
theorem d_As_named_180 : decode prog_2_method_7_code 180 = .ok (.ireturn, 1) := by decide +kernel
theorem d_As_named_181 : decode prog_2_method_7_code 181 = .ok (.aload_n 0, 1) := by decide +kernel
theorem d_As_named_182 : decode prog_2_method_7_code 182 = .ok (.getfield 41, 3) := by decide +kernel
theorem d_As_named_185 : decode prog_2_method_7_code 185 = .ok (.ireturn, 1) := by decide +kernel
theorem d_As_named_186 : decode prog_2_method_7_code 186 = .ok (.aload_n 0, 1) := by decide +kernel
theorem d_As_named_187 : decode prog_2_method_7_code 187 = .ok (.getfield 44, 3) := by decide +kernel
theorem d_As_named_190 : decode prog_2_method_7_code 190 = .ok (.ireturn, 1) := by decide +kernel
theorem d_JI_bitCount_0 : decode prog_15_method_49_code 0 = .ok (.iload_n 0, 1) := by decide +kernel
theorem d_JI_bitCount_1 : decode prog_15_method_49_code 1 = .ok (.iload_n 0, 1) := by decide +kernel
theorem d_JI_bitCount_2 : decode prog_15_method_49_code 2 = .ok (.iconst 1, 1) := by decide +kernel
theorem d_JI_bitCount_3 : decode prog_15_method_49_code 3 = .ok (.iushr, 1) := by decide +kernel
theorem d_JI_bitCount_4 : decode prog_15_method_49_code 4 = .ok (.ldc_w 265, 3) := by decide +kernel
theorem d_JI_bitCount_7 : decode prog_15_method_49_code 7 = .ok (.iand, 1) := by decide +kernel
theorem d_JI_bitCount_8 : decode prog_15_method_49_code 8 = .ok (.isub, 1) := by decide +kernel
theorem d_JI_bitCount_9 : decode prog_15_method_49_code 9 = .ok (.istore_n 0, 1) := by decide +kernel
theorem d_JI_bitCount_10 : decode prog_15_method_49_code 10 = .ok (.iload_n 0, 1) := by decide +kernel
theorem d_JI_bitCount_11 : decode prog_15_method_49_code 11 = .ok (.ldc_w 266, 3) := by decide +kernel
theorem d_JI_bitCount_14 : decode prog_15_method_49_code 14 = .ok (.iand, 1) := by decide +kernel
theorem d_JI_bitCount_15 : decode prog_15_method_49_code 15 = .ok (.iload_n 0, 1) := by decide +kernel
theorem d_JI_bitCount_16 : decode prog_15_method_49_code 16 = .ok (.iconst 2, 1) := by decide +kernel
theorem d_JI_bitCount_17 : decode prog_15_method_49_code 17 = .ok (.iushr, 1) := by decide +kernel
theorem d_JI_bitCount_18 : decode prog_15_method_49_code 18 = .ok (.ldc_w 266, 3) := by decide +kernel
theorem d_JI_bitCount_21 : decode prog_15_method_49_code 21 = .ok (.iand, 1) := by decide +kernel
theorem d_JI_bitCount_22 : decode prog_15_method_49_code 22 = .ok (.iadd, 1) := by decide +kernel
theorem d_JI_bitCount_23 : decode prog_15_method_49_code 23 = .ok (.istore_n 0, 1) := by decide +kernel
theorem d_JI_bitCount_24 : decode prog_15_method_49_code 24 = .ok (.iload_n 0, 1) := by decide +kernel
theorem d_JI_bitCount_25 : decode prog_15_method_49_code 25 = .ok (.iload_n 0, 1) := by decide +kernel
theorem d_JI_bitCount_26 : decode prog_15_method_49_code 26 = .ok (.iconst 4, 1) := by decide +kernel
theorem d_JI_bitCount_27 : decode prog_15_method_49_code 27 = .ok (.iushr, 1) := by decide +kernel
theorem d_JI_bitCount_28 : decode prog_15_method_49_code 28 = .ok (.iadd, 1) := by decide +kernel
theorem d_JI_bitCount_29 : decode prog_15_method_49_code 29 = .ok (.ldc_w 267, 3) := by decide +kernel
theorem d_JI_bitCount_32 : decode prog_15_method_49_code 32 = .ok (.iand, 1) := by decide +kernel
theorem d_JI_bitCount_33 : decode prog_15_method_49_code 33 = .ok (.istore_n 0, 1) := by decide +kernel
theorem d_JI_bitCount_34 : decode prog_15_method_49_code 34 = .ok (.iload_n 0, 1) := by decide +kernel
theorem d_JI_bitCount_35 : decode prog_15_method_49_code 35 = .ok (.iload_n 0, 1) := by decide +kernel
theorem d_JI_bitCount_36 : decode prog_15_method_49_code 36 = .ok (.bipush 8, 2) := by decide +kernel
theorem d_JI_bitCount_38 : decode prog_15_method_49_code 38 = .ok (.iushr, 1) := by decide +kernel
theorem d_JI_bitCount_39 : decode prog_15_method_49_code 39 = .ok (.iadd, 1) := by decide +kernel
theorem d_JI_bitCount_40 : decode prog_15_method_49_code 40 = .ok (.istore_n 0, 1) := by decide +kernel
theorem d_JI_bitCount_41 : decode prog_15_method_49_code 41 = .ok (.iload_n 0, 1) := by decide +kernel
theorem d_JI_bitCount_42 : decode prog_15_method_49_code 42 = .ok (.iload_n 0, 1) := by decide +kernel
theorem d_JI_bitCount_43 : decode prog_15_method_49_code 43 = .ok (.bipush 16, 2) := by decide +kernel
theorem d_JI_bitCount_45 : decode prog_15_method_49_code 45 = .ok (.iushr, 1) := by decide +kernel
theorem d_JI_bitCount_46 : decode prog_15_method_49_code 46 = .ok (.iadd, 1) := by decide +kernel
theorem d_JI_bitCount_47 : decode prog_15_method_49_code 47 = .ok (.istore_n 0, 1) := by decide +kernel
theorem d_JI_bitCount_48 : decode prog_15_method_49_code 48 = .ok (.iload_n 0, 1) := by decide +kernel
theorem d_JI_bitCount_49 : decode prog_15_method_49_code 49 = .ok (.bipush 63, 2) := by decide +kernel
theorem d_JI_bitCount_51 : decode prog_15_method_49_code 51 = .ok (.iand, 1) := by decide +kernel
theorem d_JI_bitCount_52 : decode prog_15_method_49_code 52 = .ok (.ireturn, 1) := by decide +kernel
theorem d_Mo_drawX_0 : decode prog_4_method_8_code 0 = .ok (.aload_n 0, 1) := by decide +kernel
theorem d_Mo_drawX_1 : decode prog_4_method_8_code 1 = .ok (.getfield 18, 3) := by decide +kernel
theorem d_Mo_drawX_4 : decode prog_4_method_8_code 4 = .ok (.istore_n 1, 1) := by decide +kernel
theorem d_Mo_drawX_5 : decode prog_4_method_8_code 5 = .ok (.aload_n 0, 1) := by decide +kernel
theorem d_Mo_drawX_6 : decode prog_4_method_8_code 6 = .ok (.aload_n 0, 1) := by decide +kernel
theorem d_Mo_drawX_7 : decode prog_4_method_8_code 7 = .ok (.getfield 18, 3) := by decide +kernel
theorem d_Mo_drawX_10 : decode prog_4_method_8_code 10 = .ok (.sipush 709, 3) := by decide +kernel
theorem d_Mo_drawX_13 : decode prog_4_method_8_code 13 = .ok (.imul, 1) := by decide +kernel
theorem d_Mo_drawX_14 : decode prog_4_method_8_code 14 = .ok (.sipush 577, 3) := by decide +kernel
theorem d_Mo_drawX_17 : decode prog_4_method_8_code 17 = .ok (.iadd, 1) := by decide +kernel
theorem d_Mo_drawX_18 : decode prog_4_method_8_code 18 = .ok (.sipush 31033, 3) := by decide +kernel
theorem d_Mo_drawX_21 : decode prog_4_method_8_code 21 = .ok (.irem, 1) := by decide +kernel
theorem d_Mo_drawX_22 : decode prog_4_method_8_code 22 = .ok (.putfield 18, 3) := by decide +kernel
theorem d_Mo_drawX_25 : decode prog_4_method_8_code 25 = .ok (.iload_n 1, 1) := by decide +kernel
theorem d_Mo_drawX_26 : decode prog_4_method_8_code 26 = .ok (.ireturn, 1) := by decide +kernel
theorem d_As_swayOf_0 : decode prog_2_method_5_code 0 = .ok (.aload_n 0, 1) := by decide +kernel
theorem d_As_swayOf_1 : decode prog_2_method_5_code 1 = .ok (.aload_n 1, 1) := by decide +kernel
theorem d_As_swayOf_2 : decode prog_2_method_5_code 2 = .ok (.putfield 25, 3) := by decide +kernel
theorem d_As_swayOf_5 : decode prog_2_method_5_code 5 = .ok (.aload_n 0, 1) := by decide +kernel
theorem d_As_swayOf_6 : decode prog_2_method_5_code 6 = .ok (.iload_n 2, 1) := by decide +kernel
theorem d_As_swayOf_7 : decode prog_2_method_5_code 7 = .ok (.putfield 38, 3) := by decide +kernel
theorem d_As_swayOf_10 : decode prog_2_method_5_code 10 = .ok (.aload_n 0, 1) := by decide +kernel
theorem d_As_swayOf_11 : decode prog_2_method_5_code 11 = .ok (.iload_n 3, 1) := by decide +kernel
theorem d_As_swayOf_12 : decode prog_2_method_5_code 12 = .ok (.putfield 41, 3) := by decide +kernel
theorem d_As_swayOf_15 : decode prog_2_method_5_code 15 = .ok (.aload_n 0, 1) := by decide +kernel
theorem d_As_swayOf_16 : decode prog_2_method_5_code 16 = .ok (.iload 4, 2) := by decide +kernel
theorem d_As_swayOf_18 : decode prog_2_method_5_code 18 = .ok (.putfield 44, 3) := by decide +kernel
theorem d_As_swayOf_21 : decode prog_2_method_5_code 21 = .ok (.aload_n 0, 1) := by decide +kernel
theorem d_As_swayOf_22 : decode prog_2_method_5_code 22 = .ok (.getfield 15, 3) := by decide +kernel
theorem d_As_swayOf_25 : decode prog_2_method_5_code 25 = .ok (.invokevirtual 79, 3) := by decide +kernel
theorem d_As_swayOf_28 : decode prog_2_method_5_code 28 = .ok (.astore 5, 2) := by decide +kernel
theorem d_As_swayOf_30 : decode prog_2_method_5_code 30 = .ok (.aload 5, 2) := by decide +kernel
theorem d_As_swayOf_32 : decode prog_2_method_5_code 32 = .ok (.ifnull 12, 3) := by decide +kernel
theorem d_As_swayOf_35 : decode prog_2_method_5_code 35 = .ok (.aload 5, 2) := by decide +kernel
theorem d_As_swayOf_37 : decode prog_2_method_5_code 37 = .ok (.getfield 83, 3) := by decide +kernel
theorem d_As_swayOf_40 : decode prog_2_method_5_code 40 = .ok (.iconst (-1), 1) := by decide +kernel
theorem d_As_swayOf_41 : decode prog_2_method_5_code 41 = .ok (.if_icmp .ne 5, 3) := by decide +kernel
theorem d_As_swayOf_44 : decode prog_2_method_5_code 44 = .ok (.iconst 0, 1) := by decide +kernel
theorem d_As_swayOf_45 : decode prog_2_method_5_code 45 = .ok (.ireturn, 1) := by decide +kernel
theorem d_As_swayOf_46 : decode prog_2_method_5_code 46 = .ok (.aload_n 0, 1) := by decide +kernel
theorem d_As_swayOf_47 : decode prog_2_method_5_code 47 = .ok (.aload 5, 2) := by decide +kernel
theorem d_As_swayOf_49 : decode prog_2_method_5_code 49 = .ok (.aload 5, 2) := by decide +kernel
theorem d_As_swayOf_51 : decode prog_2_method_5_code 51 = .ok (.getfield 83, 3) := by decide +kernel
theorem d_As_swayOf_54 : decode prog_2_method_5_code 54 = .ok (.aload 5, 2) := by decide +kernel
theorem d_As_swayOf_56 : decode prog_2_method_5_code 56 = .ok (.getfield 86, 3) := by decide +kernel
theorem d_As_swayOf_59 : decode prog_2_method_5_code 59 = .ok (.invokevirtual 59, 3) := by decide +kernel
theorem d_As_swayOf_62 : decode prog_2_method_5_code 62 = .ok (.i2l, 1) := by decide +kernel
theorem d_As_swayOf_63 : decode prog_2_method_5_code 63 = .ok (.ldc2_w 89, 3) := by decide +kernel
theorem d_As_swayOf_66 : decode prog_2_method_5_code 66 = .ok (.ldc2_w 91, 3) := by decide +kernel
theorem d_As_swayOf_69 : decode prog_2_method_5_code 69 = .ok (.invokestatic 93, 3) := by decide +kernel
theorem d_As_swayOf_72 : decode prog_2_method_5_code 72 = .ok (.l2i, 1) := by decide +kernel
theorem d_As_swayOf_73 : decode prog_2_method_5_code 73 = .ok (.ireturn, 1) := by decide +kernel
theorem d_Mo_writeDown_0 : decode prog_4_method_9_code 0 = .ok (.aload_n 0, 1) := by decide +kernel
theorem d_Mo_writeDown_1 : decode prog_4_method_9_code 1 = .ok (.getfield 40, 3) := by decide +kernel
theorem d_Mo_writeDown_4 : decode prog_4_method_9_code 4 = .ok (.bipush 30, 2) := by decide +kernel
theorem d_Mo_writeDown_6 : decode prog_4_method_9_code 6 = .ok (.if_icmp .lt 29, 3) := by decide +kernel
theorem d_Mo_writeDown_9 : decode prog_4_method_9_code 9 = .ok (.aload_n 0, 1) := by decide +kernel
theorem d_Mo_writeDown_10 : decode prog_4_method_9_code 10 = .ok (.getfield 15, 3) := by decide +kernel
theorem d_Mo_writeDown_13 : decode prog_4_method_9_code 13 = .ok (.iconst 3, 1) := by decide +kernel
theorem d_Mo_writeDown_14 : decode prog_4_method_9_code 14 = .ok (.aload_n 0, 1) := by decide +kernel
theorem d_Mo_writeDown_15 : decode prog_4_method_9_code 15 = .ok (.getfield 15, 3) := by decide +kernel
theorem d_Mo_writeDown_18 : decode prog_4_method_9_code 18 = .ok (.iconst 0, 1) := by decide +kernel
theorem d_Mo_writeDown_19 : decode prog_4_method_9_code 19 = .ok (.aload_n 0, 1) := by decide +kernel
theorem d_Mo_writeDown_20 : decode prog_4_method_9_code 20 = .ok (.getfield 15, 3) := by decide +kernel
theorem d_Mo_writeDown_23 : decode prog_4_method_9_code 23 = .ok (.arraylength, 1) := by decide +kernel
theorem d_Mo_writeDown_24 : decode prog_4_method_9_code 24 = .ok (.iconst 3, 1) := by decide +kernel
theorem d_Mo_writeDown_25 : decode prog_4_method_9_code 25 = .ok (.isub, 1) := by decide +kernel
theorem d_Mo_writeDown_26 : decode prog_4_method_9_code 26 = .ok (.invokestatic 22, 3) := by decide +kernel
theorem d_Mo_writeDown_29 : decode prog_4_method_9_code 29 = .ok (.aload_n 0, 1) := by decide +kernel
theorem d_Mo_writeDown_30 : decode prog_4_method_9_code 30 = .ok (.bipush 29, 2) := by decide +kernel
theorem d_Mo_writeDown_32 : decode prog_4_method_9_code 32 = .ok (.putfield 40, 3) := by decide +kernel
theorem d_Mo_writeDown_35 : decode prog_4_method_9_code 35 = .ok (.aload_n 0, 1) := by decide +kernel
theorem d_Mo_writeDown_36 : decode prog_4_method_9_code 36 = .ok (.getfield 15, 3) := by decide +kernel
theorem d_Mo_writeDown_39 : decode prog_4_method_9_code 39 = .ok (.aload_n 0, 1) := by decide +kernel
theorem d_Mo_writeDown_40 : decode prog_4_method_9_code 40 = .ok (.getfield 40, 3) := by decide +kernel
theorem d_Mo_writeDown_43 : decode prog_4_method_9_code 43 = .ok (.iconst 3, 1) := by decide +kernel
theorem d_Mo_writeDown_44 : decode prog_4_method_9_code 44 = .ok (.imul, 1) := by decide +kernel
theorem d_Mo_writeDown_45 : decode prog_4_method_9_code 45 = .ok (.iconst 0, 1) := by decide +kernel
theorem d_Mo_writeDown_46 : decode prog_4_method_9_code 46 = .ok (.iadd, 1) := by decide +kernel
theorem d_Mo_writeDown_47 : decode prog_4_method_9_code 47 = .ok (.aload_n 0, 1) := by decide +kernel
theorem d_Mo_writeDown_48 : decode prog_4_method_9_code 48 = .ok (.getfield 37, 3) := by decide +kernel
theorem d_Mo_writeDown_51 : decode prog_4_method_9_code 51 = .ok (.invokestatic 55, 3) := by decide +kernel
theorem d_Mo_writeDown_54 : decode prog_4_method_9_code 54 = .ok (.aload_n 0, 1) := by decide +kernel
theorem d_Mo_writeDown_55 : decode prog_4_method_9_code 55 = .ok (.getfield 15, 3) := by decide +kernel
theorem d_Mo_writeDown_58 : decode prog_4_method_9_code 58 = .ok (.aload_n 0, 1) := by decide +kernel
theorem d_Mo_writeDown_59 : decode prog_4_method_9_code 59 = .ok (.getfield 40, 3) := by decide +kernel
theorem d_Mo_writeDown_62 : decode prog_4_method_9_code 62 = .ok (.iconst 3, 1) := by decide +kernel
theorem d_Mo_writeDown_63 : decode prog_4_method_9_code 63 = .ok (.imul, 1) := by decide +kernel
theorem d_Mo_writeDown_64 : decode prog_4_method_9_code 64 = .ok (.iconst 1, 1) := by decide +kernel
theorem d_Mo_writeDown_65 : decode prog_4_method_9_code 65 = .ok (.iadd, 1) := by decide +kernel
theorem d_Mo_writeDown_66 : decode prog_4_method_9_code 66 = .ok (.iload_n 1, 1) := by decide +kernel
theorem d_Mo_writeDown_67 : decode prog_4_method_9_code 67 = .ok (.invokestatic 55, 3) := by decide +kernel
theorem d_Mo_writeDown_70 : decode prog_4_method_9_code 70 = .ok (.aload_n 0, 1) := by decide +kernel
theorem d_Mo_writeDown_71 : decode prog_4_method_9_code 71 = .ok (.getfield 15, 3) := by decide +kernel
theorem d_Mo_writeDown_74 : decode prog_4_method_9_code 74 = .ok (.aload_n 0, 1) := by decide +kernel
theorem d_Mo_writeDown_75 : decode prog_4_method_9_code 75 = .ok (.getfield 40, 3) := by decide +kernel
theorem d_Mo_writeDown_78 : decode prog_4_method_9_code 78 = .ok (.iconst 3, 1) := by decide +kernel
theorem d_Mo_writeDown_79 : decode prog_4_method_9_code 79 = .ok (.imul, 1) := by decide +kernel
theorem d_Mo_writeDown_80 : decode prog_4_method_9_code 80 = .ok (.iconst 2, 1) := by decide +kernel
theorem d_Mo_writeDown_81 : decode prog_4_method_9_code 81 = .ok (.iadd, 1) := by decide +kernel
theorem d_Mo_writeDown_82 : decode prog_4_method_9_code 82 = .ok (.aload_n 0, 1) := by decide +kernel
theorem d_Mo_writeDown_83 : decode prog_4_method_9_code 83 = .ok (.getfield 34, 3) := by decide +kernel
theorem d_Mo_writeDown_86 : decode prog_4_method_9_code 86 = .ok (.invokestatic 55, 3) := by decide +kernel
theorem d_Mo_writeDown_89 : decode prog_4_method_9_code 89 = .ok (.aload_n 0, 1) := by decide +kernel
theorem d_Mo_writeDown_90 : decode prog_4_method_9_code 90 = .ok (.dup, 1) := by decide +kernel
theorem d_Mo_writeDown_91 : decode prog_4_method_9_code 91 = .ok (.getfield 40, 3) := by decide +kernel
theorem d_Mo_writeDown_94 : decode prog_4_method_9_code 94 = .ok (.iconst 1, 1) := by decide +kernel
theorem d_Mo_writeDown_95 : decode prog_4_method_9_code 95 = .ok (.iadd, 1) := by decide +kernel
theorem d_Mo_writeDown_96 : decode prog_4_method_9_code 96 = .ok (.putfield 40, 3) := by decide +kernel
theorem d_Mo_writeDown_99 : decode prog_4_method_9_code 99 = .ok (.return_, 1) := by decide +kernel
theorem d_Mo_canNudge_0 : decode prog_4_method_6_code 0 = .ok (.aload_n 0, 1) := by decide +kernel
theorem d_Mo_canNudge_1 : decode prog_4_method_6_code 1 = .ok (.iload_n 1, 1) := by decide +kernel
theorem d_Mo_canNudge_2 : decode prog_4_method_6_code 2 = .ok (.invokevirtual 47, 3) := by decide +kernel
theorem d_Mo_canNudge_5 : decode prog_4_method_6_code 5 = .ok (.ifCond .eq 19, 3) := by decide +kernel
theorem d_Mo_canNudge_8 : decode prog_4_method_6_code 8 = .ok (.iload_n 2, 1) := by decide +kernel
theorem d_Mo_canNudge_9 : decode prog_4_method_6_code 9 = .ok (.ifCond .eq 15, 3) := by decide +kernel
theorem d_Mo_canNudge_12 : decode prog_4_method_6_code 12 = .ok (.iload_n 2, 1) := by decide +kernel
theorem d_Mo_canNudge_13 : decode prog_4_method_6_code 13 = .ok (.bipush (-9), 2) := by decide +kernel
theorem d_Mo_canNudge_15 : decode prog_4_method_6_code 15 = .ok (.if_icmp .lt 9, 3) := by decide +kernel
theorem d_Mo_canNudge_18 : decode prog_4_method_6_code 18 = .ok (.iload_n 2, 1) := by decide +kernel
theorem d_Mo_canNudge_19 : decode prog_4_method_6_code 19 = .ok (.bipush 9, 2) := by decide +kernel
theorem d_Mo_canNudge_21 : decode prog_4_method_6_code 21 = .ok (.if_icmp .le 5, 3) := by decide +kernel
theorem d_Mo_canNudge_24 : decode prog_4_method_6_code 24 = .ok (.iconst 0, 1) := by decide +kernel
theorem d_Mo_canNudge_25 : decode prog_4_method_6_code 25 = .ok (.ireturn, 1) := by decide +kernel
theorem d_Mo_canNudge_26 : decode prog_4_method_6_code 26 = .ok (.aload_n 0, 1) := by decide +kernel
theorem d_Mo_canNudge_27 : decode prog_4_method_6_code 27 = .ok (.getfield 9, 3) := by decide +kernel
theorem d_Mo_canNudge_30 : decode prog_4_method_6_code 30 = .ok (.iload_n 1, 1) := by decide +kernel
theorem d_Mo_canNudge_31 : decode prog_4_method_6_code 31 = .ok (.invokestatic 51, 3) := by decide +kernel
theorem d_Mo_canNudge_34 : decode prog_4_method_6_code 34 = .ok (.iload_n 2, 1) := by decide +kernel
theorem d_Mo_canNudge_35 : decode prog_4_method_6_code 35 = .ok (.iadd, 1) := by decide +kernel
theorem d_Mo_canNudge_36 : decode prog_4_method_6_code 36 = .ok (.istore_n 3, 1) := by decide +kernel
theorem d_Mo_canNudge_37 : decode prog_4_method_6_code 37 = .ok (.iload_n 3, 1) := by decide +kernel
theorem d_Mo_canNudge_38 : decode prog_4_method_6_code 38 = .ok (.ifCond .lt 13, 3) := by decide +kernel
theorem d_Mo_canNudge_41 : decode prog_4_method_6_code 41 = .ok (.iload_n 3, 1) := by decide +kernel
theorem d_Mo_canNudge_42 : decode prog_4_method_6_code 42 = .ok (.bipush 9, 2) := by decide +kernel
theorem d_Mo_canNudge_44 : decode prog_4_method_6_code 44 = .ok (.if_icmp .gt 7, 3) := by decide +kernel
theorem d_Mo_canNudge_47 : decode prog_4_method_6_code 47 = .ok (.iconst 1, 1) := by decide +kernel
theorem d_Mo_canNudge_48 : decode prog_4_method_6_code 48 = .ok (.goto 4, 3) := by decide +kernel
theorem d_Mo_canNudge_51 : decode prog_4_method_6_code 51 = .ok (.iconst 0, 1) := by decide +kernel
theorem d_Mo_canNudge_52 : decode prog_4_method_6_code 52 = .ok (.ireturn, 1) := by decide +kernel
theorem d_Cr_takeStepBack_0 : decode prog_3_method_13_code 0 = .ok (.aload_n 0, 1) := by decide +kernel
theorem d_Cr_takeStepBack_1 : decode prog_3_method_13_code 1 = .ok (.aload_n 0, 1) := by decide +kernel
theorem d_Cr_takeStepBack_2 : decode prog_3_method_13_code 2 = .ok (.getfield 68, 3) := by decide +kernel
theorem d_Cr_takeStepBack_5 : decode prog_3_method_13_code 5 = .ok (.iconst 1, 1) := by decide +kernel
theorem d_Cr_takeStepBack_6 : decode prog_3_method_13_code 6 = .ok (.isub, 1) := by decide +kernel
theorem d_Cr_takeStepBack_7 : decode prog_3_method_13_code 7 = .ok (.invokevirtual 115, 3) := by decide +kernel
theorem d_Cr_takeStepBack_10 : decode prog_3_method_13_code 10 = .ok (.astore_n 1, 1) := by decide +kernel
theorem d_Cr_takeStepBack_11 : decode prog_3_method_13_code 11 = .ok (.aload_n 0, 1) := by decide +kernel
theorem d_Cr_takeStepBack_12 : decode prog_3_method_13_code 12 = .ok (.getfield 68, 3) := by decide +kernel
theorem d_Cr_takeStepBack_15 : decode prog_3_method_13_code 15 = .ok (.ifCond .le 7, 3) := by decide +kernel
theorem d_Cr_takeStepBack_18 : decode prog_3_method_13_code 18 = .ok (.aload_n 1, 1) := by decide +kernel
theorem d_Cr_takeStepBack_19 : decode prog_3_method_13_code 19 = .ok (.ifnonnull 5, 3) := by decide +kernel
theorem d_Cr_takeStepBack_22 : decode prog_3_method_13_code 22 = .ok (.iconst 0, 1) := by decide +kernel
theorem d_Cr_takeStepBack_23 : decode prog_3_method_13_code 23 = .ok (.ireturn, 1) := by decide +kernel
theorem d_Cr_takeStepBack_24 : decode prog_3_method_13_code 24 = .ok (.aload_n 0, 1) := by decide +kernel
theorem d_Cr_takeStepBack_25 : decode prog_3_method_13_code 25 = .ok (.dup, 1) := by decide +kernel
theorem d_Cr_takeStepBack_26 : decode prog_3_method_13_code 26 = .ok (.getfield 68, 3) := by decide +kernel
theorem d_Cr_takeStepBack_29 : decode prog_3_method_13_code 29 = .ok (.iconst 1, 1) := by decide +kernel
theorem d_Cr_takeStepBack_30 : decode prog_3_method_13_code 30 = .ok (.isub, 1) := by decide +kernel
theorem d_Cr_takeStepBack_31 : decode prog_3_method_13_code 31 = .ok (.putfield 68, 3) := by decide +kernel
theorem d_Cr_takeStepBack_34 : decode prog_3_method_13_code 34 = .ok (.aload_n 0, 1) := by decide +kernel
theorem d_Cr_takeStepBack_35 : decode prog_3_method_13_code 35 = .ok (.getfield 12, 3) := by decide +kernel
theorem d_Cr_takeStepBack_38 : decode prog_3_method_13_code 38 = .ok (.getfield 93, 3) := by decide +kernel
theorem d_Cr_takeStepBack_41 : decode prog_3_method_13_code 41 = .ok (.istore_n 2, 1) := by decide +kernel
theorem d_Cr_takeStepBack_42 : decode prog_3_method_13_code 42 = .ok (.aload_n 0, 1) := by decide +kernel
theorem d_Cr_takeStepBack_43 : decode prog_3_method_13_code 43 = .ok (.getfield 12, 3) := by decide +kernel
theorem d_Cr_takeStepBack_46 : decode prog_3_method_13_code 46 = .ok (.aload_n 1, 1) := by decide +kernel
theorem d_Cr_takeStepBack_47 : decode prog_3_method_13_code 47 = .ok (.invokevirtual 57, 3) := by decide +kernel
theorem d_Cr_takeStepBack_50 : decode prog_3_method_13_code 50 = .ok (.aload_n 1, 1) := by decide +kernel
theorem d_Cr_takeStepBack_51 : decode prog_3_method_13_code 51 = .ok (.getfield 93, 3) := by decide +kernel
theorem d_Cr_takeStepBack_54 : decode prog_3_method_13_code 54 = .ok (.istore_n 3, 1) := by decide +kernel
theorem d_Cr_takeStepBack_55 : decode prog_3_method_13_code 55 = .ok (.iload_n 3, 1) := by decide +kernel
theorem d_Cr_takeStepBack_56 : decode prog_3_method_13_code 56 = .ok (.iload_n 2, 1) := by decide +kernel
theorem d_Cr_takeStepBack_57 : decode prog_3_method_13_code 57 = .ok (.if_icmp .ge 28, 3) := by decide +kernel
theorem d_Cr_takeStepBack_60 : decode prog_3_method_13_code 60 = .ok (.aload_n 0, 1) := by decide +kernel
theorem d_Cr_takeStepBack_61 : decode prog_3_method_13_code 61 = .ok (.getfield 12, 3) := by decide +kernel
theorem d_Cr_takeStepBack_64 : decode prog_3_method_13_code 64 = .ok (.getfield 96, 3) := by decide +kernel
theorem d_Cr_takeStepBack_67 : decode prog_3_method_13_code 67 = .ok (.iload_n 3, 1) := by decide +kernel
theorem d_Cr_takeStepBack_68 : decode prog_3_method_13_code 68 = .ok (.aload_n 0, 1) := by decide +kernel
theorem d_Cr_takeStepBack_69 : decode prog_3_method_13_code 69 = .ok (.getfield 22, 3) := by decide +kernel
theorem d_Cr_takeStepBack_72 : decode prog_3_method_13_code 72 = .ok (.iload_n 3, 1) := by decide +kernel
theorem d_Cr_takeStepBack_73 : decode prog_3_method_13_code 73 = .ok (.invokestatic 107, 3) := by decide +kernel
theorem d_Cr_takeStepBack_76 : decode prog_3_method_13_code 76 = .ok (.invokestatic 99, 3) := by decide +kernel
theorem d_Cr_takeStepBack_79 : decode prog_3_method_13_code 79 = .ok (.iinc 3 1, 3) := by decide +kernel
theorem d_Cr_takeStepBack_82 : decode prog_3_method_13_code 82 = .ok (.goto (-27), 3) := by decide +kernel
theorem d_Cr_takeStepBack_85 : decode prog_3_method_13_code 85 = .ok (.aload_n 0, 1) := by decide +kernel
theorem d_Cr_takeStepBack_86 : decode prog_3_method_13_code 86 = .ok (.getfield 12, 3) := by decide +kernel
theorem d_Cr_takeStepBack_89 : decode prog_3_method_13_code 89 = .ok (.iload_n 2, 1) := by decide +kernel
theorem d_Cr_takeStepBack_90 : decode prog_3_method_13_code 90 = .ok (.putfield 93, 3) := by decide +kernel
theorem d_Cr_takeStepBack_93 : decode prog_3_method_13_code 93 = .ok (.iconst 1, 1) := by decide +kernel
theorem d_Cr_takeStepBack_94 : decode prog_3_method_13_code 94 = .ok (.ireturn, 1) := by decide +kernel
theorem d_Mo_allLeans_0 : decode prog_4_method_7_code 0 = .ok (.iconst 0, 1) := by decide +kernel
theorem d_Mo_allLeans_1 : decode prog_4_method_7_code 1 = .ok (.istore_n 1, 1) := by decide +kernel
theorem d_Mo_allLeans_2 : decode prog_4_method_7_code 2 = .ok (.iconst 0, 1) := by decide +kernel
theorem d_Mo_allLeans_3 : decode prog_4_method_7_code 3 = .ok (.istore_n 2, 1) := by decide +kernel
theorem d_Mo_allLeans_4 : decode prog_4_method_7_code 4 = .ok (.iload_n 2, 1) := by decide +kernel
theorem d_Mo_allLeans_5 : decode prog_4_method_7_code 5 = .ok (.aload_n 0, 1) := by decide +kernel
theorem d_Mo_allLeans_6 : decode prog_4_method_7_code 6 = .ok (.getfield 28, 3) := by decide +kernel
theorem d_Mo_allLeans_9 : decode prog_4_method_7_code 9 = .ok (.if_icmp .ge 20, 3) := by decide +kernel
theorem d_Mo_allLeans_12 : decode prog_4_method_7_code 12 = .ok (.iload_n 1, 1) := by decide +kernel
theorem d_Mo_allLeans_13 : decode prog_4_method_7_code 13 = .ok (.aload_n 0, 1) := by decide +kernel
theorem d_Mo_allLeans_14 : decode prog_4_method_7_code 14 = .ok (.getfield 9, 3) := by decide +kernel
theorem d_Mo_allLeans_17 : decode prog_4_method_7_code 17 = .ok (.iload_n 2, 1) := by decide +kernel
theorem d_Mo_allLeans_18 : decode prog_4_method_7_code 18 = .ok (.invokestatic 51, 3) := by decide +kernel
theorem d_Mo_allLeans_21 : decode prog_4_method_7_code 21 = .ok (.iadd, 1) := by decide +kernel
theorem d_Mo_allLeans_22 : decode prog_4_method_7_code 22 = .ok (.istore_n 1, 1) := by decide +kernel
theorem d_Mo_allLeans_23 : decode prog_4_method_7_code 23 = .ok (.iinc 2 1, 3) := by decide +kernel
theorem d_Mo_allLeans_26 : decode prog_4_method_7_code 26 = .ok (.goto (-22), 3) := by decide +kernel
theorem d_Mo_allLeans_29 : decode prog_4_method_7_code 29 = .ok (.iload_n 1, 1) := by decide +kernel
theorem d_Mo_allLeans_30 : decode prog_4_method_7_code 30 = .ok (.ireturn, 1) := by decide +kernel
theorem d_Mo_bookAt_0 : decode prog_4_method_10_code 0 = .ok (.aload_n 0, 1) := by decide +kernel
theorem d_Mo_bookAt_1 : decode prog_4_method_10_code 1 = .ok (.getfield 15, 3) := by decide +kernel
theorem d_Mo_bookAt_4 : decode prog_4_method_10_code 4 = .ok (.iload_n 1, 1) := by decide +kernel
theorem d_Mo_bookAt_5 : decode prog_4_method_10_code 5 = .ok (.iconst 3, 1) := by decide +kernel
theorem d_Mo_bookAt_6 : decode prog_4_method_10_code 6 = .ok (.imul, 1) := by decide +kernel
theorem d_Mo_bookAt_7 : decode prog_4_method_10_code 7 = .ok (.iload_n 2, 1) := by decide +kernel
theorem d_Mo_bookAt_8 : decode prog_4_method_10_code 8 = .ok (.iadd, 1) := by decide +kernel
theorem d_Mo_bookAt_9 : decode prog_4_method_10_code 9 = .ok (.invokestatic 51, 3) := by decide +kernel
theorem d_Mo_bookAt_12 : decode prog_4_method_10_code 12 = .ok (.ireturn, 1) := by decide +kernel
theorem d_As_yesBits_0 : decode prog_2_method_2_code 0 = .ok (.iconst 0, 1) := by decide +kernel
theorem d_As_yesBits_1 : decode prog_2_method_2_code 1 = .ok (.istore 4, 2) := by decide +kernel
theorem d_As_yesBits_3 : decode prog_2_method_2_code 3 = .ok (.iconst 0, 1) := by decide +kernel
theorem d_As_yesBits_4 : decode prog_2_method_2_code 4 = .ok (.istore 5, 2) := by decide +kernel
theorem d_As_yesBits_6 : decode prog_2_method_2_code 6 = .ok (.iload 5, 2) := by decide +kernel
theorem d_As_yesBits_8 : decode prog_2_method_2_code 8 = .ok (.aload_n 1, 1) := by decide +kernel
theorem d_As_yesBits_9 : decode prog_2_method_2_code 9 = .ok (.getfield 28, 3) := by decide +kernel
theorem d_As_yesBits_12 : decode prog_2_method_2_code 12 = .ok (.if_icmp .ge 30, 3) := by decide +kernel
theorem d_As_yesBits_15 : decode prog_2_method_2_code 15 = .ok (.aload_n 0, 1) := by decide +kernel
theorem d_As_yesBits_16 : decode prog_2_method_2_code 16 = .ok (.aload_n 1, 1) := by decide +kernel
theorem d_As_yesBits_17 : decode prog_2_method_2_code 17 = .ok (.aload_n 2, 1) := by decide +kernel
theorem d_As_yesBits_18 : decode prog_2_method_2_code 18 = .ok (.iload 5, 2) := by decide +kernel
theorem d_As_yesBits_20 : decode prog_2_method_2_code 20 = .ok (.iload_n 3, 1) := by decide +kernel
theorem d_As_yesBits_21 : decode prog_2_method_2_code 21 = .ok (.invokevirtual 34, 3) := by decide +kernel
theorem d_As_yesBits_24 : decode prog_2_method_2_code 24 = .ok (.ifCond .eq 12, 3) := by decide +kernel
theorem d_As_yesBits_27 : decode prog_2_method_2_code 27 = .ok (.iload 4, 2) := by decide +kernel
theorem d_As_yesBits_29 : decode prog_2_method_2_code 29 = .ok (.iconst 1, 1) := by decide +kernel
theorem d_As_yesBits_30 : decode prog_2_method_2_code 30 = .ok (.iload 5, 2) := by decide +kernel
theorem d_As_yesBits_32 : decode prog_2_method_2_code 32 = .ok (.ishl, 1) := by decide +kernel
theorem d_As_yesBits_33 : decode prog_2_method_2_code 33 = .ok (.ior, 1) := by decide +kernel
theorem d_As_yesBits_34 : decode prog_2_method_2_code 34 = .ok (.istore 4, 2) := by decide +kernel
theorem d_As_yesBits_36 : decode prog_2_method_2_code 36 = .ok (.iinc 5 1, 3) := by decide +kernel
theorem d_As_yesBits_39 : decode prog_2_method_2_code 39 = .ok (.goto (-33), 3) := by decide +kernel
theorem d_As_yesBits_42 : decode prog_2_method_2_code 42 = .ok (.iload 4, 2) := by decide +kernel
theorem d_As_yesBits_44 : decode prog_2_method_2_code 44 = .ok (.ireturn, 1) := by decide +kernel
theorem d_Ou_comesOf_0 : decode prog_5_method_3_code 0 = .ok (.aload_n 0, 1) := by decide +kernel
theorem d_Ou_comesOf_1 : decode prog_5_method_3_code 1 = .ok (.getfield 9, 3) := by decide +kernel
theorem d_Ou_comesOf_4 : decode prog_5_method_3_code 4 = .ok (.iload_n 1, 1) := by decide +kernel
theorem d_Ou_comesOf_5 : decode prog_5_method_3_code 5 = .ok (.invokestatic 21, 3) := by decide +kernel
theorem d_Ou_comesOf_8 : decode prog_5_method_3_code 8 = .ok (.invokestatic 25, 3) := by decide +kernel
theorem d_Ou_comesOf_11 : decode prog_5_method_3_code 11 = .ok (.ireturn, 1) := by decide +kernel
theorem d_Ou_trueBits_0 : decode prog_5_method_4_code 0 = .ok (.iconst 0, 1) := by decide +kernel
theorem d_Ou_trueBits_1 : decode prog_5_method_4_code 1 = .ok (.istore_n 1, 1) := by decide +kernel
theorem d_Ou_trueBits_2 : decode prog_5_method_4_code 2 = .ok (.iconst 0, 1) := by decide +kernel
theorem d_Ou_trueBits_3 : decode prog_5_method_4_code 3 = .ok (.istore_n 2, 1) := by decide +kernel
theorem d_Ou_trueBits_4 : decode prog_5_method_4_code 4 = .ok (.iload_n 2, 1) := by decide +kernel
theorem d_Ou_trueBits_5 : decode prog_5_method_4_code 5 = .ok (.aload_n 0, 1) := by decide +kernel
theorem d_Ou_trueBits_6 : decode prog_5_method_4_code 6 = .ok (.getfield 31, 3) := by decide +kernel
theorem d_Ou_trueBits_9 : decode prog_5_method_4_code 9 = .ok (.if_icmp .gt 24, 3) := by decide +kernel
theorem d_Ou_trueBits_12 : decode prog_5_method_4_code 12 = .ok (.aload_n 0, 1) := by decide +kernel
theorem d_Ou_trueBits_13 : decode prog_5_method_4_code 13 = .ok (.iload_n 2, 1) := by decide +kernel
theorem d_Ou_trueBits_14 : decode prog_5_method_4_code 14 = .ok (.invokevirtual 35, 3) := by decide +kernel
theorem d_Ou_trueBits_17 : decode prog_5_method_4_code 17 = .ok (.iload_n 2, 1) := by decide +kernel
theorem d_Ou_trueBits_18 : decode prog_5_method_4_code 18 = .ok (.if_icmp .ne 9, 3) := by decide +kernel
theorem d_Ou_trueBits_21 : decode prog_5_method_4_code 21 = .ok (.iload_n 1, 1) := by decide +kernel
theorem d_Ou_trueBits_22 : decode prog_5_method_4_code 22 = .ok (.iconst 1, 1) := by decide +kernel
theorem d_Ou_trueBits_23 : decode prog_5_method_4_code 23 = .ok (.iload_n 2, 1) := by decide +kernel
theorem d_Ou_trueBits_24 : decode prog_5_method_4_code 24 = .ok (.ishl, 1) := by decide +kernel
theorem d_Ou_trueBits_25 : decode prog_5_method_4_code 25 = .ok (.ior, 1) := by decide +kernel
theorem d_Ou_trueBits_26 : decode prog_5_method_4_code 26 = .ok (.istore_n 1, 1) := by decide +kernel
theorem d_Ou_trueBits_27 : decode prog_5_method_4_code 27 = .ok (.iinc 2 1, 3) := by decide +kernel
theorem d_Ou_trueBits_30 : decode prog_5_method_4_code 30 = .ok (.goto (-26), 3) := by decide +kernel
theorem d_Ou_trueBits_33 : decode prog_5_method_4_code 33 = .ok (.iload_n 1, 1) := by decide +kernel
theorem d_Ou_trueBits_34 : decode prog_5_method_4_code 34 = .ok (.ireturn, 1) := by decide +kernel
theorem d_Ou_firmBits_0 : decode prog_5_method_5_code 0 = .ok (.iconst 0, 1) := by decide +kernel
theorem d_Ou_firmBits_1 : decode prog_5_method_5_code 1 = .ok (.istore_n 1, 1) := by decide +kernel
theorem d_Ou_firmBits_2 : decode prog_5_method_5_code 2 = .ok (.iconst 0, 1) := by decide +kernel
theorem d_Ou_firmBits_3 : decode prog_5_method_5_code 3 = .ok (.istore_n 2, 1) := by decide +kernel
theorem d_Ou_firmBits_4 : decode prog_5_method_5_code 4 = .ok (.iload_n 2, 1) := by decide +kernel
theorem d_Ou_firmBits_5 : decode prog_5_method_5_code 5 = .ok (.aload_n 0, 1) := by decide +kernel
theorem d_Ou_firmBits_6 : decode prog_5_method_5_code 6 = .ok (.getfield 31, 3) := by decide +kernel
theorem d_Ou_firmBits_9 : decode prog_5_method_5_code 9 = .ok (.if_icmp .gt 80, 3) := by decide +kernel
theorem d_Ou_firmBits_12 : decode prog_5_method_5_code 12 = .ok (.iload_n 2, 1) := by decide +kernel
theorem d_Ou_firmBits_13 : decode prog_5_method_5_code 13 = .ok (.ifCond .eq 14, 3) := by decide +kernel
theorem d_Ou_firmBits_16 : decode prog_5_method_5_code 16 = .ok (.aload_n 0, 1) := by decide +kernel
theorem d_Ou_firmBits_17 : decode prog_5_method_5_code 17 = .ok (.iload_n 2, 1) := by decide +kernel
theorem d_Ou_firmBits_18 : decode prog_5_method_5_code 18 = .ok (.iconst 1, 1) := by decide +kernel
theorem d_Ou_firmBits_19 : decode prog_5_method_5_code 19 = .ok (.isub, 1) := by decide +kernel
theorem d_Ou_firmBits_20 : decode prog_5_method_5_code 20 = .ok (.invokevirtual 35, 3) := by decide +kernel
theorem d_Ou_firmBits_23 : decode prog_5_method_5_code 23 = .ok (.iload_n 2, 1) := by decide +kernel
theorem d_Ou_firmBits_24 : decode prog_5_method_5_code 24 = .ok (.if_icmp .ne 7, 3) := by decide +kernel
theorem d_Ou_firmBits_27 : decode prog_5_method_5_code 27 = .ok (.iconst 1, 1) := by decide +kernel
theorem d_Ou_firmBits_28 : decode prog_5_method_5_code 28 = .ok (.goto 4, 3) := by decide +kernel
theorem d_Ou_firmBits_31 : decode prog_5_method_5_code 31 = .ok (.iconst 0, 1) := by decide +kernel
theorem d_Ou_firmBits_32 : decode prog_5_method_5_code 32 = .ok (.istore_n 3, 1) := by decide +kernel
theorem d_Ou_firmBits_33 : decode prog_5_method_5_code 33 = .ok (.iload_n 2, 1) := by decide +kernel
theorem d_Ou_firmBits_34 : decode prog_5_method_5_code 34 = .ok (.aload_n 0, 1) := by decide +kernel
theorem d_Ou_firmBits_35 : decode prog_5_method_5_code 35 = .ok (.getfield 31, 3) := by decide +kernel
theorem d_Ou_firmBits_38 : decode prog_5_method_5_code 38 = .ok (.if_icmp .eq 14, 3) := by decide +kernel
theorem d_Ou_firmBits_41 : decode prog_5_method_5_code 41 = .ok (.aload_n 0, 1) := by decide +kernel
theorem d_Ou_firmBits_42 : decode prog_5_method_5_code 42 = .ok (.iload_n 2, 1) := by decide +kernel
theorem d_Ou_firmBits_43 : decode prog_5_method_5_code 43 = .ok (.iconst 1, 1) := by decide +kernel
theorem d_Ou_firmBits_44 : decode prog_5_method_5_code 44 = .ok (.iadd, 1) := by decide +kernel
theorem d_Ou_firmBits_45 : decode prog_5_method_5_code 45 = .ok (.invokevirtual 35, 3) := by decide +kernel
theorem d_Ou_firmBits_48 : decode prog_5_method_5_code 48 = .ok (.iload_n 2, 1) := by decide +kernel
theorem d_Ou_firmBits_49 : decode prog_5_method_5_code 49 = .ok (.if_icmp .ne 7, 3) := by decide +kernel
theorem d_Ou_firmBits_52 : decode prog_5_method_5_code 52 = .ok (.iconst 1, 1) := by decide +kernel
theorem d_Ou_firmBits_53 : decode prog_5_method_5_code 53 = .ok (.goto 4, 3) := by decide +kernel
theorem d_Ou_firmBits_56 : decode prog_5_method_5_code 56 = .ok (.iconst 0, 1) := by decide +kernel
theorem d_Ou_firmBits_57 : decode prog_5_method_5_code 57 = .ok (.istore 4, 2) := by decide +kernel
theorem d_Ou_firmBits_59 : decode prog_5_method_5_code 59 = .ok (.aload_n 0, 1) := by decide +kernel
theorem d_Ou_firmBits_60 : decode prog_5_method_5_code 60 = .ok (.iload_n 2, 1) := by decide +kernel
theorem d_Ou_firmBits_61 : decode prog_5_method_5_code 61 = .ok (.invokevirtual 35, 3) := by decide +kernel
theorem d_Ou_firmBits_64 : decode prog_5_method_5_code 64 = .ok (.iload_n 2, 1) := by decide +kernel
theorem d_Ou_firmBits_65 : decode prog_5_method_5_code 65 = .ok (.if_icmp .ne 18, 3) := by decide +kernel
theorem d_Ou_firmBits_68 : decode prog_5_method_5_code 68 = .ok (.iload_n 3, 1) := by decide +kernel
theorem d_Ou_firmBits_69 : decode prog_5_method_5_code 69 = .ok (.ifCond .eq 14, 3) := by decide +kernel
theorem d_Ou_firmBits_72 : decode prog_5_method_5_code 72 = .ok (.iload 4, 2) := by decide +kernel
theorem d_Ou_firmBits_74 : decode prog_5_method_5_code 74 = .ok (.ifCond .eq 9, 3) := by decide +kernel
theorem d_Ou_firmBits_77 : decode prog_5_method_5_code 77 = .ok (.iload_n 1, 1) := by decide +kernel
theorem d_Ou_firmBits_78 : decode prog_5_method_5_code 78 = .ok (.iconst 1, 1) := by decide +kernel
theorem d_Ou_firmBits_79 : decode prog_5_method_5_code 79 = .ok (.iload_n 2, 1) := by decide +kernel
theorem d_Ou_firmBits_80 : decode prog_5_method_5_code 80 = .ok (.ishl, 1) := by decide +kernel
theorem d_Ou_firmBits_81 : decode prog_5_method_5_code 81 = .ok (.ior, 1) := by decide +kernel
theorem d_Ou_firmBits_82 : decode prog_5_method_5_code 82 = .ok (.istore_n 1, 1) := by decide +kernel
theorem d_Ou_firmBits_83 : decode prog_5_method_5_code 83 = .ok (.iinc 2 1, 3) := by decide +kernel
theorem d_Ou_firmBits_86 : decode prog_5_method_5_code 86 = .ok (.goto (-82), 3) := by decide +kernel
theorem d_Ou_firmBits_89 : decode prog_5_method_5_code 89 = .ok (.iload_n 1, 1) := by decide +kernel
theorem d_Ou_firmBits_90 : decode prog_5_method_5_code 90 = .ok (.ireturn, 1) := by decide +kernel
theorem d_Ou_ringSize_0 : decode prog_5_method_9_code 0 = .ok (.aload_n 0, 1) := by decide +kernel
theorem d_Ou_ringSize_1 : decode prog_5_method_9_code 1 = .ok (.aload_n 0, 1) := by decide +kernel
theorem d_Ou_ringSize_2 : decode prog_5_method_9_code 2 = .ok (.iload_n 1, 1) := by decide +kernel
theorem d_Ou_ringSize_3 : decode prog_5_method_9_code 3 = .ok (.invokevirtual 41, 3) := by decide +kernel
theorem d_Ou_ringSize_6 : decode prog_5_method_9_code 6 = .ok (.invokevirtual 38, 3) := by decide +kernel
theorem d_Ou_ringSize_9 : decode prog_5_method_9_code 9 = .ok (.ireturn, 1) := by decide +kernel
theorem d_Ou_someOfRing_0 : decode prog_5_method_8_code 0 = .ok (.iload_n 1, 1) := by decide +kernel
theorem d_Ou_someOfRing_1 : decode prog_5_method_8_code 1 = .ok (.istore_n 2, 1) := by decide +kernel
theorem d_Ou_someOfRing_2 : decode prog_5_method_8_code 2 = .ok (.iconst 0, 1) := by decide +kernel
theorem d_Ou_someOfRing_3 : decode prog_5_method_8_code 3 = .ok (.istore_n 3, 1) := by decide +kernel
theorem d_Ou_someOfRing_4 : decode prog_5_method_8_code 4 = .ok (.iload_n 3, 1) := by decide +kernel
theorem d_Ou_someOfRing_5 : decode prog_5_method_8_code 5 = .ok (.aload_n 0, 1) := by decide +kernel
theorem d_Ou_someOfRing_6 : decode prog_5_method_8_code 6 = .ok (.getfield 31, 3) := by decide +kernel
theorem d_Ou_someOfRing_9 : decode prog_5_method_8_code 9 = .ok (.if_icmp .gt 15, 3) := by decide +kernel
theorem d_Ou_someOfRing_12 : decode prog_5_method_8_code 12 = .ok (.aload_n 0, 1) := by decide +kernel
theorem d_Ou_someOfRing_13 : decode prog_5_method_8_code 13 = .ok (.iload_n 2, 1) := by decide +kernel
theorem d_Ou_someOfRing_14 : decode prog_5_method_8_code 14 = .ok (.invokevirtual 35, 3) := by decide +kernel
theorem d_Ou_someOfRing_17 : decode prog_5_method_8_code 17 = .ok (.istore_n 2, 1) := by decide +kernel
theorem d_Ou_someOfRing_18 : decode prog_5_method_8_code 18 = .ok (.iinc 3 1, 3) := by decide +kernel
theorem d_Ou_someOfRing_21 : decode prog_5_method_8_code 21 = .ok (.goto (-17), 3) := by decide +kernel
theorem d_Ou_someOfRing_24 : decode prog_5_method_8_code 24 = .ok (.iload_n 2, 1) := by decide +kernel
theorem d_Ou_someOfRing_25 : decode prog_5_method_8_code 25 = .ok (.ireturn, 1) := by decide +kernel
theorem d_Ou_ringThrough_0 : decode prog_5_method_6_code 0 = .ok (.iload_n 1, 1) := by decide +kernel
theorem d_Ou_ringThrough_1 : decode prog_5_method_6_code 1 = .ok (.istore_n 2, 1) := by decide +kernel
theorem d_Ou_ringThrough_2 : decode prog_5_method_6_code 2 = .ok (.iconst 1, 1) := by decide +kernel
theorem d_Ou_ringThrough_3 : decode prog_5_method_6_code 3 = .ok (.istore_n 3, 1) := by decide +kernel
theorem d_Ou_ringThrough_4 : decode prog_5_method_6_code 4 = .ok (.iload_n 3, 1) := by decide +kernel
theorem d_Ou_ringThrough_5 : decode prog_5_method_6_code 5 = .ok (.aload_n 0, 1) := by decide +kernel
theorem d_Ou_ringThrough_6 : decode prog_5_method_6_code 6 = .ok (.getfield 31, 3) := by decide +kernel
theorem d_Ou_ringThrough_9 : decode prog_5_method_6_code 9 = .ok (.iconst 1, 1) := by decide +kernel
theorem d_Ou_ringThrough_10 : decode prog_5_method_6_code 10 = .ok (.iadd, 1) := by decide +kernel
theorem d_Ou_ringThrough_11 : decode prog_5_method_6_code 11 = .ok (.if_icmp .gt 22, 3) := by decide +kernel
theorem d_Ou_ringThrough_14 : decode prog_5_method_6_code 14 = .ok (.aload_n 0, 1) := by decide +kernel
theorem d_Ou_ringThrough_15 : decode prog_5_method_6_code 15 = .ok (.iload_n 2, 1) := by decide +kernel
theorem d_Ou_ringThrough_16 : decode prog_5_method_6_code 16 = .ok (.invokevirtual 35, 3) := by decide +kernel
theorem d_Ou_ringThrough_19 : decode prog_5_method_6_code 19 = .ok (.istore_n 2, 1) := by decide +kernel
theorem d_Ou_ringThrough_20 : decode prog_5_method_6_code 20 = .ok (.iload_n 2, 1) := by decide +kernel
theorem d_Ou_ringThrough_21 : decode prog_5_method_6_code 21 = .ok (.iload_n 1, 1) := by decide +kernel
theorem d_Ou_ringThrough_22 : decode prog_5_method_6_code 22 = .ok (.if_icmp .ne 5, 3) := by decide +kernel
theorem d_Ou_ringThrough_25 : decode prog_5_method_6_code 25 = .ok (.iload_n 3, 1) := by decide +kernel
theorem d_Ou_ringThrough_26 : decode prog_5_method_6_code 26 = .ok (.ireturn, 1) := by decide +kernel
theorem d_Ou_ringThrough_27 : decode prog_5_method_6_code 27 = .ok (.iinc 3 1, 3) := by decide +kernel
theorem d_Ou_ringThrough_30 : decode prog_5_method_6_code 30 = .ok (.goto (-26), 3) := by decide +kernel
theorem d_Ou_ringThrough_33 : decode prog_5_method_6_code 33 = .ok (.iconst 0, 1) := by decide +kernel
theorem d_Ou_ringThrough_34 : decode prog_5_method_6_code 34 = .ok (.ireturn, 1) := by decide +kernel
theorem d_Ou_ringLowest_0 : decode prog_5_method_10_code 0 = .ok (.aload_n 0, 1) := by decide +kernel
theorem d_Ou_ringLowest_1 : decode prog_5_method_10_code 1 = .ok (.iload_n 1, 1) := by decide +kernel
theorem d_Ou_ringLowest_2 : decode prog_5_method_10_code 2 = .ok (.invokevirtual 41, 3) := by decide +kernel
theorem d_Ou_ringLowest_5 : decode prog_5_method_10_code 5 = .ok (.istore_n 2, 1) := by decide +kernel
theorem d_Ou_ringLowest_6 : decode prog_5_method_10_code 6 = .ok (.iload_n 2, 1) := by decide +kernel
theorem d_Ou_ringLowest_7 : decode prog_5_method_10_code 7 = .ok (.istore_n 3, 1) := by decide +kernel
theorem d_Ou_ringLowest_8 : decode prog_5_method_10_code 8 = .ok (.iconst 0, 1) := by decide +kernel
theorem d_Ou_ringLowest_9 : decode prog_5_method_10_code 9 = .ok (.istore 4, 2) := by decide +kernel
theorem d_Ou_ringLowest_11 : decode prog_5_method_10_code 11 = .ok (.iload 4, 2) := by decide +kernel
theorem d_Ou_ringLowest_13 : decode prog_5_method_10_code 13 = .ok (.aload_n 0, 1) := by decide +kernel
theorem d_Ou_ringLowest_14 : decode prog_5_method_10_code 14 = .ok (.getfield 31, 3) := by decide +kernel
theorem d_Ou_ringLowest_17 : decode prog_5_method_10_code 17 = .ok (.if_icmp .gt 21, 3) := by decide +kernel
theorem d_Ou_ringLowest_20 : decode prog_5_method_10_code 20 = .ok (.aload_n 0, 1) := by decide +kernel
theorem d_Ou_ringLowest_21 : decode prog_5_method_10_code 21 = .ok (.iload_n 2, 1) := by decide +kernel
theorem d_Ou_ringLowest_22 : decode prog_5_method_10_code 22 = .ok (.invokevirtual 35, 3) := by decide +kernel
theorem d_Ou_ringLowest_25 : decode prog_5_method_10_code 25 = .ok (.istore_n 2, 1) := by decide +kernel
theorem d_Ou_ringLowest_26 : decode prog_5_method_10_code 26 = .ok (.iload_n 3, 1) := by decide +kernel
theorem d_Ou_ringLowest_27 : decode prog_5_method_10_code 27 = .ok (.iload_n 2, 1) := by decide +kernel
theorem d_Ou_ringLowest_28 : decode prog_5_method_10_code 28 = .ok (.invokestatic 44, 3) := by decide +kernel
theorem d_Ou_ringLowest_31 : decode prog_5_method_10_code 31 = .ok (.istore_n 3, 1) := by decide +kernel
theorem d_Ou_ringLowest_32 : decode prog_5_method_10_code 32 = .ok (.iinc 4 1, 3) := by decide +kernel
theorem d_Ou_ringLowest_35 : decode prog_5_method_10_code 35 = .ok (.goto (-24), 3) := by decide +kernel
theorem d_Ou_ringLowest_38 : decode prog_5_method_10_code 38 = .ok (.iload_n 3, 1) := by decide +kernel
theorem d_Ou_ringLowest_39 : decode prog_5_method_10_code 39 = .ok (.ireturn, 1) := by decide +kernel
theorem d_Ou_tillRing_0 : decode prog_5_method_7_code 0 = .ok (.iload_n 1, 1) := by decide +kernel
theorem d_Ou_tillRing_1 : decode prog_5_method_7_code 1 = .ok (.istore_n 2, 1) := by decide +kernel
theorem d_Ou_tillRing_2 : decode prog_5_method_7_code 2 = .ok (.iconst 0, 1) := by decide +kernel
theorem d_Ou_tillRing_3 : decode prog_5_method_7_code 3 = .ok (.istore_n 3, 1) := by decide +kernel
theorem d_Ou_tillRing_4 : decode prog_5_method_7_code 4 = .ok (.iload_n 3, 1) := by decide +kernel
theorem d_Ou_tillRing_5 : decode prog_5_method_7_code 5 = .ok (.aload_n 0, 1) := by decide +kernel
theorem d_Ou_tillRing_6 : decode prog_5_method_7_code 6 = .ok (.getfield 31, 3) := by decide +kernel
theorem d_Ou_tillRing_9 : decode prog_5_method_7_code 9 = .ok (.if_icmp .gt 23, 3) := by decide +kernel
theorem d_Ou_tillRing_12 : decode prog_5_method_7_code 12 = .ok (.aload_n 0, 1) := by decide +kernel
theorem d_Ou_tillRing_13 : decode prog_5_method_7_code 13 = .ok (.iload_n 2, 1) := by decide +kernel
theorem d_Ou_tillRing_14 : decode prog_5_method_7_code 14 = .ok (.invokevirtual 38, 3) := by decide +kernel
theorem d_Ou_tillRing_17 : decode prog_5_method_7_code 17 = .ok (.ifCond .ne 15, 3) := by decide +kernel
theorem d_Ou_tillRing_20 : decode prog_5_method_7_code 20 = .ok (.aload_n 0, 1) := by decide +kernel
theorem d_Ou_tillRing_21 : decode prog_5_method_7_code 21 = .ok (.iload_n 2, 1) := by decide +kernel
theorem d_Ou_tillRing_22 : decode prog_5_method_7_code 22 = .ok (.invokevirtual 35, 3) := by decide +kernel
theorem d_Ou_tillRing_25 : decode prog_5_method_7_code 25 = .ok (.istore_n 2, 1) := by decide +kernel
theorem d_Ou_tillRing_26 : decode prog_5_method_7_code 26 = .ok (.iinc 3 1, 3) := by decide +kernel
theorem d_Ou_tillRing_29 : decode prog_5_method_7_code 29 = .ok (.goto (-25), 3) := by decide +kernel
theorem d_Ou_tillRing_32 : decode prog_5_method_7_code 32 = .ok (.iload_n 3, 1) := by decide +kernel
theorem d_Ou_tillRing_33 : decode prog_5_method_7_code 33 = .ok (.ireturn, 1) := by decide +kernel
theorem d_Ou_leadBits_0 : decode prog_5_method_11_code 0 = .ok (.iconst 1, 1) := by decide +kernel
theorem d_Ou_leadBits_1 : decode prog_5_method_11_code 1 = .ok (.iload_n 1, 1) := by decide +kernel
theorem d_Ou_leadBits_2 : decode prog_5_method_11_code 2 = .ok (.ishl, 1) := by decide +kernel
theorem d_Ou_leadBits_3 : decode prog_5_method_11_code 3 = .ok (.istore_n 2, 1) := by decide +kernel
theorem d_Ou_leadBits_4 : decode prog_5_method_11_code 4 = .ok (.iconst 0, 1) := by decide +kernel
theorem d_Ou_leadBits_5 : decode prog_5_method_11_code 5 = .ok (.istore_n 3, 1) := by decide +kernel
theorem d_Ou_leadBits_6 : decode prog_5_method_11_code 6 = .ok (.iload_n 3, 1) := by decide +kernel
theorem d_Ou_leadBits_7 : decode prog_5_method_11_code 7 = .ok (.aload_n 0, 1) := by decide +kernel
theorem d_Ou_leadBits_8 : decode prog_5_method_11_code 8 = .ok (.getfield 31, 3) := by decide +kernel
theorem d_Ou_leadBits_11 : decode prog_5_method_11_code 11 = .ok (.if_icmp .gt 48, 3) := by decide +kernel
theorem d_Ou_leadBits_14 : decode prog_5_method_11_code 14 = .ok (.iconst 0, 1) := by decide +kernel
theorem d_Ou_leadBits_15 : decode prog_5_method_11_code 15 = .ok (.istore 4, 2) := by decide +kernel
theorem d_Ou_leadBits_17 : decode prog_5_method_11_code 17 = .ok (.iload 4, 2) := by decide +kernel
theorem d_Ou_leadBits_19 : decode prog_5_method_11_code 19 = .ok (.aload_n 0, 1) := by decide +kernel
theorem d_Ou_leadBits_20 : decode prog_5_method_11_code 20 = .ok (.getfield 31, 3) := by decide +kernel
theorem d_Ou_leadBits_23 : decode prog_5_method_11_code 23 = .ok (.if_icmp .gt 30, 3) := by decide +kernel
theorem d_Ou_leadBits_26 : decode prog_5_method_11_code 26 = .ok (.iload_n 2, 1) := by decide +kernel
theorem d_Ou_leadBits_27 : decode prog_5_method_11_code 27 = .ok (.aload_n 0, 1) := by decide +kernel
theorem d_Ou_leadBits_28 : decode prog_5_method_11_code 28 = .ok (.iload 4, 2) := by decide +kernel
theorem d_Ou_leadBits_30 : decode prog_5_method_11_code 30 = .ok (.invokevirtual 35, 3) := by decide +kernel
theorem d_Ou_leadBits_33 : decode prog_5_method_11_code 33 = .ok (.ishr, 1) := by decide +kernel
theorem d_Ou_leadBits_34 : decode prog_5_method_11_code 34 = .ok (.iconst 1, 1) := by decide +kernel
theorem d_Ou_leadBits_35 : decode prog_5_method_11_code 35 = .ok (.iand, 1) := by decide +kernel
theorem d_Ou_leadBits_36 : decode prog_5_method_11_code 36 = .ok (.iconst 1, 1) := by decide +kernel
theorem d_Ou_leadBits_37 : decode prog_5_method_11_code 37 = .ok (.if_icmp .ne 10, 3) := by decide +kernel
theorem d_Ou_leadBits_40 : decode prog_5_method_11_code 40 = .ok (.iload_n 2, 1) := by decide +kernel
theorem d_Ou_leadBits_41 : decode prog_5_method_11_code 41 = .ok (.iconst 1, 1) := by decide +kernel
theorem d_Ou_leadBits_42 : decode prog_5_method_11_code 42 = .ok (.iload 4, 2) := by decide +kernel
theorem d_Ou_leadBits_44 : decode prog_5_method_11_code 44 = .ok (.ishl, 1) := by decide +kernel
theorem d_Ou_leadBits_45 : decode prog_5_method_11_code 45 = .ok (.ior, 1) := by decide +kernel
theorem d_Ou_leadBits_46 : decode prog_5_method_11_code 46 = .ok (.istore_n 2, 1) := by decide +kernel
theorem d_Ou_leadBits_47 : decode prog_5_method_11_code 47 = .ok (.iinc 4 1, 3) := by decide +kernel
theorem d_Ou_leadBits_50 : decode prog_5_method_11_code 50 = .ok (.goto (-33), 3) := by decide +kernel
theorem d_Ou_leadBits_53 : decode prog_5_method_11_code 53 = .ok (.iinc 3 1, 3) := by decide +kernel
theorem d_Ou_leadBits_56 : decode prog_5_method_11_code 56 = .ok (.goto (-50), 3) := by decide +kernel
theorem d_Ou_leadBits_59 : decode prog_5_method_11_code 59 = .ok (.iload_n 2, 1) := by decide +kernel
theorem d_Ou_leadBits_60 : decode prog_5_method_11_code 60 = .ok (.ireturn, 1) := by decide +kernel
theorem d_Ou_ringCount_0 : decode prog_5_method_12_code 0 = .ok (.iconst 0, 1) := by decide +kernel
theorem d_Ou_ringCount_1 : decode prog_5_method_12_code 1 = .ok (.istore_n 1, 1) := by decide +kernel
theorem d_Ou_ringCount_2 : decode prog_5_method_12_code 2 = .ok (.iconst 0, 1) := by decide +kernel
theorem d_Ou_ringCount_3 : decode prog_5_method_12_code 3 = .ok (.istore_n 2, 1) := by decide +kernel
theorem d_Ou_ringCount_4 : decode prog_5_method_12_code 4 = .ok (.iload_n 2, 1) := by decide +kernel
theorem d_Ou_ringCount_5 : decode prog_5_method_12_code 5 = .ok (.aload_n 0, 1) := by decide +kernel
theorem d_Ou_ringCount_6 : decode prog_5_method_12_code 6 = .ok (.getfield 31, 3) := by decide +kernel
theorem d_Ou_ringCount_9 : decode prog_5_method_12_code 9 = .ok (.if_icmp .gt 29, 3) := by decide +kernel
theorem d_Ou_ringCount_12 : decode prog_5_method_12_code 12 = .ok (.aload_n 0, 1) := by decide +kernel
theorem d_Ou_ringCount_13 : decode prog_5_method_12_code 13 = .ok (.iload_n 2, 1) := by decide +kernel
theorem d_Ou_ringCount_14 : decode prog_5_method_12_code 14 = .ok (.invokevirtual 38, 3) := by decide +kernel
theorem d_Ou_ringCount_17 : decode prog_5_method_12_code 17 = .ok (.ifCond .le 15, 3) := by decide +kernel
theorem d_Ou_ringCount_20 : decode prog_5_method_12_code 20 = .ok (.aload_n 0, 1) := by decide +kernel
theorem d_Ou_ringCount_21 : decode prog_5_method_12_code 21 = .ok (.iload_n 2, 1) := by decide +kernel
theorem d_Ou_ringCount_22 : decode prog_5_method_12_code 22 = .ok (.invokevirtual 50, 3) := by decide +kernel
theorem d_Ou_ringCount_25 : decode prog_5_method_12_code 25 = .ok (.iload_n 2, 1) := by decide +kernel
theorem d_Ou_ringCount_26 : decode prog_5_method_12_code 26 = .ok (.if_icmp .ne 6, 3) := by decide +kernel
theorem d_Ou_ringCount_29 : decode prog_5_method_12_code 29 = .ok (.iinc 1 1, 3) := by decide +kernel
theorem d_Ou_ringCount_32 : decode prog_5_method_12_code 32 = .ok (.iinc 2 1, 3) := by decide +kernel
theorem d_Ou_ringCount_35 : decode prog_5_method_12_code 35 = .ok (.goto (-31), 3) := by decide +kernel
theorem d_Ou_ringCount_38 : decode prog_5_method_12_code 38 = .ok (.iload_n 1, 1) := by decide +kernel
theorem d_Ou_ringCount_39 : decode prog_5_method_12_code 39 = .ok (.ireturn, 1) := by decide +kernel
theorem d_Ou_nearestFigure_0 : decode prog_5_method_13_code 0 = .ok (.iconst 0, 1) := by decide +kernel
theorem d_Ou_nearestFigure_1 : decode prog_5_method_13_code 1 = .ok (.istore_n 1, 1) := by decide +kernel
theorem d_Ou_nearestFigure_2 : decode prog_5_method_13_code 2 = .ok (.iconst 1, 1) := by decide +kernel
theorem d_Ou_nearestFigure_3 : decode prog_5_method_13_code 3 = .ok (.istore_n 2, 1) := by decide +kernel
theorem d_Ou_nearestFigure_4 : decode prog_5_method_13_code 4 = .ok (.iload_n 2, 1) := by decide +kernel
theorem d_Ou_nearestFigure_5 : decode prog_5_method_13_code 5 = .ok (.aload_n 0, 1) := by decide +kernel
theorem d_Ou_nearestFigure_6 : decode prog_5_method_13_code 6 = .ok (.getfield 31, 3) := by decide +kernel
theorem d_Ou_nearestFigure_9 : decode prog_5_method_13_code 9 = .ok (.if_icmp .gt 34, 3) := by decide +kernel
theorem d_Ou_nearestFigure_12 : decode prog_5_method_13_code 12 = .ok (.aload_n 0, 1) := by decide +kernel
theorem d_Ou_nearestFigure_13 : decode prog_5_method_13_code 13 = .ok (.iload_n 2, 1) := by decide +kernel
theorem d_Ou_nearestFigure_14 : decode prog_5_method_13_code 14 = .ok (.invokevirtual 35, 3) := by decide +kernel
theorem d_Ou_nearestFigure_17 : decode prog_5_method_13_code 17 = .ok (.iload_n 2, 1) := by decide +kernel
theorem d_Ou_nearestFigure_18 : decode prog_5_method_13_code 18 = .ok (.isub, 1) := by decide +kernel
theorem d_Ou_nearestFigure_19 : decode prog_5_method_13_code 19 = .ok (.invokestatic 53, 3) := by decide +kernel
theorem d_Ou_nearestFigure_22 : decode prog_5_method_13_code 22 = .ok (.aload_n 0, 1) := by decide +kernel
theorem d_Ou_nearestFigure_23 : decode prog_5_method_13_code 23 = .ok (.iload_n 1, 1) := by decide +kernel
theorem d_Ou_nearestFigure_24 : decode prog_5_method_13_code 24 = .ok (.invokevirtual 35, 3) := by decide +kernel
theorem d_Ou_nearestFigure_27 : decode prog_5_method_13_code 27 = .ok (.iload_n 1, 1) := by decide +kernel
theorem d_Ou_nearestFigure_28 : decode prog_5_method_13_code 28 = .ok (.isub, 1) := by decide +kernel
theorem d_Ou_nearestFigure_29 : decode prog_5_method_13_code 29 = .ok (.invokestatic 53, 3) := by decide +kernel
theorem d_Ou_nearestFigure_32 : decode prog_5_method_13_code 32 = .ok (.if_icmp .ge 5, 3) := by decide +kernel
theorem d_Ou_nearestFigure_35 : decode prog_5_method_13_code 35 = .ok (.iload_n 2, 1) := by decide +kernel
theorem d_Ou_nearestFigure_36 : decode prog_5_method_13_code 36 = .ok (.istore_n 1, 1) := by decide +kernel
theorem d_Ou_nearestFigure_37 : decode prog_5_method_13_code 37 = .ok (.iinc 2 1, 3) := by decide +kernel
theorem d_Ou_nearestFigure_40 : decode prog_5_method_13_code 40 = .ok (.goto (-36), 3) := by decide +kernel
theorem d_Ou_nearestFigure_43 : decode prog_5_method_13_code 43 = .ok (.iload_n 1, 1) := by decide +kernel
theorem d_Ou_nearestFigure_44 : decode prog_5_method_13_code 44 = .ok (.ireturn, 1) := by decide +kernel
theorem d_Ou_fewestTellings_0 : decode prog_5_method_14_code 0 = .ok (.iconst 1, 1) := by decide +kernel
theorem d_Ou_fewestTellings_1 : decode prog_5_method_14_code 1 = .ok (.iload_n 1, 1) := by decide +kernel
theorem d_Ou_fewestTellings_2 : decode prog_5_method_14_code 2 = .ok (.ishl, 1) := by decide +kernel
theorem d_Ou_fewestTellings_3 : decode prog_5_method_14_code 3 = .ok (.istore 4, 2) := by decide +kernel
theorem d_Ou_fewestTellings_5 : decode prog_5_method_14_code 5 = .ok (.iconst 0, 1) := by decide +kernel
theorem d_Ou_fewestTellings_6 : decode prog_5_method_14_code 6 = .ok (.istore 5, 2) := by decide +kernel
theorem d_Ou_fewestTellings_8 : decode prog_5_method_14_code 8 = .ok (.iload 5, 2) := by decide +kernel
theorem d_Ou_fewestTellings_10 : decode prog_5_method_14_code 10 = .ok (.aload_n 0, 1) := by decide +kernel
theorem d_Ou_fewestTellings_11 : decode prog_5_method_14_code 11 = .ok (.getfield 31, 3) := by decide +kernel
theorem d_Ou_fewestTellings_14 : decode prog_5_method_14_code 14 = .ok (.iconst 1, 1) := by decide +kernel
theorem d_Ou_fewestTellings_15 : decode prog_5_method_14_code 15 = .ok (.iadd, 1) := by decide +kernel
theorem d_Ou_fewestTellings_16 : decode prog_5_method_14_code 16 = .ok (.if_icmp .gt 34, 3) := by decide +kernel
theorem d_Ou_fewestTellings_19 : decode prog_5_method_14_code 19 = .ok (.iload 4, 2) := by decide +kernel
theorem d_Ou_fewestTellings_21 : decode prog_5_method_14_code 21 = .ok (.iload_n 2, 1) := by decide +kernel
theorem d_Ou_fewestTellings_22 : decode prog_5_method_14_code 22 = .ok (.ishr, 1) := by decide +kernel
theorem d_Ou_fewestTellings_23 : decode prog_5_method_14_code 23 = .ok (.iconst 1, 1) := by decide +kernel
theorem d_Ou_fewestTellings_24 : decode prog_5_method_14_code 24 = .ok (.iand, 1) := by decide +kernel
theorem d_Ou_fewestTellings_25 : decode prog_5_method_14_code 25 = .ok (.iconst 1, 1) := by decide +kernel
theorem d_Ou_fewestTellings_26 : decode prog_5_method_14_code 26 = .ok (.if_icmp .ne 6, 3) := by decide +kernel
theorem d_Ou_fewestTellings_29 : decode prog_5_method_14_code 29 = .ok (.iload 5, 2) := by decide +kernel
theorem d_Ou_fewestTellings_31 : decode prog_5_method_14_code 31 = .ok (.ireturn, 1) := by decide +kernel
theorem d_Ou_fewestTellings_32 : decode prog_5_method_14_code 32 = .ok (.iload 4, 2) := by decide +kernel
theorem d_Ou_fewestTellings_34 : decode prog_5_method_14_code 34 = .ok (.aload_n 0, 1) := by decide +kernel
theorem d_Ou_fewestTellings_35 : decode prog_5_method_14_code 35 = .ok (.iload 4, 2) := by decide +kernel
theorem d_Ou_fewestTellings_37 : decode prog_5_method_14_code 37 = .ok (.iload_n 3, 1) := by decide +kernel
theorem d_Ou_fewestTellings_38 : decode prog_5_method_14_code 38 = .ok (.invokevirtual 56, 3) := by decide +kernel
theorem d_Ou_fewestTellings_41 : decode prog_5_method_14_code 41 = .ok (.ior, 1) := by decide +kernel
theorem d_Ou_fewestTellings_42 : decode prog_5_method_14_code 42 = .ok (.istore 4, 2) := by decide +kernel
theorem d_Ou_fewestTellings_44 : decode prog_5_method_14_code 44 = .ok (.iinc 5 1, 3) := by decide +kernel
theorem d_Ou_fewestTellings_47 : decode prog_5_method_14_code 47 = .ok (.goto (-39), 3) := by decide +kernel
theorem d_Ou_fewestTellings_50 : decode prog_5_method_14_code 50 = .ok (.iconst (-1), 1) := by decide +kernel
theorem d_Ou_fewestTellings_51 : decode prog_5_method_14_code 51 = .ok (.ireturn, 1) := by decide +kernel
theorem d_Ou_comeFrom_0 : decode prog_5_method_15_code 0 = .ok (.iconst 0, 1) := by decide +kernel
theorem d_Ou_comeFrom_1 : decode prog_5_method_15_code 1 = .ok (.istore_n 3, 1) := by decide +kernel
theorem d_Ou_comeFrom_2 : decode prog_5_method_15_code 2 = .ok (.iconst 0, 1) := by decide +kernel
theorem d_Ou_comeFrom_3 : decode prog_5_method_15_code 3 = .ok (.istore 4, 2) := by decide +kernel
theorem d_Ou_comeFrom_5 : decode prog_5_method_15_code 5 = .ok (.iload 4, 2) := by decide +kernel
theorem d_Ou_comeFrom_7 : decode prog_5_method_15_code 7 = .ok (.aload_n 0, 1) := by decide +kernel
theorem d_Ou_comeFrom_8 : decode prog_5_method_15_code 8 = .ok (.getfield 31, 3) := by decide +kernel
theorem d_Ou_comeFrom_11 : decode prog_5_method_15_code 11 = .ok (.if_icmp .gt 62, 3) := by decide +kernel
theorem d_Ou_comeFrom_14 : decode prog_5_method_15_code 14 = .ok (.iload_n 1, 1) := by decide +kernel
theorem d_Ou_comeFrom_15 : decode prog_5_method_15_code 15 = .ok (.iload 4, 2) := by decide +kernel
theorem d_Ou_comeFrom_17 : decode prog_5_method_15_code 17 = .ok (.ishr, 1) := by decide +kernel
theorem d_Ou_comeFrom_18 : decode prog_5_method_15_code 18 = .ok (.iconst 1, 1) := by decide +kernel
theorem d_Ou_comeFrom_19 : decode prog_5_method_15_code 19 = .ok (.iand, 1) := by decide +kernel
theorem d_Ou_comeFrom_20 : decode prog_5_method_15_code 20 = .ok (.iconst 1, 1) := by decide +kernel
theorem d_Ou_comeFrom_21 : decode prog_5_method_15_code 21 = .ok (.if_icmp .ne 46, 3) := by decide +kernel
theorem d_Ou_comeFrom_24 : decode prog_5_method_15_code 24 = .ok (.iconst 0, 1) := by decide +kernel
theorem d_Ou_comeFrom_25 : decode prog_5_method_15_code 25 = .ok (.iload 4, 2) := by decide +kernel
theorem d_Ou_comeFrom_27 : decode prog_5_method_15_code 27 = .ok (.iload_n 2, 1) := by decide +kernel
theorem d_Ou_comeFrom_28 : decode prog_5_method_15_code 28 = .ok (.isub, 1) := by decide +kernel
theorem d_Ou_comeFrom_29 : decode prog_5_method_15_code 29 = .ok (.invokestatic 59, 3) := by decide +kernel
theorem d_Ou_comeFrom_32 : decode prog_5_method_15_code 32 = .ok (.istore 5, 2) := by decide +kernel
theorem d_Ou_comeFrom_34 : decode prog_5_method_15_code 34 = .ok (.iload 5, 2) := by decide +kernel
theorem d_Ou_comeFrom_36 : decode prog_5_method_15_code 36 = .ok (.aload_n 0, 1) := by decide +kernel
theorem d_Ou_comeFrom_37 : decode prog_5_method_15_code 37 = .ok (.getfield 31, 3) := by decide +kernel
theorem d_Ou_comeFrom_40 : decode prog_5_method_15_code 40 = .ok (.iload 4, 2) := by decide +kernel
theorem d_Ou_comeFrom_42 : decode prog_5_method_15_code 42 = .ok (.iload_n 2, 1) := by decide +kernel
theorem d_Ou_comeFrom_43 : decode prog_5_method_15_code 43 = .ok (.iadd, 1) := by decide +kernel
theorem d_Ou_comeFrom_44 : decode prog_5_method_15_code 44 = .ok (.invokestatic 44, 3) := by decide +kernel
theorem d_Ou_comeFrom_47 : decode prog_5_method_15_code 47 = .ok (.if_icmp .gt 20, 3) := by decide +kernel
theorem d_Ou_comeFrom_50 : decode prog_5_method_15_code 50 = .ok (.iload_n 3, 1) := by decide +kernel
theorem d_Ou_comeFrom_51 : decode prog_5_method_15_code 51 = .ok (.iconst 1, 1) := by decide +kernel
theorem d_Ou_comeFrom_52 : decode prog_5_method_15_code 52 = .ok (.aload_n 0, 1) := by decide +kernel
theorem d_Ou_comeFrom_53 : decode prog_5_method_15_code 53 = .ok (.iload 5, 2) := by decide +kernel
theorem d_Ou_comeFrom_55 : decode prog_5_method_15_code 55 = .ok (.invokevirtual 35, 3) := by decide +kernel
theorem d_Ou_comeFrom_58 : decode prog_5_method_15_code 58 = .ok (.ishl, 1) := by decide +kernel
theorem d_Ou_comeFrom_59 : decode prog_5_method_15_code 59 = .ok (.ior, 1) := by decide +kernel
theorem d_Ou_comeFrom_60 : decode prog_5_method_15_code 60 = .ok (.istore_n 3, 1) := by decide +kernel
theorem d_Ou_comeFrom_61 : decode prog_5_method_15_code 61 = .ok (.iinc 5 1, 3) := by decide +kernel
theorem d_Ou_comeFrom_64 : decode prog_5_method_15_code 64 = .ok (.goto (-30), 3) := by decide +kernel
theorem d_Ou_comeFrom_67 : decode prog_5_method_15_code 67 = .ok (.iinc 4 1, 3) := by decide +kernel
theorem d_Ou_comeFrom_70 : decode prog_5_method_15_code 70 = .ok (.goto (-65), 3) := by decide +kernel
theorem d_Ou_comeFrom_73 : decode prog_5_method_15_code 73 = .ok (.iload_n 3, 1) := by decide +kernel
theorem d_Ou_comeFrom_74 : decode prog_5_method_15_code 74 = .ok (.ireturn, 1) := by decide +kernel
theorem d_Ou_winners_0 : decode prog_5_method_16_code 0 = .ok (.iload_n 1, 1) := by decide +kernel
theorem d_Ou_winners_1 : decode prog_5_method_16_code 1 = .ok (.aload_n 0, 1) := by decide +kernel
theorem d_Ou_winners_2 : decode prog_5_method_16_code 2 = .ok (.iload_n 1, 1) := by decide +kernel
theorem d_Ou_winners_3 : decode prog_5_method_16_code 3 = .ok (.invokevirtual 35, 3) := by decide +kernel
theorem d_Ou_winners_6 : decode prog_5_method_16_code 6 = .ok (.isub, 1) := by decide +kernel
theorem d_Ou_winners_7 : decode prog_5_method_16_code 7 = .ok (.istore_n 2, 1) := by decide +kernel
theorem d_Ou_winners_8 : decode prog_5_method_16_code 8 = .ok (.iload_n 2, 1) := by decide +kernel
theorem d_Ou_winners_9 : decode prog_5_method_16_code 9 = .ok (.ifCond .ge 5, 3) := by decide +kernel
theorem d_Ou_winners_12 : decode prog_5_method_16_code 12 = .ok (.iconst (-1), 1) := by decide +kernel
theorem d_Ou_winners_13 : decode prog_5_method_16_code 13 = .ok (.ireturn, 1) := by decide +kernel
theorem d_Ou_winners_14 : decode prog_5_method_16_code 14 = .ok (.iconst 0, 1) := by decide +kernel
theorem d_Ou_winners_15 : decode prog_5_method_16_code 15 = .ok (.istore_n 3, 1) := by decide +kernel
theorem d_Ou_winners_16 : decode prog_5_method_16_code 16 = .ok (.iconst 0, 1) := by decide +kernel
theorem d_Ou_winners_17 : decode prog_5_method_16_code 17 = .ok (.istore 4, 2) := by decide +kernel
theorem d_Ou_winners_19 : decode prog_5_method_16_code 19 = .ok (.iload 4, 2) := by decide +kernel
theorem d_Ou_winners_21 : decode prog_5_method_16_code 21 = .ok (.aload_n 0, 1) := by decide +kernel
theorem d_Ou_winners_22 : decode prog_5_method_16_code 22 = .ok (.getfield 31, 3) := by decide +kernel
theorem d_Ou_winners_25 : decode prog_5_method_16_code 25 = .ok (.if_icmp .ge 36, 3) := by decide +kernel
theorem d_Ou_winners_28 : decode prog_5_method_16_code 28 = .ok (.iload_n 2, 1) := by decide +kernel
theorem d_Ou_winners_29 : decode prog_5_method_16_code 29 = .ok (.ifCond .le 32, 3) := by decide +kernel
theorem d_Ou_winners_32 : decode prog_5_method_16_code 32 = .ok (.aload_n 0, 1) := by decide +kernel
theorem d_Ou_winners_33 : decode prog_5_method_16_code 33 = .ok (.iload_n 1, 1) := by decide +kernel
theorem d_Ou_winners_34 : decode prog_5_method_16_code 34 = .ok (.invokevirtual 62, 3) := by decide +kernel
theorem d_Ou_winners_37 : decode prog_5_method_16_code 37 = .ok (.iload 4, 2) := by decide +kernel
theorem d_Ou_winners_39 : decode prog_5_method_16_code 39 = .ok (.ishr, 1) := by decide +kernel
theorem d_Ou_winners_40 : decode prog_5_method_16_code 40 = .ok (.iconst 1, 1) := by decide +kernel
theorem d_Ou_winners_41 : decode prog_5_method_16_code 41 = .ok (.iand, 1) := by decide +kernel
theorem d_Ou_winners_42 : decode prog_5_method_16_code 42 = .ok (.ifCond .ne 13, 3) := by decide +kernel
theorem d_Ou_winners_45 : decode prog_5_method_16_code 45 = .ok (.iload_n 3, 1) := by decide +kernel
theorem d_Ou_winners_46 : decode prog_5_method_16_code 46 = .ok (.iconst 1, 1) := by decide +kernel
theorem d_Ou_winners_47 : decode prog_5_method_16_code 47 = .ok (.iload 4, 2) := by decide +kernel
theorem d_Ou_winners_49 : decode prog_5_method_16_code 49 = .ok (.ishl, 1) := by decide +kernel
theorem d_Ou_winners_50 : decode prog_5_method_16_code 50 = .ok (.ior, 1) := by decide +kernel
theorem d_Ou_winners_51 : decode prog_5_method_16_code 51 = .ok (.istore_n 3, 1) := by decide +kernel
theorem d_Ou_winners_52 : decode prog_5_method_16_code 52 = .ok (.iinc 2 (-1), 3) := by decide +kernel
theorem d_Ou_winners_55 : decode prog_5_method_16_code 55 = .ok (.iinc 4 1, 3) := by decide +kernel
theorem d_Ou_winners_58 : decode prog_5_method_16_code 58 = .ok (.goto (-39), 3) := by decide +kernel
theorem d_Ou_winners_61 : decode prog_5_method_16_code 61 = .ok (.iload_n 3, 1) := by decide +kernel
theorem d_Ou_winners_62 : decode prog_5_method_16_code 62 = .ok (.ireturn, 1) := by decide +kernel
theorem d_Ou_yesTold_0 : decode prog_5_method_2_code 0 = .ok (.aload_n 0, 1) := by decide +kernel
theorem d_Ou_yesTold_1 : decode prog_5_method_2_code 1 = .ok (.getfield 9, 3) := by decide +kernel
theorem d_Ou_yesTold_4 : decode prog_5_method_2_code 4 = .ok (.iload_n 1, 1) := by decide +kernel
theorem d_Ou_yesTold_5 : decode prog_5_method_2_code 5 = .ok (.invokestatic 21, 3) := by decide +kernel
theorem d_Ou_yesTold_8 : decode prog_5_method_2_code 8 = .ok (.ireturn, 1) := by decide +kernel
theorem d_Ou_yesOfTwo_0 : decode prog_5_method_17_code 0 = .ok (.aload_n 0, 1) := by decide +kernel
theorem d_Ou_yesOfTwo_1 : decode prog_5_method_17_code 1 = .ok (.iload_n 1, 1) := by decide +kernel
theorem d_Ou_yesOfTwo_2 : decode prog_5_method_17_code 2 = .ok (.invokevirtual 62, 3) := by decide +kernel
theorem d_Ou_yesOfTwo_5 : decode prog_5_method_17_code 5 = .ok (.aload_n 0, 1) := by decide +kernel
theorem d_Ou_yesOfTwo_6 : decode prog_5_method_17_code 6 = .ok (.iload_n 2, 1) := by decide +kernel
theorem d_Ou_yesOfTwo_7 : decode prog_5_method_17_code 7 = .ok (.invokevirtual 62, 3) := by decide +kernel
theorem d_Ou_yesOfTwo_10 : decode prog_5_method_17_code 10 = .ok (.ior, 1) := by decide +kernel
theorem d_Ou_yesOfTwo_11 : decode prog_5_method_17_code 11 = .ok (.istore 4, 2) := by decide +kernel
theorem d_Ou_yesOfTwo_13 : decode prog_5_method_17_code 13 = .ok (.aload_n 0, 1) := by decide +kernel
theorem d_Ou_yesOfTwo_14 : decode prog_5_method_17_code 14 = .ok (.iload_n 1, 1) := by decide +kernel
theorem d_Ou_yesOfTwo_15 : decode prog_5_method_17_code 15 = .ok (.invokevirtual 62, 3) := by decide +kernel
theorem d_Ou_yesOfTwo_18 : decode prog_5_method_17_code 18 = .ok (.aload_n 0, 1) := by decide +kernel
theorem d_Ou_yesOfTwo_19 : decode prog_5_method_17_code 19 = .ok (.iload_n 2, 1) := by decide +kernel
theorem d_Ou_yesOfTwo_20 : decode prog_5_method_17_code 20 = .ok (.invokevirtual 62, 3) := by decide +kernel
theorem d_Ou_yesOfTwo_23 : decode prog_5_method_17_code 23 = .ok (.iand, 1) := by decide +kernel
theorem d_Ou_yesOfTwo_24 : decode prog_5_method_17_code 24 = .ok (.istore 5, 2) := by decide +kernel
theorem d_Ou_yesOfTwo_26 : decode prog_5_method_17_code 26 = .ok (.iload_n 3, 1) := by decide +kernel
theorem d_Ou_yesOfTwo_27 : decode prog_5_method_17_code 27 = .ok (.ifCond .eq 8, 3) := by decide +kernel
theorem d_Ou_yesOfTwo_30 : decode prog_5_method_17_code 30 = .ok (.iload 4, 2) := by decide +kernel
theorem d_Ou_yesOfTwo_32 : decode prog_5_method_17_code 32 = .ok (.goto 5, 3) := by decide +kernel
theorem d_Ou_yesOfTwo_35 : decode prog_5_method_17_code 35 = .ok (.iload 5, 2) := by decide +kernel
theorem d_Ou_yesOfTwo_37 : decode prog_5_method_17_code 37 = .ok (.invokestatic 25, 3) := by decide +kernel
theorem d_Ou_yesOfTwo_40 : decode prog_5_method_17_code 40 = .ok (.ireturn, 1) := by decide +kernel
theorem d_Ou_trueSplits_0 : decode prog_5_method_19_code 0 = .ok (.iconst 0, 1) := by decide +kernel
theorem d_Ou_trueSplits_1 : decode prog_5_method_19_code 1 = .ok (.istore_n 3, 1) := by decide +kernel
theorem d_Ou_trueSplits_2 : decode prog_5_method_19_code 2 = .ok (.iconst 0, 1) := by decide +kernel
theorem d_Ou_trueSplits_3 : decode prog_5_method_19_code 3 = .ok (.istore 4, 2) := by decide +kernel
theorem d_Ou_trueSplits_5 : decode prog_5_method_19_code 5 = .ok (.iload 4, 2) := by decide +kernel
theorem d_Ou_trueSplits_7 : decode prog_5_method_19_code 7 = .ok (.iconst 1, 1) := by decide +kernel
theorem d_Ou_trueSplits_8 : decode prog_5_method_19_code 8 = .ok (.aload_n 0, 1) := by decide +kernel
theorem d_Ou_trueSplits_9 : decode prog_5_method_19_code 9 = .ok (.getfield 31, 3) := by decide +kernel
theorem d_Ou_trueSplits_12 : decode prog_5_method_19_code 12 = .ok (.ishl, 1) := by decide +kernel
theorem d_Ou_trueSplits_13 : decode prog_5_method_19_code 13 = .ok (.if_icmp .ge 23, 3) := by decide +kernel
theorem d_Ou_trueSplits_16 : decode prog_5_method_19_code 16 = .ok (.aload_n 0, 1) := by decide +kernel
theorem d_Ou_trueSplits_17 : decode prog_5_method_19_code 17 = .ok (.iload 4, 2) := by decide +kernel
theorem d_Ou_trueSplits_19 : decode prog_5_method_19_code 19 = .ok (.iload_n 1, 1) := by decide +kernel
theorem d_Ou_trueSplits_20 : decode prog_5_method_19_code 20 = .ok (.iload_n 2, 1) := by decide +kernel
theorem d_Ou_trueSplits_21 : decode prog_5_method_19_code 21 = .ok (.invokevirtual 65, 3) := by decide +kernel
theorem d_Ou_trueSplits_24 : decode prog_5_method_19_code 24 = .ok (.ifCond .eq 6, 3) := by decide +kernel
theorem d_Ou_trueSplits_27 : decode prog_5_method_19_code 27 = .ok (.iinc 3 1, 3) := by decide +kernel
theorem d_Ou_trueSplits_30 : decode prog_5_method_19_code 30 = .ok (.iinc 4 1, 3) := by decide +kernel
theorem d_Ou_trueSplits_33 : decode prog_5_method_19_code 33 = .ok (.goto (-28), 3) := by decide +kernel
theorem d_Ou_trueSplits_36 : decode prog_5_method_19_code 36 = .ok (.iload_n 3, 1) := by decide +kernel
theorem d_Ou_trueSplits_37 : decode prog_5_method_19_code 37 = .ok (.ireturn, 1) := by decide +kernel
theorem d_Ou_isTrueSplit_0 : decode prog_5_method_18_code 0 = .ok (.aload_n 0, 1) := by decide +kernel
theorem d_Ou_isTrueSplit_1 : decode prog_5_method_18_code 1 = .ok (.iload_n 2, 1) := by decide +kernel
theorem d_Ou_isTrueSplit_2 : decode prog_5_method_18_code 2 = .ok (.invokevirtual 62, 3) := by decide +kernel
theorem d_Ou_isTrueSplit_5 : decode prog_5_method_18_code 5 = .ok (.iload_n 1, 1) := by decide +kernel
theorem d_Ou_isTrueSplit_6 : decode prog_5_method_18_code 6 = .ok (.iand, 1) := by decide +kernel
theorem d_Ou_isTrueSplit_7 : decode prog_5_method_18_code 7 = .ok (.invokestatic 25, 3) := by decide +kernel
theorem d_Ou_isTrueSplit_10 : decode prog_5_method_18_code 10 = .ok (.iload_n 2, 1) := by decide +kernel
theorem d_Ou_isTrueSplit_11 : decode prog_5_method_18_code 11 = .ok (.if_icmp .ne 23, 3) := by decide +kernel
theorem d_Ou_isTrueSplit_14 : decode prog_5_method_18_code 14 = .ok (.aload_n 0, 1) := by decide +kernel
theorem d_Ou_isTrueSplit_15 : decode prog_5_method_18_code 15 = .ok (.iload_n 3, 1) := by decide +kernel
theorem d_Ou_isTrueSplit_16 : decode prog_5_method_18_code 16 = .ok (.invokevirtual 62, 3) := by decide +kernel
theorem d_Ou_isTrueSplit_19 : decode prog_5_method_18_code 19 = .ok (.iload_n 1, 1) := by decide +kernel
theorem d_Ou_isTrueSplit_20 : decode prog_5_method_18_code 20 = .ok (.iconst (-1), 1) := by decide +kernel
theorem d_Ou_isTrueSplit_21 : decode prog_5_method_18_code 21 = .ok (.ixor, 1) := by decide +kernel
theorem d_Ou_isTrueSplit_22 : decode prog_5_method_18_code 22 = .ok (.iand, 1) := by decide +kernel
theorem d_Ou_isTrueSplit_23 : decode prog_5_method_18_code 23 = .ok (.invokestatic 25, 3) := by decide +kernel
theorem d_Ou_isTrueSplit_26 : decode prog_5_method_18_code 26 = .ok (.iload_n 3, 1) := by decide +kernel
theorem d_Ou_isTrueSplit_27 : decode prog_5_method_18_code 27 = .ok (.if_icmp .ne 7, 3) := by decide +kernel
theorem d_Ou_isTrueSplit_30 : decode prog_5_method_18_code 30 = .ok (.iconst 1, 1) := by decide +kernel
theorem d_Ou_isTrueSplit_31 : decode prog_5_method_18_code 31 = .ok (.goto 4, 3) := by decide +kernel
theorem d_Ou_isTrueSplit_34 : decode prog_5_method_18_code 34 = .ok (.iconst 0, 1) := by decide +kernel
theorem d_Ou_isTrueSplit_35 : decode prog_5_method_18_code 35 = .ok (.ireturn, 1) := by decide +kernel
theorem d_Ou_lowestSplit_0 : decode prog_5_method_20_code 0 = .ok (.iconst 0, 1) := by decide +kernel
theorem d_Ou_lowestSplit_1 : decode prog_5_method_20_code 1 = .ok (.istore_n 3, 1) := by decide +kernel
theorem d_Ou_lowestSplit_2 : decode prog_5_method_20_code 2 = .ok (.iload_n 3, 1) := by decide +kernel
theorem d_Ou_lowestSplit_3 : decode prog_5_method_20_code 3 = .ok (.iconst 1, 1) := by decide +kernel
theorem d_Ou_lowestSplit_4 : decode prog_5_method_20_code 4 = .ok (.aload_n 0, 1) := by decide +kernel
theorem d_Ou_lowestSplit_5 : decode prog_5_method_20_code 5 = .ok (.getfield 31, 3) := by decide +kernel
theorem d_Ou_lowestSplit_8 : decode prog_5_method_20_code 8 = .ok (.ishl, 1) := by decide +kernel
theorem d_Ou_lowestSplit_9 : decode prog_5_method_20_code 9 = .ok (.if_icmp .ge 21, 3) := by decide +kernel
theorem d_Ou_lowestSplit_12 : decode prog_5_method_20_code 12 = .ok (.aload_n 0, 1) := by decide +kernel
theorem d_Ou_lowestSplit_13 : decode prog_5_method_20_code 13 = .ok (.iload_n 3, 1) := by decide +kernel
theorem d_Ou_lowestSplit_14 : decode prog_5_method_20_code 14 = .ok (.iload_n 1, 1) := by decide +kernel
theorem d_Ou_lowestSplit_15 : decode prog_5_method_20_code 15 = .ok (.iload_n 2, 1) := by decide +kernel
theorem d_Ou_lowestSplit_16 : decode prog_5_method_20_code 16 = .ok (.invokevirtual 65, 3) := by decide +kernel
theorem d_Ou_lowestSplit_19 : decode prog_5_method_20_code 19 = .ok (.ifCond .eq 5, 3) := by decide +kernel
theorem d_Ou_lowestSplit_22 : decode prog_5_method_20_code 22 = .ok (.iload_n 3, 1) := by decide +kernel
theorem d_Ou_lowestSplit_23 : decode prog_5_method_20_code 23 = .ok (.ireturn, 1) := by decide +kernel
theorem d_Ou_lowestSplit_24 : decode prog_5_method_20_code 24 = .ok (.iinc 3 1, 3) := by decide +kernel
theorem d_Ou_lowestSplit_27 : decode prog_5_method_20_code 27 = .ok (.goto (-25), 3) := by decide +kernel
theorem d_Ou_lowestSplit_30 : decode prog_5_method_20_code 30 = .ok (.iconst (-1), 1) := by decide +kernel
theorem d_Ou_lowestSplit_31 : decode prog_5_method_20_code 31 = .ok (.ireturn, 1) := by decide +kernel
theorem d_Ou_yesByAny_0 : decode prog_5_method_22_code 0 = .ok (.iconst 0, 1) := by decide +kernel
theorem d_Ou_yesByAny_1 : decode prog_5_method_22_code 1 = .ok (.istore_n 1, 1) := by decide +kernel
theorem d_Ou_yesByAny_2 : decode prog_5_method_22_code 2 = .ok (.iconst 0, 1) := by decide +kernel
theorem d_Ou_yesByAny_3 : decode prog_5_method_22_code 3 = .ok (.istore_n 2, 1) := by decide +kernel
theorem d_Ou_yesByAny_4 : decode prog_5_method_22_code 4 = .ok (.iload_n 2, 1) := by decide +kernel
theorem d_Ou_yesByAny_5 : decode prog_5_method_22_code 5 = .ok (.aload_n 0, 1) := by decide +kernel
theorem d_Ou_yesByAny_6 : decode prog_5_method_22_code 6 = .ok (.getfield 31, 3) := by decide +kernel
theorem d_Ou_yesByAny_9 : decode prog_5_method_22_code 9 = .ok (.if_icmp .gt 17, 3) := by decide +kernel
theorem d_Ou_yesByAny_12 : decode prog_5_method_22_code 12 = .ok (.iload_n 1, 1) := by decide +kernel
theorem d_Ou_yesByAny_13 : decode prog_5_method_22_code 13 = .ok (.aload_n 0, 1) := by decide +kernel
theorem d_Ou_yesByAny_14 : decode prog_5_method_22_code 14 = .ok (.iload_n 2, 1) := by decide +kernel
theorem d_Ou_yesByAny_15 : decode prog_5_method_22_code 15 = .ok (.invokevirtual 62, 3) := by decide +kernel
theorem d_Ou_yesByAny_18 : decode prog_5_method_22_code 18 = .ok (.ior, 1) := by decide +kernel
theorem d_Ou_yesByAny_19 : decode prog_5_method_22_code 19 = .ok (.istore_n 1, 1) := by decide +kernel
theorem d_Ou_yesByAny_20 : decode prog_5_method_22_code 20 = .ok (.iinc 2 1, 3) := by decide +kernel
theorem d_Ou_yesByAny_23 : decode prog_5_method_22_code 23 = .ok (.goto (-19), 3) := by decide +kernel
theorem d_Ou_yesByAny_26 : decode prog_5_method_22_code 26 = .ok (.iload_n 1, 1) := by decide +kernel
theorem d_Ou_yesByAny_27 : decode prog_5_method_22_code 27 = .ok (.ireturn, 1) := by decide +kernel
theorem d_Ou_yesByAll_0 : decode prog_5_method_21_code 0 = .ok (.aload_n 0, 1) := by decide +kernel
theorem d_Ou_yesByAll_1 : decode prog_5_method_21_code 1 = .ok (.iconst 0, 1) := by decide +kernel
theorem d_Ou_yesByAll_2 : decode prog_5_method_21_code 2 = .ok (.invokevirtual 62, 3) := by decide +kernel
theorem d_Ou_yesByAll_5 : decode prog_5_method_21_code 5 = .ok (.istore_n 1, 1) := by decide +kernel
theorem d_Ou_yesByAll_6 : decode prog_5_method_21_code 6 = .ok (.iconst 1, 1) := by decide +kernel
theorem d_Ou_yesByAll_7 : decode prog_5_method_21_code 7 = .ok (.istore_n 2, 1) := by decide +kernel
theorem d_Ou_yesByAll_8 : decode prog_5_method_21_code 8 = .ok (.iload_n 2, 1) := by decide +kernel
theorem d_Ou_yesByAll_9 : decode prog_5_method_21_code 9 = .ok (.aload_n 0, 1) := by decide +kernel
theorem d_Ou_yesByAll_10 : decode prog_5_method_21_code 10 = .ok (.getfield 31, 3) := by decide +kernel
theorem d_Ou_yesByAll_13 : decode prog_5_method_21_code 13 = .ok (.if_icmp .gt 17, 3) := by decide +kernel
theorem d_Ou_yesByAll_16 : decode prog_5_method_21_code 16 = .ok (.iload_n 1, 1) := by decide +kernel
theorem d_Ou_yesByAll_17 : decode prog_5_method_21_code 17 = .ok (.aload_n 0, 1) := by decide +kernel
theorem d_Ou_yesByAll_18 : decode prog_5_method_21_code 18 = .ok (.iload_n 2, 1) := by decide +kernel
theorem d_Ou_yesByAll_19 : decode prog_5_method_21_code 19 = .ok (.invokevirtual 62, 3) := by decide +kernel
theorem d_Ou_yesByAll_22 : decode prog_5_method_21_code 22 = .ok (.iand, 1) := by decide +kernel
theorem d_Ou_yesByAll_23 : decode prog_5_method_21_code 23 = .ok (.istore_n 1, 1) := by decide +kernel
theorem d_Ou_yesByAll_24 : decode prog_5_method_21_code 24 = .ok (.iinc 2 1, 3) := by decide +kernel
theorem d_Ou_yesByAll_27 : decode prog_5_method_21_code 27 = .ok (.goto (-19), 3) := by decide +kernel
theorem d_Ou_yesByAll_30 : decode prog_5_method_21_code 30 = .ok (.iload_n 1, 1) := by decide +kernel
theorem d_Ou_yesByAll_31 : decode prog_5_method_21_code 31 = .ok (.ireturn, 1) := by decide +kernel
theorem d_Ou_alikeFigures_0 : decode prog_5_method_23_code 0 = .ok (.iconst 0, 1) := by decide +kernel
theorem d_Ou_alikeFigures_1 : decode prog_5_method_23_code 1 = .ok (.istore_n 3, 1) := by decide +kernel
theorem d_Ou_alikeFigures_2 : decode prog_5_method_23_code 2 = .ok (.iconst 0, 1) := by decide +kernel
theorem d_Ou_alikeFigures_3 : decode prog_5_method_23_code 3 = .ok (.istore 4, 2) := by decide +kernel
theorem d_Ou_alikeFigures_5 : decode prog_5_method_23_code 5 = .ok (.iload 4, 2) := by decide +kernel
theorem d_Ou_alikeFigures_7 : decode prog_5_method_23_code 7 = .ok (.aload_n 0, 1) := by decide +kernel
theorem d_Ou_alikeFigures_8 : decode prog_5_method_23_code 8 = .ok (.getfield 31, 3) := by decide +kernel
theorem d_Ou_alikeFigures_11 : decode prog_5_method_23_code 11 = .ok (.if_icmp .gt 35, 3) := by decide +kernel
theorem d_Ou_alikeFigures_14 : decode prog_5_method_23_code 14 = .ok (.aload_n 0, 1) := by decide +kernel
theorem d_Ou_alikeFigures_15 : decode prog_5_method_23_code 15 = .ok (.iload 4, 2) := by decide +kernel
theorem d_Ou_alikeFigures_17 : decode prog_5_method_23_code 17 = .ok (.invokevirtual 62, 3) := by decide +kernel
theorem d_Ou_alikeFigures_20 : decode prog_5_method_23_code 20 = .ok (.iload_n 1, 1) := by decide +kernel
theorem d_Ou_alikeFigures_21 : decode prog_5_method_23_code 21 = .ok (.ishr, 1) := by decide +kernel
theorem d_Ou_alikeFigures_22 : decode prog_5_method_23_code 22 = .ok (.iconst 1, 1) := by decide +kernel
theorem d_Ou_alikeFigures_23 : decode prog_5_method_23_code 23 = .ok (.iand, 1) := by decide +kernel
theorem d_Ou_alikeFigures_24 : decode prog_5_method_23_code 24 = .ok (.aload_n 0, 1) := by decide +kernel
theorem d_Ou_alikeFigures_25 : decode prog_5_method_23_code 25 = .ok (.iload 4, 2) := by decide +kernel
theorem d_Ou_alikeFigures_27 : decode prog_5_method_23_code 27 = .ok (.invokevirtual 62, 3) := by decide +kernel
theorem d_Ou_alikeFigures_30 : decode prog_5_method_23_code 30 = .ok (.iload_n 2, 1) := by decide +kernel
theorem d_Ou_alikeFigures_31 : decode prog_5_method_23_code 31 = .ok (.ishr, 1) := by decide +kernel
theorem d_Ou_alikeFigures_32 : decode prog_5_method_23_code 32 = .ok (.iconst 1, 1) := by decide +kernel
theorem d_Ou_alikeFigures_33 : decode prog_5_method_23_code 33 = .ok (.iand, 1) := by decide +kernel
theorem d_Ou_alikeFigures_34 : decode prog_5_method_23_code 34 = .ok (.if_icmp .ne 6, 3) := by decide +kernel
theorem d_Ou_alikeFigures_37 : decode prog_5_method_23_code 37 = .ok (.iinc 3 1, 3) := by decide +kernel
theorem d_Ou_alikeFigures_40 : decode prog_5_method_23_code 40 = .ok (.iinc 4 1, 3) := by decide +kernel
theorem d_Ou_alikeFigures_43 : decode prog_5_method_23_code 43 = .ok (.goto (-38), 3) := by decide +kernel
theorem d_Ou_alikeFigures_46 : decode prog_5_method_23_code 46 = .ok (.iload_n 3, 1) := by decide +kernel
theorem d_Ou_alikeFigures_47 : decode prog_5_method_23_code 47 = .ok (.ireturn, 1) := by decide +kernel
theorem d_Ou_mostAlike_0 : decode prog_5_method_24_code 0 = .ok (.iconst (-1), 1) := by decide +kernel
theorem d_Ou_mostAlike_1 : decode prog_5_method_24_code 1 = .ok (.istore_n 2, 1) := by decide +kernel
theorem d_Ou_mostAlike_2 : decode prog_5_method_24_code 2 = .ok (.iconst (-1), 1) := by decide +kernel
theorem d_Ou_mostAlike_3 : decode prog_5_method_24_code 3 = .ok (.istore_n 3, 1) := by decide +kernel
theorem d_Ou_mostAlike_4 : decode prog_5_method_24_code 4 = .ok (.iconst (-1), 1) := by decide +kernel
theorem d_Ou_mostAlike_5 : decode prog_5_method_24_code 5 = .ok (.istore 4, 2) := by decide +kernel
theorem d_Ou_mostAlike_7 : decode prog_5_method_24_code 7 = .ok (.iconst 0, 1) := by decide +kernel
theorem d_Ou_mostAlike_8 : decode prog_5_method_24_code 8 = .ok (.istore 5, 2) := by decide +kernel
theorem d_Ou_mostAlike_10 : decode prog_5_method_24_code 10 = .ok (.iload 5, 2) := by decide +kernel
theorem d_Ou_mostAlike_12 : decode prog_5_method_24_code 12 = .ok (.aload_n 0, 1) := by decide +kernel
theorem d_Ou_mostAlike_13 : decode prog_5_method_24_code 13 = .ok (.getfield 31, 3) := by decide +kernel
theorem d_Ou_mostAlike_16 : decode prog_5_method_24_code 16 = .ok (.if_icmp .ge 56, 3) := by decide +kernel
theorem d_Ou_mostAlike_19 : decode prog_5_method_24_code 19 = .ok (.iload 5, 2) := by decide +kernel
theorem d_Ou_mostAlike_21 : decode prog_5_method_24_code 21 = .ok (.iconst 1, 1) := by decide +kernel
theorem d_Ou_mostAlike_22 : decode prog_5_method_24_code 22 = .ok (.iadd, 1) := by decide +kernel
theorem d_Ou_mostAlike_23 : decode prog_5_method_24_code 23 = .ok (.istore 6, 2) := by decide +kernel
theorem d_Ou_mostAlike_25 : decode prog_5_method_24_code 25 = .ok (.iload 6, 2) := by decide +kernel
theorem d_Ou_mostAlike_27 : decode prog_5_method_24_code 27 = .ok (.aload_n 0, 1) := by decide +kernel
theorem d_Ou_mostAlike_28 : decode prog_5_method_24_code 28 = .ok (.getfield 31, 3) := by decide +kernel
theorem d_Ou_mostAlike_31 : decode prog_5_method_24_code 31 = .ok (.if_icmp .ge 35, 3) := by decide +kernel
theorem d_Ou_mostAlike_34 : decode prog_5_method_24_code 34 = .ok (.aload_n 0, 1) := by decide +kernel
theorem d_Ou_mostAlike_35 : decode prog_5_method_24_code 35 = .ok (.iload 5, 2) := by decide +kernel
theorem d_Ou_mostAlike_37 : decode prog_5_method_24_code 37 = .ok (.iload 6, 2) := by decide +kernel
theorem d_Ou_mostAlike_39 : decode prog_5_method_24_code 39 = .ok (.invokevirtual 69, 3) := by decide +kernel
theorem d_Ou_mostAlike_42 : decode prog_5_method_24_code 42 = .ok (.istore 7, 2) := by decide +kernel
theorem d_Ou_mostAlike_44 : decode prog_5_method_24_code 44 = .ok (.iload 7, 2) := by decide +kernel
theorem d_Ou_mostAlike_46 : decode prog_5_method_24_code 46 = .ok (.iload_n 2, 1) := by decide +kernel
theorem d_Ou_mostAlike_47 : decode prog_5_method_24_code 47 = .ok (.if_icmp .le 13, 3) := by decide +kernel
theorem d_Ou_mostAlike_50 : decode prog_5_method_24_code 50 = .ok (.iload 7, 2) := by decide +kernel
theorem d_Ou_mostAlike_52 : decode prog_5_method_24_code 52 = .ok (.istore_n 2, 1) := by decide +kernel
theorem d_Ou_mostAlike_53 : decode prog_5_method_24_code 53 = .ok (.iload 5, 2) := by decide +kernel
theorem d_Ou_mostAlike_55 : decode prog_5_method_24_code 55 = .ok (.istore_n 3, 1) := by decide +kernel
theorem d_Ou_mostAlike_56 : decode prog_5_method_24_code 56 = .ok (.iload 6, 2) := by decide +kernel
theorem d_Ou_mostAlike_58 : decode prog_5_method_24_code 58 = .ok (.istore 4, 2) := by decide +kernel
theorem d_Ou_mostAlike_60 : decode prog_5_method_24_code 60 = .ok (.iinc 6 1, 3) := by decide +kernel
theorem d_Ou_mostAlike_63 : decode prog_5_method_24_code 63 = .ok (.goto (-38), 3) := by decide +kernel
theorem d_Ou_mostAlike_66 : decode prog_5_method_24_code 66 = .ok (.iinc 5 1, 3) := by decide +kernel
theorem d_Ou_mostAlike_69 : decode prog_5_method_24_code 69 = .ok (.goto (-59), 3) := by decide +kernel
theorem d_Ou_mostAlike_72 : decode prog_5_method_24_code 72 = .ok (.iload_n 1, 1) := by decide +kernel
theorem d_Ou_mostAlike_73 : decode prog_5_method_24_code 73 = .ok (.ifCond .eq 8, 3) := by decide +kernel
theorem d_Ou_mostAlike_76 : decode prog_5_method_24_code 76 = .ok (.iload 4, 2) := by decide +kernel
theorem d_Ou_mostAlike_78 : decode prog_5_method_24_code 78 = .ok (.goto 4, 3) := by decide +kernel
theorem d_Ou_mostAlike_81 : decode prog_5_method_24_code 81 = .ok (.iload_n 3, 1) := by decide +kernel
theorem d_Ou_mostAlike_82 : decode prog_5_method_24_code 82 = .ok (.ireturn, 1) := by decide +kernel
theorem d_JA_fill_AJJ_0 : decode prog_21_method_101_code 0 = .ok (.iconst 0, 1) := by decide +kernel
theorem d_JA_fill_AJJ_1 : decode prog_21_method_101_code 1 = .ok (.istore_n 3, 1) := by decide +kernel
theorem d_JA_fill_AJJ_2 : decode prog_21_method_101_code 2 = .ok (.aload_n 0, 1) := by decide +kernel
theorem d_JA_fill_AJJ_3 : decode prog_21_method_101_code 3 = .ok (.arraylength, 1) := by decide +kernel
theorem d_JA_fill_AJJ_4 : decode prog_21_method_101_code 4 = .ok (.istore 4, 2) := by decide +kernel
theorem d_JA_fill_AJJ_6 : decode prog_21_method_101_code 6 = .ok (.iload_n 3, 1) := by decide +kernel
theorem d_JA_fill_AJJ_7 : decode prog_21_method_101_code 7 = .ok (.iload 4, 2) := by decide +kernel
theorem d_JA_fill_AJJ_9 : decode prog_21_method_101_code 9 = .ok (.if_icmp .ge 13, 3) := by decide +kernel
theorem d_JA_fill_AJJ_12 : decode prog_21_method_101_code 12 = .ok (.aload_n 0, 1) := by decide +kernel
theorem d_JA_fill_AJJ_13 : decode prog_21_method_101_code 13 = .ok (.iload_n 3, 1) := by decide +kernel
theorem d_JA_fill_AJJ_14 : decode prog_21_method_101_code 14 = .ok (.lload_n 1, 1) := by decide +kernel
theorem d_JA_fill_AJJ_15 : decode prog_21_method_101_code 15 = .ok (.lastore, 1) := by decide +kernel
theorem d_JA_fill_AJJ_16 : decode prog_21_method_101_code 16 = .ok (.iinc 3 1, 3) := by decide +kernel
theorem d_JA_fill_AJJ_19 : decode prog_21_method_101_code 19 = .ok (.goto (-13), 3) := by decide +kernel
theorem d_JA_fill_AJJ_22 : decode prog_21_method_101_code 22 = .ok (.return_, 1) := by decide +kernel
theorem d_Cr_heardBy_0 : decode prog_3_method_18_code 0 = .ok (.aload_n 0, 1) := by decide +kernel
theorem d_Cr_heardBy_1 : decode prog_3_method_18_code 1 = .ok (.getfield 25, 3) := by decide +kernel
theorem d_Cr_heardBy_4 : decode prog_3_method_18_code 4 = .ok (.iload_n 1, 1) := by decide +kernel
theorem d_Cr_heardBy_5 : decode prog_3_method_18_code 5 = .ok (.invokestatic 107, 3) := by decide +kernel
theorem d_Cr_heardBy_8 : decode prog_3_method_18_code 8 = .ok (.istore_n 2, 1) := by decide +kernel
theorem d_Cr_heardBy_9 : decode prog_3_method_18_code 9 = .ok (.iconst 0, 1) := by decide +kernel
theorem d_Cr_heardBy_10 : decode prog_3_method_18_code 10 = .ok (.istore_n 3, 1) := by decide +kernel
theorem d_Cr_heardBy_11 : decode prog_3_method_18_code 11 = .ok (.iload_n 3, 1) := by decide +kernel
theorem d_Cr_heardBy_12 : decode prog_3_method_18_code 12 = .ok (.aload_n 0, 1) := by decide +kernel
theorem d_Cr_heardBy_13 : decode prog_3_method_18_code 13 = .ok (.getfield 12, 3) := by decide +kernel
theorem d_Cr_heardBy_16 : decode prog_3_method_18_code 16 = .ok (.getfield 93, 3) := by decide +kernel
theorem d_Cr_heardBy_19 : decode prog_3_method_18_code 19 = .ok (.if_icmp .ge 52, 3) := by decide +kernel
theorem d_Cr_heardBy_22 : decode prog_3_method_18_code 22 = .ok (.iconst 0, 1) := by decide +kernel
theorem d_Cr_heardBy_23 : decode prog_3_method_18_code 23 = .ok (.istore 4, 2) := by decide +kernel
theorem d_Cr_heardBy_25 : decode prog_3_method_18_code 25 = .ok (.iload 4, 2) := by decide +kernel
theorem d_Cr_heardBy_27 : decode prog_3_method_18_code 27 = .ok (.aload_n 0, 1) := by decide +kernel
theorem d_Cr_heardBy_28 : decode prog_3_method_18_code 28 = .ok (.getfield 12, 3) := by decide +kernel
theorem d_Cr_heardBy_31 : decode prog_3_method_18_code 31 = .ok (.getfield 93, 3) := by decide +kernel
theorem d_Cr_heardBy_34 : decode prog_3_method_18_code 34 = .ok (.if_icmp .ge 31, 3) := by decide +kernel
theorem d_Cr_heardBy_37 : decode prog_3_method_18_code 37 = .ok (.iload_n 2, 1) := by decide +kernel
theorem d_Cr_heardBy_38 : decode prog_3_method_18_code 38 = .ok (.iload 4, 2) := by decide +kernel
theorem d_Cr_heardBy_40 : decode prog_3_method_18_code 40 = .ok (.ishr, 1) := by decide +kernel
theorem d_Cr_heardBy_41 : decode prog_3_method_18_code 41 = .ok (.iconst 1, 1) := by decide +kernel
theorem d_Cr_heardBy_42 : decode prog_3_method_18_code 42 = .ok (.iand, 1) := by decide +kernel
theorem d_Cr_heardBy_43 : decode prog_3_method_18_code 43 = .ok (.iconst 1, 1) := by decide +kernel
theorem d_Cr_heardBy_44 : decode prog_3_method_18_code 44 = .ok (.if_icmp .ne 15, 3) := by decide +kernel
theorem d_Cr_heardBy_47 : decode prog_3_method_18_code 47 = .ok (.iload_n 2, 1) := by decide +kernel
theorem d_Cr_heardBy_48 : decode prog_3_method_18_code 48 = .ok (.aload_n 0, 1) := by decide +kernel
theorem d_Cr_heardBy_49 : decode prog_3_method_18_code 49 = .ok (.getfield 25, 3) := by decide +kernel
theorem d_Cr_heardBy_52 : decode prog_3_method_18_code 52 = .ok (.iload 4, 2) := by decide +kernel
theorem d_Cr_heardBy_54 : decode prog_3_method_18_code 54 = .ok (.invokestatic 107, 3) := by decide +kernel
theorem d_Cr_heardBy_57 : decode prog_3_method_18_code 57 = .ok (.ior, 1) := by decide +kernel
theorem d_Cr_heardBy_58 : decode prog_3_method_18_code 58 = .ok (.istore_n 2, 1) := by decide +kernel
theorem d_Cr_heardBy_59 : decode prog_3_method_18_code 59 = .ok (.iinc 4 1, 3) := by decide +kernel
theorem d_Cr_heardBy_62 : decode prog_3_method_18_code 62 = .ok (.goto (-37), 3) := by decide +kernel
theorem d_Cr_heardBy_65 : decode prog_3_method_18_code 65 = .ok (.iinc 3 1, 3) := by decide +kernel
theorem d_Cr_heardBy_68 : decode prog_3_method_18_code 68 = .ok (.goto (-57), 3) := by decide +kernel
theorem d_Cr_heardBy_71 : decode prog_3_method_18_code 71 = .ok (.iload_n 2, 1) := by decide +kernel
theorem d_Cr_heardBy_72 : decode prog_3_method_18_code 72 = .ok (.ireturn, 1) := by decide +kernel
theorem d_Cr_circleCount_0 : decode prog_3_method_19_code 0 = .ok (.iconst 0, 1) := by decide +kernel
theorem d_Cr_circleCount_1 : decode prog_3_method_19_code 1 = .ok (.istore_n 1, 1) := by decide +kernel
theorem d_Cr_circleCount_2 : decode prog_3_method_19_code 2 = .ok (.iconst 0, 1) := by decide +kernel
theorem d_Cr_circleCount_3 : decode prog_3_method_19_code 3 = .ok (.istore_n 2, 1) := by decide +kernel
theorem d_Cr_circleCount_4 : decode prog_3_method_19_code 4 = .ok (.iload_n 2, 1) := by decide +kernel
theorem d_Cr_circleCount_5 : decode prog_3_method_19_code 5 = .ok (.aload_n 0, 1) := by decide +kernel
theorem d_Cr_circleCount_6 : decode prog_3_method_19_code 6 = .ok (.getfield 12, 3) := by decide +kernel
theorem d_Cr_circleCount_9 : decode prog_3_method_19_code 9 = .ok (.getfield 93, 3) := by decide +kernel
theorem d_Cr_circleCount_12 : decode prog_3_method_19_code 12 = .ok (.if_icmp .ge 20, 3) := by decide +kernel
theorem d_Cr_circleCount_15 : decode prog_3_method_19_code 15 = .ok (.aload_n 0, 1) := by decide +kernel
theorem d_Cr_circleCount_16 : decode prog_3_method_19_code 16 = .ok (.iload_n 2, 1) := by decide +kernel
theorem d_Cr_circleCount_17 : decode prog_3_method_19_code 17 = .ok (.invokevirtual 119, 3) := by decide +kernel
theorem d_Cr_circleCount_20 : decode prog_3_method_19_code 20 = .ok (.ifCond .eq 6, 3) := by decide +kernel
theorem d_Cr_circleCount_23 : decode prog_3_method_19_code 23 = .ok (.iinc 1 1, 3) := by decide +kernel
theorem d_Cr_circleCount_26 : decode prog_3_method_19_code 26 = .ok (.iinc 2 1, 3) := by decide +kernel
theorem d_Cr_circleCount_29 : decode prog_3_method_19_code 29 = .ok (.goto (-25), 3) := by decide +kernel
theorem d_Cr_circleCount_32 : decode prog_3_method_19_code 32 = .ok (.iload_n 1, 1) := by decide +kernel
theorem d_Cr_circleCount_33 : decode prog_3_method_19_code 33 = .ok (.ireturn, 1) := by decide +kernel
theorem d_Cr_isLowestOfCircle_0 : decode prog_3_method_20_code 0 = .ok (.aload_n 0, 1) := by decide +kernel
theorem d_Cr_isLowestOfCircle_1 : decode prog_3_method_20_code 1 = .ok (.iload_n 1, 1) := by decide +kernel
theorem d_Cr_isLowestOfCircle_2 : decode prog_3_method_20_code 2 = .ok (.invokevirtual 122, 3) := by decide +kernel
theorem d_Cr_isLowestOfCircle_5 : decode prog_3_method_20_code 5 = .ok (.istore_n 2, 1) := by decide +kernel
theorem d_Cr_isLowestOfCircle_6 : decode prog_3_method_20_code 6 = .ok (.iconst 0, 1) := by decide +kernel
theorem d_Cr_isLowestOfCircle_7 : decode prog_3_method_20_code 7 = .ok (.istore_n 3, 1) := by decide +kernel
theorem d_Cr_isLowestOfCircle_8 : decode prog_3_method_20_code 8 = .ok (.iload_n 3, 1) := by decide +kernel
theorem d_Cr_isLowestOfCircle_9 : decode prog_3_method_20_code 9 = .ok (.iload_n 1, 1) := by decide +kernel
theorem d_Cr_isLowestOfCircle_10 : decode prog_3_method_20_code 10 = .ok (.if_icmp .ge 33, 3) := by decide +kernel
theorem d_Cr_isLowestOfCircle_13 : decode prog_3_method_20_code 13 = .ok (.iload_n 2, 1) := by decide +kernel
theorem d_Cr_isLowestOfCircle_14 : decode prog_3_method_20_code 14 = .ok (.iload_n 3, 1) := by decide +kernel
theorem d_Cr_isLowestOfCircle_15 : decode prog_3_method_20_code 15 = .ok (.ishr, 1) := by decide +kernel
theorem d_Cr_isLowestOfCircle_16 : decode prog_3_method_20_code 16 = .ok (.iconst 1, 1) := by decide +kernel
theorem d_Cr_isLowestOfCircle_17 : decode prog_3_method_20_code 17 = .ok (.iand, 1) := by decide +kernel
theorem d_Cr_isLowestOfCircle_18 : decode prog_3_method_20_code 18 = .ok (.iconst 1, 1) := by decide +kernel
theorem d_Cr_isLowestOfCircle_19 : decode prog_3_method_20_code 19 = .ok (.if_icmp .ne 18, 3) := by decide +kernel
theorem d_Cr_isLowestOfCircle_22 : decode prog_3_method_20_code 22 = .ok (.aload_n 0, 1) := by decide +kernel
theorem d_Cr_isLowestOfCircle_23 : decode prog_3_method_20_code 23 = .ok (.iload_n 3, 1) := by decide +kernel
theorem d_Cr_isLowestOfCircle_24 : decode prog_3_method_20_code 24 = .ok (.invokevirtual 122, 3) := by decide +kernel
theorem d_Cr_isLowestOfCircle_27 : decode prog_3_method_20_code 27 = .ok (.iload_n 1, 1) := by decide +kernel
theorem d_Cr_isLowestOfCircle_28 : decode prog_3_method_20_code 28 = .ok (.ishr, 1) := by decide +kernel
theorem d_Cr_isLowestOfCircle_29 : decode prog_3_method_20_code 29 = .ok (.iconst 1, 1) := by decide +kernel
theorem d_Cr_isLowestOfCircle_30 : decode prog_3_method_20_code 30 = .ok (.iand, 1) := by decide +kernel
theorem d_Cr_isLowestOfCircle_31 : decode prog_3_method_20_code 31 = .ok (.iconst 1, 1) := by decide +kernel
theorem d_Cr_isLowestOfCircle_32 : decode prog_3_method_20_code 32 = .ok (.if_icmp .ne 5, 3) := by decide +kernel
theorem d_Cr_isLowestOfCircle_35 : decode prog_3_method_20_code 35 = .ok (.iconst 0, 1) := by decide +kernel
theorem d_Cr_isLowestOfCircle_36 : decode prog_3_method_20_code 36 = .ok (.ireturn, 1) := by decide +kernel
theorem d_Cr_isLowestOfCircle_37 : decode prog_3_method_20_code 37 = .ok (.iinc 3 1, 3) := by decide +kernel
theorem d_Cr_isLowestOfCircle_40 : decode prog_3_method_20_code 40 = .ok (.goto (-32), 3) := by decide +kernel
theorem d_Cr_isLowestOfCircle_43 : decode prog_3_method_20_code 43 = .ok (.iconst 1, 1) := by decide +kernel
theorem d_Cr_isLowestOfCircle_44 : decode prog_3_method_20_code 44 = .ok (.ireturn, 1) := by decide +kernel
theorem d_Cr_loudest_0 : decode prog_3_method_21_code 0 = .ok (.iconst (-1), 1) := by decide +kernel
theorem d_Cr_loudest_1 : decode prog_3_method_21_code 1 = .ok (.istore_n 1, 1) := by decide +kernel
theorem d_Cr_loudest_2 : decode prog_3_method_21_code 2 = .ok (.iconst 0, 1) := by decide +kernel
theorem d_Cr_loudest_3 : decode prog_3_method_21_code 3 = .ok (.istore_n 2, 1) := by decide +kernel
theorem d_Cr_loudest_4 : decode prog_3_method_21_code 4 = .ok (.iconst 0, 1) := by decide +kernel
theorem d_Cr_loudest_5 : decode prog_3_method_21_code 5 = .ok (.istore_n 3, 1) := by decide +kernel
theorem d_Cr_loudest_6 : decode prog_3_method_21_code 6 = .ok (.iload_n 3, 1) := by decide +kernel
theorem d_Cr_loudest_7 : decode prog_3_method_21_code 7 = .ok (.aload_n 0, 1) := by decide +kernel
theorem d_Cr_loudest_8 : decode prog_3_method_21_code 8 = .ok (.getfield 12, 3) := by decide +kernel
theorem d_Cr_loudest_11 : decode prog_3_method_21_code 11 = .ok (.getfield 93, 3) := by decide +kernel
theorem d_Cr_loudest_14 : decode prog_3_method_21_code 14 = .ok (.if_icmp .ge 27, 3) := by decide +kernel
theorem d_Cr_loudest_17 : decode prog_3_method_21_code 17 = .ok (.aload_n 0, 1) := by decide +kernel
theorem d_Cr_loudest_18 : decode prog_3_method_21_code 18 = .ok (.iload_n 3, 1) := by decide +kernel
theorem d_Cr_loudest_19 : decode prog_3_method_21_code 19 = .ok (.invokevirtual 126, 3) := by decide +kernel
theorem d_Cr_loudest_22 : decode prog_3_method_21_code 22 = .ok (.istore 4, 2) := by decide +kernel
theorem d_Cr_loudest_24 : decode prog_3_method_21_code 24 = .ok (.iload 4, 2) := by decide +kernel
theorem d_Cr_loudest_26 : decode prog_3_method_21_code 26 = .ok (.iload_n 2, 1) := by decide +kernel
theorem d_Cr_loudest_27 : decode prog_3_method_21_code 27 = .ok (.if_icmp .le 8, 3) := by decide +kernel
theorem d_Cr_loudest_30 : decode prog_3_method_21_code 30 = .ok (.iload 4, 2) := by decide +kernel
theorem d_Cr_loudest_32 : decode prog_3_method_21_code 32 = .ok (.istore_n 2, 1) := by decide +kernel
theorem d_Cr_loudest_33 : decode prog_3_method_21_code 33 = .ok (.iload_n 3, 1) := by decide +kernel
theorem d_Cr_loudest_34 : decode prog_3_method_21_code 34 = .ok (.istore_n 1, 1) := by decide +kernel
theorem d_Cr_loudest_35 : decode prog_3_method_21_code 35 = .ok (.iinc 3 1, 3) := by decide +kernel
theorem d_Cr_loudest_38 : decode prog_3_method_21_code 38 = .ok (.goto (-32), 3) := by decide +kernel
theorem d_Cr_loudest_41 : decode prog_3_method_21_code 41 = .ok (.iload_n 1, 1) := by decide +kernel
theorem d_Cr_loudest_42 : decode prog_3_method_21_code 42 = .ok (.ireturn, 1) := by decide +kernel
theorem d_Cr_earsFor_0 : decode prog_3_method_22_code 0 = .ok (.iconst 0, 1) := by decide +kernel
theorem d_Cr_earsFor_1 : decode prog_3_method_22_code 1 = .ok (.istore_n 2, 1) := by decide +kernel
theorem d_Cr_earsFor_2 : decode prog_3_method_22_code 2 = .ok (.iconst 0, 1) := by decide +kernel
theorem d_Cr_earsFor_3 : decode prog_3_method_22_code 3 = .ok (.istore_n 3, 1) := by decide +kernel
theorem d_Cr_earsFor_4 : decode prog_3_method_22_code 4 = .ok (.iload_n 3, 1) := by decide +kernel
theorem d_Cr_earsFor_5 : decode prog_3_method_22_code 5 = .ok (.aload_n 0, 1) := by decide +kernel
theorem d_Cr_earsFor_6 : decode prog_3_method_22_code 6 = .ok (.getfield 12, 3) := by decide +kernel
theorem d_Cr_earsFor_9 : decode prog_3_method_22_code 9 = .ok (.getfield 93, 3) := by decide +kernel
theorem d_Cr_earsFor_12 : decode prog_3_method_22_code 12 = .ok (.if_icmp .ge 24, 3) := by decide +kernel
theorem d_Cr_earsFor_15 : decode prog_3_method_22_code 15 = .ok (.iload_n 2, 1) := by decide +kernel
theorem d_Cr_earsFor_16 : decode prog_3_method_22_code 16 = .ok (.aload_n 0, 1) := by decide +kernel
theorem d_Cr_earsFor_17 : decode prog_3_method_22_code 17 = .ok (.getfield 25, 3) := by decide +kernel
theorem d_Cr_earsFor_20 : decode prog_3_method_22_code 20 = .ok (.iload_n 3, 1) := by decide +kernel
theorem d_Cr_earsFor_21 : decode prog_3_method_22_code 21 = .ok (.invokestatic 107, 3) := by decide +kernel
theorem d_Cr_earsFor_24 : decode prog_3_method_22_code 24 = .ok (.iload_n 1, 1) := by decide +kernel
theorem d_Cr_earsFor_25 : decode prog_3_method_22_code 25 = .ok (.ishr, 1) := by decide +kernel
theorem d_Cr_earsFor_26 : decode prog_3_method_22_code 26 = .ok (.iconst 1, 1) := by decide +kernel
theorem d_Cr_earsFor_27 : decode prog_3_method_22_code 27 = .ok (.iand, 1) := by decide +kernel
theorem d_Cr_earsFor_28 : decode prog_3_method_22_code 28 = .ok (.iadd, 1) := by decide +kernel
theorem d_Cr_earsFor_29 : decode prog_3_method_22_code 29 = .ok (.istore_n 2, 1) := by decide +kernel
theorem d_Cr_earsFor_30 : decode prog_3_method_22_code 30 = .ok (.iinc 3 1, 3) := by decide +kernel
theorem d_Cr_earsFor_33 : decode prog_3_method_22_code 33 = .ok (.goto (-29), 3) := by decide +kernel
theorem d_Cr_earsFor_36 : decode prog_3_method_22_code 36 = .ok (.iload_n 2, 1) := by decide +kernel
theorem d_Cr_earsFor_37 : decode prog_3_method_22_code 37 = .ok (.ireturn, 1) := by decide +kernel
theorem d_Ou_gameEnd_0 : decode prog_5_method_25_code 0 = .ok (.aload_n 0, 1) := by decide +kernel
theorem d_Ou_gameEnd_1 : decode prog_5_method_25_code 1 = .ok (.iconst 0, 1) := by decide +kernel
theorem d_Ou_gameEnd_2 : decode prog_5_method_25_code 2 = .ok (.iload_n 2, 1) := by decide +kernel
theorem d_Ou_gameEnd_3 : decode prog_5_method_25_code 3 = .ok (.invokevirtual 72, 3) := by decide +kernel
theorem d_Ou_gameEnd_6 : decode prog_5_method_25_code 6 = .ok (.aload_n 0, 1) := by decide +kernel
theorem d_Ou_gameEnd_7 : decode prog_5_method_25_code 7 = .ok (.getfield 15, 3) := by decide +kernel
theorem d_Ou_gameEnd_10 : decode prog_5_method_25_code 10 = .ok (.iload_n 1, 1) := by decide +kernel
theorem d_Ou_gameEnd_11 : decode prog_5_method_25_code 11 = .ok (.invokestatic 21, 3) := by decide +kernel
theorem d_Ou_gameEnd_14 : decode prog_5_method_25_code 14 = .ok (.ireturn, 1) := by decide +kernel
theorem d_Ou_playBackTo_0 : decode prog_5_method_27_code 0 = .ok (.iconst 0, 1) := by decide +kernel
theorem d_Ou_playBackTo_1 : decode prog_5_method_27_code 1 = .ok (.istore_n 3, 1) := by decide +kernel
theorem d_Ou_playBackTo_2 : decode prog_5_method_27_code 2 = .ok (.iload_n 3, 1) := by decide +kernel
theorem d_Ou_playBackTo_3 : decode prog_5_method_27_code 3 = .ok (.aload_n 0, 1) := by decide +kernel
theorem d_Ou_playBackTo_4 : decode prog_5_method_27_code 4 = .ok (.getfield 15, 3) := by decide +kernel
theorem d_Ou_playBackTo_7 : decode prog_5_method_27_code 7 = .ok (.arraylength, 1) := by decide +kernel
theorem d_Ou_playBackTo_8 : decode prog_5_method_27_code 8 = .ok (.if_icmp .ge 16, 3) := by decide +kernel
theorem d_Ou_playBackTo_11 : decode prog_5_method_27_code 11 = .ok (.aload_n 0, 1) := by decide +kernel
theorem d_Ou_playBackTo_12 : decode prog_5_method_27_code 12 = .ok (.getfield 15, 3) := by decide +kernel
theorem d_Ou_playBackTo_15 : decode prog_5_method_27_code 15 = .ok (.iload_n 3, 1) := by decide +kernel
theorem d_Ou_playBackTo_16 : decode prog_5_method_27_code 16 = .ok (.iload_n 3, 1) := by decide +kernel
theorem d_Ou_playBackTo_17 : decode prog_5_method_27_code 17 = .ok (.iastore, 1) := by decide +kernel
theorem d_Ou_playBackTo_18 : decode prog_5_method_27_code 18 = .ok (.iinc 3 1, 3) := by decide +kernel
theorem d_Ou_playBackTo_21 : decode prog_5_method_27_code 21 = .ok (.goto (-19), 3) := by decide +kernel
theorem d_Ou_playBackTo_24 : decode prog_5_method_27_code 24 = .ok (.iload_n 2, 1) := by decide +kernel
theorem d_Ou_playBackTo_25 : decode prog_5_method_27_code 25 = .ok (.iconst 1, 1) := by decide +kernel
theorem d_Ou_playBackTo_26 : decode prog_5_method_27_code 26 = .ok (.isub, 1) := by decide +kernel
theorem d_Ou_playBackTo_27 : decode prog_5_method_27_code 27 = .ok (.istore_n 3, 1) := by decide +kernel
theorem d_Ou_playBackTo_28 : decode prog_5_method_27_code 28 = .ok (.iload_n 3, 1) := by decide +kernel
theorem d_Ou_playBackTo_29 : decode prog_5_method_27_code 29 = .ok (.iload_n 1, 1) := by decide +kernel
theorem d_Ou_playBackTo_30 : decode prog_5_method_27_code 30 = .ok (.if_icmp .lt 71, 3) := by decide +kernel
theorem d_Ou_playBackTo_33 : decode prog_5_method_27_code 33 = .ok (.iconst 0, 1) := by decide +kernel
theorem d_Ou_playBackTo_34 : decode prog_5_method_27_code 34 = .ok (.istore 4, 2) := by decide +kernel
theorem d_Ou_playBackTo_36 : decode prog_5_method_27_code 36 = .ok (.iload 4, 2) := by decide +kernel
theorem d_Ou_playBackTo_38 : decode prog_5_method_27_code 38 = .ok (.aload_n 0, 1) := by decide +kernel
theorem d_Ou_playBackTo_39 : decode prog_5_method_27_code 39 = .ok (.getfield 31, 3) := by decide +kernel
theorem d_Ou_playBackTo_42 : decode prog_5_method_27_code 42 = .ok (.if_icmp .gt 35, 3) := by decide +kernel
theorem d_Ou_playBackTo_45 : decode prog_5_method_27_code 45 = .ok (.aload_n 0, 1) := by decide +kernel
theorem d_Ou_playBackTo_46 : decode prog_5_method_27_code 46 = .ok (.getfield 18, 3) := by decide +kernel
theorem d_Ou_playBackTo_49 : decode prog_5_method_27_code 49 = .ok (.iload 4, 2) := by decide +kernel
theorem d_Ou_playBackTo_51 : decode prog_5_method_27_code 51 = .ok (.aload_n 0, 1) := by decide +kernel
theorem d_Ou_playBackTo_52 : decode prog_5_method_27_code 52 = .ok (.iload 4, 2) := by decide +kernel
theorem d_Ou_playBackTo_54 : decode prog_5_method_27_code 54 = .ok (.iload_n 3, 1) := by decide +kernel
theorem d_Ou_playBackTo_55 : decode prog_5_method_27_code 55 = .ok (.iconst 2, 1) := by decide +kernel
theorem d_Ou_playBackTo_56 : decode prog_5_method_27_code 56 = .ok (.irem, 1) := by decide +kernel
theorem d_Ou_playBackTo_57 : decode prog_5_method_27_code 57 = .ok (.ifCond .ne 7, 3) := by decide +kernel
theorem d_Ou_playBackTo_60 : decode prog_5_method_27_code 60 = .ok (.iconst 1, 1) := by decide +kernel
theorem d_Ou_playBackTo_61 : decode prog_5_method_27_code 61 = .ok (.goto 4, 3) := by decide +kernel
theorem d_Ou_playBackTo_64 : decode prog_5_method_27_code 64 = .ok (.iconst 0, 1) := by decide +kernel
theorem d_Ou_playBackTo_65 : decode prog_5_method_27_code 65 = .ok (.invokevirtual 76, 3) := by decide +kernel
theorem d_Ou_playBackTo_68 : decode prog_5_method_27_code 68 = .ok (.invokestatic 80, 3) := by decide +kernel
theorem d_Ou_playBackTo_71 : decode prog_5_method_27_code 71 = .ok (.iinc 4 1, 3) := by decide +kernel
theorem d_Ou_playBackTo_74 : decode prog_5_method_27_code 74 = .ok (.goto (-38), 3) := by decide +kernel
theorem d_Ou_playBackTo_77 : decode prog_5_method_27_code 77 = .ok (.aload_n 0, 1) := by decide +kernel
theorem d_Ou_playBackTo_78 : decode prog_5_method_27_code 78 = .ok (.getfield 18, 3) := by decide +kernel
theorem d_Ou_playBackTo_81 : decode prog_5_method_27_code 81 = .ok (.iconst 0, 1) := by decide +kernel
theorem d_Ou_playBackTo_82 : decode prog_5_method_27_code 82 = .ok (.aload_n 0, 1) := by decide +kernel
theorem d_Ou_playBackTo_83 : decode prog_5_method_27_code 83 = .ok (.getfield 15, 3) := by decide +kernel
theorem d_Ou_playBackTo_86 : decode prog_5_method_27_code 86 = .ok (.iconst 0, 1) := by decide +kernel
theorem d_Ou_playBackTo_87 : decode prog_5_method_27_code 87 = .ok (.aload_n 0, 1) := by decide +kernel
theorem d_Ou_playBackTo_88 : decode prog_5_method_27_code 88 = .ok (.getfield 15, 3) := by decide +kernel
theorem d_Ou_playBackTo_91 : decode prog_5_method_27_code 91 = .ok (.arraylength, 1) := by decide +kernel
theorem d_Ou_playBackTo_92 : decode prog_5_method_27_code 92 = .ok (.invokestatic 84, 3) := by decide +kernel
theorem d_Ou_playBackTo_95 : decode prog_5_method_27_code 95 = .ok (.iinc 3 (-1), 3) := by decide +kernel
theorem d_Ou_playBackTo_98 : decode prog_5_method_27_code 98 = .ok (.goto (-70), 3) := by decide +kernel
theorem d_Ou_playBackTo_101 : decode prog_5_method_27_code 101 = .ok (.return_, 1) := by decide +kernel
theorem d_Ou_bestLast_0 : decode prog_5_method_28_code 0 = .ok (.aload_n 0, 1) := by decide +kernel
theorem d_Ou_bestLast_1 : decode prog_5_method_28_code 1 = .ok (.getfield 15, 3) := by decide +kernel
theorem d_Ou_bestLast_4 : decode prog_5_method_28_code 4 = .ok (.aload_n 0, 1) := by decide +kernel
theorem d_Ou_bestLast_5 : decode prog_5_method_28_code 5 = .ok (.iload_n 1, 1) := by decide +kernel
theorem d_Ou_bestLast_6 : decode prog_5_method_28_code 6 = .ok (.invokevirtual 35, 3) := by decide +kernel
theorem d_Ou_bestLast_9 : decode prog_5_method_28_code 9 = .ok (.invokestatic 21, 3) := by decide +kernel
theorem d_Ou_bestLast_12 : decode prog_5_method_28_code 12 = .ok (.istore_n 3, 1) := by decide +kernel
theorem d_Ou_bestLast_13 : decode prog_5_method_28_code 13 = .ok (.iconst 0, 1) := by decide +kernel
theorem d_Ou_bestLast_14 : decode prog_5_method_28_code 14 = .ok (.iload_n 1, 1) := by decide +kernel
theorem d_Ou_bestLast_15 : decode prog_5_method_28_code 15 = .ok (.iconst 1, 1) := by decide +kernel
theorem d_Ou_bestLast_16 : decode prog_5_method_28_code 16 = .ok (.isub, 1) := by decide +kernel
theorem d_Ou_bestLast_17 : decode prog_5_method_28_code 17 = .ok (.invokestatic 59, 3) := by decide +kernel
theorem d_Ou_bestLast_20 : decode prog_5_method_28_code 20 = .ok (.istore 4, 2) := by decide +kernel
theorem d_Ou_bestLast_22 : decode prog_5_method_28_code 22 = .ok (.iload 4, 2) := by decide +kernel
theorem d_Ou_bestLast_24 : decode prog_5_method_28_code 24 = .ok (.aload_n 0, 1) := by decide +kernel
theorem d_Ou_bestLast_25 : decode prog_5_method_28_code 25 = .ok (.getfield 31, 3) := by decide +kernel
theorem d_Ou_bestLast_28 : decode prog_5_method_28_code 28 = .ok (.iload_n 1, 1) := by decide +kernel
theorem d_Ou_bestLast_29 : decode prog_5_method_28_code 29 = .ok (.iconst 1, 1) := by decide +kernel
theorem d_Ou_bestLast_30 : decode prog_5_method_28_code 30 = .ok (.iadd, 1) := by decide +kernel
theorem d_Ou_bestLast_31 : decode prog_5_method_28_code 31 = .ok (.invokestatic 44, 3) := by decide +kernel
theorem d_Ou_bestLast_34 : decode prog_5_method_28_code 34 = .ok (.if_icmp .gt 44, 3) := by decide +kernel
theorem d_Ou_bestLast_37 : decode prog_5_method_28_code 37 = .ok (.aload_n 0, 1) := by decide +kernel
theorem d_Ou_bestLast_38 : decode prog_5_method_28_code 38 = .ok (.getfield 15, 3) := by decide +kernel
theorem d_Ou_bestLast_41 : decode prog_5_method_28_code 41 = .ok (.aload_n 0, 1) := by decide +kernel
theorem d_Ou_bestLast_42 : decode prog_5_method_28_code 42 = .ok (.iload 4, 2) := by decide +kernel
theorem d_Ou_bestLast_44 : decode prog_5_method_28_code 44 = .ok (.invokevirtual 35, 3) := by decide +kernel
theorem d_Ou_bestLast_47 : decode prog_5_method_28_code 47 = .ok (.invokestatic 21, 3) := by decide +kernel
theorem d_Ou_bestLast_50 : decode prog_5_method_28_code 50 = .ok (.istore 5, 2) := by decide +kernel
theorem d_Ou_bestLast_52 : decode prog_5_method_28_code 52 = .ok (.iload_n 2, 1) := by decide +kernel
theorem d_Ou_bestLast_53 : decode prog_5_method_28_code 53 = .ok (.ifCond .eq 12, 3) := by decide +kernel
theorem d_Ou_bestLast_56 : decode prog_5_method_28_code 56 = .ok (.iload_n 3, 1) := by decide +kernel
theorem d_Ou_bestLast_57 : decode prog_5_method_28_code 57 = .ok (.iload 5, 2) := by decide +kernel
theorem d_Ou_bestLast_59 : decode prog_5_method_28_code 59 = .ok (.invokestatic 59, 3) := by decide +kernel
theorem d_Ou_bestLast_62 : decode prog_5_method_28_code 62 = .ok (.goto 9, 3) := by decide +kernel
theorem d_Ou_bestLast_65 : decode prog_5_method_28_code 65 = .ok (.iload_n 3, 1) := by decide +kernel
theorem d_Ou_bestLast_66 : decode prog_5_method_28_code 66 = .ok (.iload 5, 2) := by decide +kernel
theorem d_Ou_bestLast_68 : decode prog_5_method_28_code 68 = .ok (.invokestatic 44, 3) := by decide +kernel
theorem d_Ou_bestLast_71 : decode prog_5_method_28_code 71 = .ok (.istore_n 3, 1) := by decide +kernel
theorem d_Ou_bestLast_72 : decode prog_5_method_28_code 72 = .ok (.iinc 4 1, 3) := by decide +kernel
theorem d_Ou_bestLast_75 : decode prog_5_method_28_code 75 = .ok (.goto (-53), 3) := by decide +kernel
theorem d_Ou_bestLast_78 : decode prog_5_method_28_code 78 = .ok (.iload_n 3, 1) := by decide +kernel
theorem d_Ou_bestLast_79 : decode prog_5_method_28_code 79 = .ok (.ireturn, 1) := by decide +kernel
theorem d_Ou_gameStart_0 : decode prog_5_method_26_code 0 = .ok (.aload_n 0, 1) := by decide +kernel
theorem d_Ou_gameStart_1 : decode prog_5_method_26_code 1 = .ok (.iconst 1, 1) := by decide +kernel
theorem d_Ou_gameStart_2 : decode prog_5_method_26_code 2 = .ok (.iload_n 2, 1) := by decide +kernel
theorem d_Ou_gameStart_3 : decode prog_5_method_26_code 3 = .ok (.invokevirtual 72, 3) := by decide +kernel
theorem d_Ou_gameStart_6 : decode prog_5_method_26_code 6 = .ok (.aload_n 0, 1) := by decide +kernel
theorem d_Ou_gameStart_7 : decode prog_5_method_26_code 7 = .ok (.iload_n 1, 1) := by decide +kernel
theorem d_Ou_gameStart_8 : decode prog_5_method_26_code 8 = .ok (.iconst 1, 1) := by decide +kernel
theorem d_Ou_gameStart_9 : decode prog_5_method_26_code 9 = .ok (.invokevirtual 76, 3) := by decide +kernel
theorem d_Ou_gameStart_12 : decode prog_5_method_26_code 12 = .ok (.istore_n 3, 1) := by decide +kernel
theorem d_Ou_gameStart_13 : decode prog_5_method_26_code 13 = .ok (.iconst 0, 1) := by decide +kernel
theorem d_Ou_gameStart_14 : decode prog_5_method_26_code 14 = .ok (.iload_n 1, 1) := by decide +kernel
theorem d_Ou_gameStart_15 : decode prog_5_method_26_code 15 = .ok (.iconst 1, 1) := by decide +kernel
theorem d_Ou_gameStart_16 : decode prog_5_method_26_code 16 = .ok (.isub, 1) := by decide +kernel
theorem d_Ou_gameStart_17 : decode prog_5_method_26_code 17 = .ok (.invokestatic 59, 3) := by decide +kernel
theorem d_Ou_gameStart_20 : decode prog_5_method_26_code 20 = .ok (.istore 4, 2) := by decide +kernel
theorem d_Ou_gameStart_22 : decode prog_5_method_26_code 22 = .ok (.iload 4, 2) := by decide +kernel
theorem d_Ou_gameStart_24 : decode prog_5_method_26_code 24 = .ok (.aload_n 0, 1) := by decide +kernel
theorem d_Ou_gameStart_25 : decode prog_5_method_26_code 25 = .ok (.getfield 31, 3) := by decide +kernel
theorem d_Ou_gameStart_28 : decode prog_5_method_26_code 28 = .ok (.iload_n 1, 1) := by decide +kernel
theorem d_Ou_gameStart_29 : decode prog_5_method_26_code 29 = .ok (.iconst 1, 1) := by decide +kernel
theorem d_Ou_gameStart_30 : decode prog_5_method_26_code 30 = .ok (.iadd, 1) := by decide +kernel
theorem d_Ou_gameStart_31 : decode prog_5_method_26_code 31 = .ok (.invokestatic 44, 3) := by decide +kernel
theorem d_Ou_gameStart_34 : decode prog_5_method_26_code 34 = .ok (.if_icmp .gt 29, 3) := by decide +kernel
theorem d_Ou_gameStart_37 : decode prog_5_method_26_code 37 = .ok (.aload_n 0, 1) := by decide +kernel
theorem d_Ou_gameStart_38 : decode prog_5_method_26_code 38 = .ok (.getfield 15, 3) := by decide +kernel
theorem d_Ou_gameStart_41 : decode prog_5_method_26_code 41 = .ok (.aload_n 0, 1) := by decide +kernel
theorem d_Ou_gameStart_42 : decode prog_5_method_26_code 42 = .ok (.iload 4, 2) := by decide +kernel
theorem d_Ou_gameStart_44 : decode prog_5_method_26_code 44 = .ok (.invokevirtual 35, 3) := by decide +kernel
theorem d_Ou_gameStart_47 : decode prog_5_method_26_code 47 = .ok (.invokestatic 21, 3) := by decide +kernel
theorem d_Ou_gameStart_50 : decode prog_5_method_26_code 50 = .ok (.iload_n 3, 1) := by decide +kernel
theorem d_Ou_gameStart_51 : decode prog_5_method_26_code 51 = .ok (.if_icmp .ne 6, 3) := by decide +kernel
theorem d_Ou_gameStart_54 : decode prog_5_method_26_code 54 = .ok (.iload 4, 2) := by decide +kernel
theorem d_Ou_gameStart_56 : decode prog_5_method_26_code 56 = .ok (.ireturn, 1) := by decide +kernel
theorem d_Ou_gameStart_57 : decode prog_5_method_26_code 57 = .ok (.iinc 4 1, 3) := by decide +kernel
theorem d_Ou_gameStart_60 : decode prog_5_method_26_code 60 = .ok (.goto (-38), 3) := by decide +kernel
theorem d_Ou_gameStart_63 : decode prog_5_method_26_code 63 = .ok (.iconst (-1), 1) := by decide +kernel
theorem d_Ou_gameStart_64 : decode prog_5_method_26_code 64 = .ok (.ireturn, 1) := by decide +kernel
theorem d_Cr_addParty_0 : decode prog_3_method_14_code 0 = .ok (.iload_n 1, 1) := by decide +kernel
theorem d_Cr_addParty_1 : decode prog_3_method_14_code 1 = .ok (.ifCond .lt 23, 3) := by decide +kernel
theorem d_Cr_addParty_4 : decode prog_3_method_14_code 4 = .ok (.iload_n 1, 1) := by decide +kernel
theorem d_Cr_addParty_5 : decode prog_3_method_14_code 5 = .ok (.iload_n 2, 1) := by decide +kernel
theorem d_Cr_addParty_6 : decode prog_3_method_14_code 6 = .ok (.if_icmp .gt 18, 3) := by decide +kernel
theorem d_Cr_addParty_9 : decode prog_3_method_14_code 9 = .ok (.iload_n 2, 1) := by decide +kernel
theorem d_Cr_addParty_10 : decode prog_3_method_14_code 10 = .ok (.bipush 8, 2) := by decide +kernel
theorem d_Cr_addParty_12 : decode prog_3_method_14_code 12 = .ok (.if_icmp .gt 12, 3) := by decide +kernel
theorem d_Cr_addParty_15 : decode prog_3_method_14_code 15 = .ok (.aload_n 0, 1) := by decide +kernel
theorem d_Cr_addParty_16 : decode prog_3_method_14_code 16 = .ok (.getfield 87, 3) := by decide +kernel
theorem d_Cr_addParty_19 : decode prog_3_method_14_code 19 = .ok (.bipush 8, 2) := by decide +kernel
theorem d_Cr_addParty_21 : decode prog_3_method_14_code 21 = .ok (.if_icmp .lt 5, 3) := by decide +kernel
theorem d_Cr_addParty_24 : decode prog_3_method_14_code 24 = .ok (.iconst 0, 1) := by decide +kernel
theorem d_Cr_addParty_25 : decode prog_3_method_14_code 25 = .ok (.ireturn, 1) := by decide +kernel
theorem d_Cr_addParty_26 : decode prog_3_method_14_code 26 = .ok (.aload_n 0, 1) := by decide +kernel
theorem d_Cr_addParty_27 : decode prog_3_method_14_code 27 = .ok (.getfield 42, 3) := by decide +kernel
theorem d_Cr_addParty_30 : decode prog_3_method_14_code 30 = .ok (.aload_n 0, 1) := by decide +kernel
theorem d_Cr_addParty_31 : decode prog_3_method_14_code 31 = .ok (.getfield 87, 3) := by decide +kernel
theorem d_Cr_addParty_34 : decode prog_3_method_14_code 34 = .ok (.iload_n 1, 1) := by decide +kernel
theorem d_Cr_addParty_35 : decode prog_3_method_14_code 35 = .ok (.invokestatic 99, 3) := by decide +kernel
theorem d_Cr_addParty_38 : decode prog_3_method_14_code 38 = .ok (.aload_n 0, 1) := by decide +kernel
theorem d_Cr_addParty_39 : decode prog_3_method_14_code 39 = .ok (.getfield 45, 3) := by decide +kernel
theorem d_Cr_addParty_42 : decode prog_3_method_14_code 42 = .ok (.aload_n 0, 1) := by decide +kernel
theorem d_Cr_addParty_43 : decode prog_3_method_14_code 43 = .ok (.getfield 87, 3) := by decide +kernel
theorem d_Cr_addParty_46 : decode prog_3_method_14_code 46 = .ok (.iload_n 2, 1) := by decide +kernel
theorem d_Cr_addParty_47 : decode prog_3_method_14_code 47 = .ok (.invokestatic 99, 3) := by decide +kernel
theorem d_Cr_addParty_50 : decode prog_3_method_14_code 50 = .ok (.aload_n 0, 1) := by decide +kernel
theorem d_Cr_addParty_51 : decode prog_3_method_14_code 51 = .ok (.dup, 1) := by decide +kernel
theorem d_Cr_addParty_52 : decode prog_3_method_14_code 52 = .ok (.getfield 87, 3) := by decide +kernel
theorem d_Cr_addParty_55 : decode prog_3_method_14_code 55 = .ok (.iconst 1, 1) := by decide +kernel
theorem d_Cr_addParty_56 : decode prog_3_method_14_code 56 = .ok (.iadd, 1) := by decide +kernel
theorem d_Cr_addParty_57 : decode prog_3_method_14_code 57 = .ok (.putfield 87, 3) := by decide +kernel
theorem d_Cr_addParty_60 : decode prog_3_method_14_code 60 = .ok (.iconst 1, 1) := by decide +kernel
theorem d_Cr_addParty_61 : decode prog_3_method_14_code 61 = .ok (.ireturn, 1) := by decide +kernel
theorem d_Cr_partiesBy_0 : decode prog_3_method_15_code 0 = .ok (.iconst 0, 1) := by decide +kernel
theorem d_Cr_partiesBy_1 : decode prog_3_method_15_code 1 = .ok (.istore_n 2, 1) := by decide +kernel
theorem d_Cr_partiesBy_2 : decode prog_3_method_15_code 2 = .ok (.iconst 0, 1) := by decide +kernel
theorem d_Cr_partiesBy_3 : decode prog_3_method_15_code 3 = .ok (.istore_n 3, 1) := by decide +kernel
theorem d_Cr_partiesBy_4 : decode prog_3_method_15_code 4 = .ok (.iload_n 3, 1) := by decide +kernel
theorem d_Cr_partiesBy_5 : decode prog_3_method_15_code 5 = .ok (.aload_n 0, 1) := by decide +kernel
theorem d_Cr_partiesBy_6 : decode prog_3_method_15_code 6 = .ok (.getfield 87, 3) := by decide +kernel
theorem d_Cr_partiesBy_9 : decode prog_3_method_15_code 9 = .ok (.if_icmp .ge 44, 3) := by decide +kernel
theorem d_Cr_partiesBy_12 : decode prog_3_method_15_code 12 = .ok (.iconst 1, 1) := by decide +kernel
theorem d_Cr_partiesBy_13 : decode prog_3_method_15_code 13 = .ok (.aload_n 0, 1) := by decide +kernel
theorem d_Cr_partiesBy_14 : decode prog_3_method_15_code 14 = .ok (.getfield 45, 3) := by decide +kernel
theorem d_Cr_partiesBy_17 : decode prog_3_method_15_code 17 = .ok (.iload_n 3, 1) := by decide +kernel
theorem d_Cr_partiesBy_18 : decode prog_3_method_15_code 18 = .ok (.invokestatic 107, 3) := by decide +kernel
theorem d_Cr_partiesBy_21 : decode prog_3_method_15_code 21 = .ok (.iconst 1, 1) := by decide +kernel
theorem d_Cr_partiesBy_22 : decode prog_3_method_15_code 22 = .ok (.iadd, 1) := by decide +kernel
theorem d_Cr_partiesBy_23 : decode prog_3_method_15_code 23 = .ok (.ishl, 1) := by decide +kernel
theorem d_Cr_partiesBy_24 : decode prog_3_method_15_code 24 = .ok (.iconst 1, 1) := by decide +kernel
theorem d_Cr_partiesBy_25 : decode prog_3_method_15_code 25 = .ok (.isub, 1) := by decide +kernel
theorem d_Cr_partiesBy_26 : decode prog_3_method_15_code 26 = .ok (.istore 4, 2) := by decide +kernel
theorem d_Cr_partiesBy_28 : decode prog_3_method_15_code 28 = .ok (.iload_n 1, 1) := by decide +kernel
theorem d_Cr_partiesBy_29 : decode prog_3_method_15_code 29 = .ok (.iload 4, 2) := by decide +kernel
theorem d_Cr_partiesBy_31 : decode prog_3_method_15_code 31 = .ok (.iand, 1) := by decide +kernel
theorem d_Cr_partiesBy_32 : decode prog_3_method_15_code 32 = .ok (.aload_n 0, 1) := by decide +kernel
theorem d_Cr_partiesBy_33 : decode prog_3_method_15_code 33 = .ok (.getfield 42, 3) := by decide +kernel
theorem d_Cr_partiesBy_36 : decode prog_3_method_15_code 36 = .ok (.iload_n 3, 1) := by decide +kernel
theorem d_Cr_partiesBy_37 : decode prog_3_method_15_code 37 = .ok (.invokestatic 107, 3) := by decide +kernel
theorem d_Cr_partiesBy_40 : decode prog_3_method_15_code 40 = .ok (.ishr, 1) := by decide +kernel
theorem d_Cr_partiesBy_41 : decode prog_3_method_15_code 41 = .ok (.ifCond .eq 6, 3) := by decide +kernel
theorem d_Cr_partiesBy_44 : decode prog_3_method_15_code 44 = .ok (.iinc 2 1, 3) := by decide +kernel
theorem d_Cr_partiesBy_47 : decode prog_3_method_15_code 47 = .ok (.iinc 3 1, 3) := by decide +kernel
theorem d_Cr_partiesBy_50 : decode prog_3_method_15_code 50 = .ok (.goto (-46), 3) := by decide +kernel
theorem d_Cr_partiesBy_53 : decode prog_3_method_15_code 53 = .ok (.iload_n 2, 1) := by decide +kernel
theorem d_Cr_partiesBy_54 : decode prog_3_method_15_code 54 = .ok (.ireturn, 1) := by decide +kernel
theorem d_JA_fill_AII_0 : decode prog_21_method_103_code 0 = .ok (.iconst 0, 1) := by decide +kernel
theorem d_JA_fill_AII_1 : decode prog_21_method_103_code 1 = .ok (.istore_n 2, 1) := by decide +kernel
theorem d_JA_fill_AII_2 : decode prog_21_method_103_code 2 = .ok (.aload_n 0, 1) := by decide +kernel
theorem d_JA_fill_AII_3 : decode prog_21_method_103_code 3 = .ok (.arraylength, 1) := by decide +kernel
theorem d_JA_fill_AII_4 : decode prog_21_method_103_code 4 = .ok (.istore_n 3, 1) := by decide +kernel
theorem d_JA_fill_AII_5 : decode prog_21_method_103_code 5 = .ok (.iload_n 2, 1) := by decide +kernel
theorem d_JA_fill_AII_6 : decode prog_21_method_103_code 6 = .ok (.iload_n 3, 1) := by decide +kernel
theorem d_JA_fill_AII_7 : decode prog_21_method_103_code 7 = .ok (.if_icmp .ge 13, 3) := by decide +kernel
theorem d_JA_fill_AII_10 : decode prog_21_method_103_code 10 = .ok (.aload_n 0, 1) := by decide +kernel
theorem d_JA_fill_AII_11 : decode prog_21_method_103_code 11 = .ok (.iload_n 2, 1) := by decide +kernel
theorem d_JA_fill_AII_12 : decode prog_21_method_103_code 12 = .ok (.iload_n 1, 1) := by decide +kernel
theorem d_JA_fill_AII_13 : decode prog_21_method_103_code 13 = .ok (.iastore, 1) := by decide +kernel
theorem d_JA_fill_AII_14 : decode prog_21_method_103_code 14 = .ok (.iinc 2 1, 3) := by decide +kernel
theorem d_JA_fill_AII_17 : decode prog_21_method_103_code 17 = .ok (.goto (-12), 3) := by decide +kernel
theorem d_JA_fill_AII_20 : decode prog_21_method_103_code 20 = .ok (.return_, 1) := by decide +kernel
theorem d_Cr_villagesFrom_0 : decode prog_3_method_17_code 0 = .ok (.iconst 0, 1) := by decide +kernel
theorem d_Cr_villagesFrom_1 : decode prog_3_method_17_code 1 = .ok (.istore_n 3, 1) := by decide +kernel
theorem d_Cr_villagesFrom_2 : decode prog_3_method_17_code 2 = .ok (.iconst 0, 1) := by decide +kernel
theorem d_Cr_villagesFrom_3 : decode prog_3_method_17_code 3 = .ok (.istore 4, 2) := by decide +kernel
theorem d_Cr_villagesFrom_5 : decode prog_3_method_17_code 5 = .ok (.iload 4, 2) := by decide +kernel
theorem d_Cr_villagesFrom_7 : decode prog_3_method_17_code 7 = .ok (.iload_n 2, 1) := by decide +kernel
theorem d_Cr_villagesFrom_8 : decode prog_3_method_17_code 8 = .ok (.if_icmp .ge 26, 3) := by decide +kernel
theorem d_Cr_villagesFrom_11 : decode prog_3_method_17_code 11 = .ok (.iload_n 3, 1) := by decide +kernel
theorem d_Cr_villagesFrom_12 : decode prog_3_method_17_code 12 = .ok (.aload_n 0, 1) := by decide +kernel
theorem d_Cr_villagesFrom_13 : decode prog_3_method_17_code 13 = .ok (.getfield 54, 3) := by decide +kernel
theorem d_Cr_villagesFrom_16 : decode prog_3_method_17_code 16 = .ok (.iload_n 1, 1) := by decide +kernel
theorem d_Cr_villagesFrom_17 : decode prog_3_method_17_code 17 = .ok (.iload 4, 2) := by decide +kernel
theorem d_Cr_villagesFrom_19 : decode prog_3_method_17_code 19 = .ok (.iadd, 1) := by decide +kernel
theorem d_Cr_villagesFrom_20 : decode prog_3_method_17_code 20 = .ok (.bipush 10, 2) := by decide +kernel
theorem d_Cr_villagesFrom_22 : decode prog_3_method_17_code 22 = .ok (.irem, 1) := by decide +kernel
theorem d_Cr_villagesFrom_23 : decode prog_3_method_17_code 23 = .ok (.invokestatic 107, 3) := by decide +kernel
theorem d_Cr_villagesFrom_26 : decode prog_3_method_17_code 26 = .ok (.iadd, 1) := by decide +kernel
theorem d_Cr_villagesFrom_27 : decode prog_3_method_17_code 27 = .ok (.istore_n 3, 1) := by decide +kernel
theorem d_Cr_villagesFrom_28 : decode prog_3_method_17_code 28 = .ok (.iinc 4 1, 3) := by decide +kernel
theorem d_Cr_villagesFrom_31 : decode prog_3_method_17_code 31 = .ok (.goto (-26), 3) := by decide +kernel
theorem d_Cr_villagesFrom_34 : decode prog_3_method_17_code 34 = .ok (.iload_n 3, 1) := by decide +kernel
theorem d_Cr_villagesFrom_35 : decode prog_3_method_17_code 35 = .ok (.ireturn, 1) := by decide +kernel
theorem d_Cr_addSaid_0 : decode prog_3_method_16_code 0 = .ok (.iload_n 1, 1) := by decide +kernel
theorem d_Cr_addSaid_1 : decode prog_3_method_16_code 1 = .ok (.ifCond .lt 28, 3) := by decide +kernel
theorem d_Cr_addSaid_4 : decode prog_3_method_16_code 4 = .ok (.iload_n 1, 1) := by decide +kernel
theorem d_Cr_addSaid_5 : decode prog_3_method_16_code 5 = .ok (.bipush 8, 2) := by decide +kernel
theorem d_Cr_addSaid_7 : decode prog_3_method_16_code 7 = .ok (.if_icmp .gt 22, 3) := by decide +kernel
theorem d_Cr_addSaid_10 : decode prog_3_method_16_code 10 = .ok (.iload_n 2, 1) := by decide +kernel
theorem d_Cr_addSaid_11 : decode prog_3_method_16_code 11 = .ok (.ifCond .lt 18, 3) := by decide +kernel
theorem d_Cr_addSaid_14 : decode prog_3_method_16_code 14 = .ok (.iload_n 2, 1) := by decide +kernel
theorem d_Cr_addSaid_15 : decode prog_3_method_16_code 15 = .ok (.bipush 8, 2) := by decide +kernel
theorem d_Cr_addSaid_17 : decode prog_3_method_16_code 17 = .ok (.if_icmp .gt 12, 3) := by decide +kernel
theorem d_Cr_addSaid_20 : decode prog_3_method_16_code 20 = .ok (.aload_n 0, 1) := by decide +kernel
theorem d_Cr_addSaid_21 : decode prog_3_method_16_code 21 = .ok (.getfield 90, 3) := by decide +kernel
theorem d_Cr_addSaid_24 : decode prog_3_method_16_code 24 = .ok (.bipush 8, 2) := by decide +kernel
theorem d_Cr_addSaid_26 : decode prog_3_method_16_code 26 = .ok (.if_icmp .lt 5, 3) := by decide +kernel
theorem d_Cr_addSaid_29 : decode prog_3_method_16_code 29 = .ok (.iconst 0, 1) := by decide +kernel
theorem d_Cr_addSaid_30 : decode prog_3_method_16_code 30 = .ok (.ireturn, 1) := by decide +kernel
theorem d_Cr_addSaid_31 : decode prog_3_method_16_code 31 = .ok (.aload_n 0, 1) := by decide +kernel
theorem d_Cr_addSaid_32 : decode prog_3_method_16_code 32 = .ok (.getfield 48, 3) := by decide +kernel
theorem d_Cr_addSaid_35 : decode prog_3_method_16_code 35 = .ok (.aload_n 0, 1) := by decide +kernel
theorem d_Cr_addSaid_36 : decode prog_3_method_16_code 36 = .ok (.getfield 90, 3) := by decide +kernel
theorem d_Cr_addSaid_39 : decode prog_3_method_16_code 39 = .ok (.iload_n 1, 1) := by decide +kernel
theorem d_Cr_addSaid_40 : decode prog_3_method_16_code 40 = .ok (.invokestatic 99, 3) := by decide +kernel
theorem d_Cr_addSaid_43 : decode prog_3_method_16_code 43 = .ok (.aload_n 0, 1) := by decide +kernel
theorem d_Cr_addSaid_44 : decode prog_3_method_16_code 44 = .ok (.getfield 51, 3) := by decide +kernel
theorem d_Cr_addSaid_47 : decode prog_3_method_16_code 47 = .ok (.aload_n 0, 1) := by decide +kernel
theorem d_Cr_addSaid_48 : decode prog_3_method_16_code 48 = .ok (.getfield 90, 3) := by decide +kernel
theorem d_Cr_addSaid_51 : decode prog_3_method_16_code 51 = .ok (.iload_n 2, 1) := by decide +kernel
theorem d_Cr_addSaid_52 : decode prog_3_method_16_code 52 = .ok (.invokestatic 99, 3) := by decide +kernel
theorem d_Cr_addSaid_55 : decode prog_3_method_16_code 55 = .ok (.aload_n 0, 1) := by decide +kernel
theorem d_Cr_addSaid_56 : decode prog_3_method_16_code 56 = .ok (.dup, 1) := by decide +kernel
theorem d_Cr_addSaid_57 : decode prog_3_method_16_code 57 = .ok (.getfield 90, 3) := by decide +kernel
theorem d_Cr_addSaid_60 : decode prog_3_method_16_code 60 = .ok (.iconst 1, 1) := by decide +kernel
theorem d_Cr_addSaid_61 : decode prog_3_method_16_code 61 = .ok (.iadd, 1) := by decide +kernel
theorem d_Cr_addSaid_62 : decode prog_3_method_16_code 62 = .ok (.putfield 90, 3) := by decide +kernel
theorem d_Cr_addSaid_65 : decode prog_3_method_16_code 65 = .ok (.iconst 1, 1) := by decide +kernel
theorem d_Cr_addSaid_66 : decode prog_3_method_16_code 66 = .ok (.ireturn, 1) := by decide +kernel
theorem d_Cr_copyAll_0 : decode prog_3_method_2_code 0 = .ok (.aload_n 0, 1) := by decide +kernel
theorem d_Cr_copyAll_1 : decode prog_3_method_2_code 1 = .ok (.getfield 12, 3) := by decide +kernel
theorem d_Cr_copyAll_4 : decode prog_3_method_2_code 4 = .ok (.aload_n 1, 1) := by decide +kernel
theorem d_Cr_copyAll_5 : decode prog_3_method_2_code 5 = .ok (.getfield 12, 3) := by decide +kernel
theorem d_Cr_copyAll_8 : decode prog_3_method_2_code 8 = .ok (.invokevirtual 57, 3) := by decide +kernel
theorem d_Cr_copyAll_11 : decode prog_3_method_2_code 11 = .ok (.iconst 0, 1) := by decide +kernel
theorem d_Cr_copyAll_12 : decode prog_3_method_2_code 12 = .ok (.istore_n 2, 1) := by decide +kernel
theorem d_Cr_copyAll_13 : decode prog_3_method_2_code 13 = .ok (.iload_n 2, 1) := by decide +kernel
theorem d_Cr_copyAll_14 : decode prog_3_method_2_code 14 = .ok (.aload_n 0, 1) := by decide +kernel
theorem d_Cr_copyAll_15 : decode prog_3_method_2_code 15 = .ok (.getfield 28, 3) := by decide +kernel
theorem d_Cr_copyAll_18 : decode prog_3_method_2_code 18 = .ok (.arraylength, 1) := by decide +kernel
theorem d_Cr_copyAll_19 : decode prog_3_method_2_code 19 = .ok (.if_icmp .ge 37, 3) := by decide +kernel
theorem d_Cr_copyAll_22 : decode prog_3_method_2_code 22 = .ok (.aload_n 0, 1) := by decide +kernel
theorem d_Cr_copyAll_23 : decode prog_3_method_2_code 23 = .ok (.getfield 28, 3) := by decide +kernel
theorem d_Cr_copyAll_26 : decode prog_3_method_2_code 26 = .ok (.iload_n 2, 1) := by decide +kernel
theorem d_Cr_copyAll_27 : decode prog_3_method_2_code 27 = .ok (.aaload, 1) := by decide +kernel
theorem d_Cr_copyAll_28 : decode prog_3_method_2_code 28 = .ok (.iload_n 2, 1) := by decide +kernel
theorem d_Cr_copyAll_29 : decode prog_3_method_2_code 29 = .ok (.aload_n 1, 1) := by decide +kernel
theorem d_Cr_copyAll_30 : decode prog_3_method_2_code 30 = .ok (.getfield 28, 3) := by decide +kernel
theorem d_Cr_copyAll_33 : decode prog_3_method_2_code 33 = .ok (.arraylength, 1) := by decide +kernel
theorem d_Cr_copyAll_34 : decode prog_3_method_2_code 34 = .ok (.if_icmp .ge 12, 3) := by decide +kernel
theorem d_Cr_copyAll_37 : decode prog_3_method_2_code 37 = .ok (.aload_n 1, 1) := by decide +kernel
theorem d_Cr_copyAll_38 : decode prog_3_method_2_code 38 = .ok (.getfield 28, 3) := by decide +kernel
theorem d_Cr_copyAll_41 : decode prog_3_method_2_code 41 = .ok (.iload_n 2, 1) := by decide +kernel
theorem d_Cr_copyAll_42 : decode prog_3_method_2_code 42 = .ok (.aaload, 1) := by decide +kernel
theorem d_Cr_copyAll_43 : decode prog_3_method_2_code 43 = .ok (.goto 4, 3) := by decide +kernel
theorem d_Cr_copyAll_46 : decode prog_3_method_2_code 46 = .ok (.aconst_null, 1) := by decide +kernel
theorem d_Cr_copyAll_47 : decode prog_3_method_2_code 47 = .ok (.invokestatic 61, 3) := by decide +kernel
theorem d_Cr_copyAll_50 : decode prog_3_method_2_code 50 = .ok (.iinc 2 1, 3) := by decide +kernel
theorem d_Cr_copyAll_53 : decode prog_3_method_2_code 53 = .ok (.goto (-40), 3) := by decide +kernel
theorem d_Cr_copyAll_56 : decode prog_3_method_2_code 56 = .ok (.aload_n 0, 1) := by decide +kernel
theorem d_Cr_copyAll_57 : decode prog_3_method_2_code 57 = .ok (.aload_n 1, 1) := by decide +kernel
theorem d_Cr_copyAll_58 : decode prog_3_method_2_code 58 = .ok (.getfield 65, 3) := by decide +kernel
theorem d_Cr_copyAll_61 : decode prog_3_method_2_code 61 = .ok (.putfield 65, 3) := by decide +kernel
theorem d_Cr_copyAll_64 : decode prog_3_method_2_code 64 = .ok (.aload_n 0, 1) := by decide +kernel
theorem d_Cr_copyAll_65 : decode prog_3_method_2_code 65 = .ok (.aload_n 1, 1) := by decide +kernel
theorem d_Cr_copyAll_66 : decode prog_3_method_2_code 66 = .ok (.getfield 68, 3) := by decide +kernel
theorem d_Cr_copyAll_69 : decode prog_3_method_2_code 69 = .ok (.putfield 68, 3) := by decide +kernel
theorem d_Cr_copyAll_72 : decode prog_3_method_2_code 72 = .ok (.aload_n 0, 1) := by decide +kernel
theorem d_Cr_copyAll_73 : decode prog_3_method_2_code 73 = .ok (.aload_n 1, 1) := by decide +kernel
theorem d_Cr_copyAll_74 : decode prog_3_method_2_code 74 = .ok (.invokevirtual 71, 3) := by decide +kernel
theorem d_Cr_copyAll_77 : decode prog_3_method_2_code 77 = .ok (.iconst 0, 1) := by decide +kernel
theorem d_Cr_copyAll_78 : decode prog_3_method_2_code 78 = .ok (.istore_n 2, 1) := by decide +kernel
theorem d_Cr_copyAll_79 : decode prog_3_method_2_code 79 = .ok (.iload_n 2, 1) := by decide +kernel
theorem d_Cr_copyAll_80 : decode prog_3_method_2_code 80 = .ok (.aload_n 0, 1) := by decide +kernel
theorem d_Cr_copyAll_81 : decode prog_3_method_2_code 81 = .ok (.getfield 34, 3) := by decide +kernel
theorem d_Cr_copyAll_84 : decode prog_3_method_2_code 84 = .ok (.arraylength, 1) := by decide +kernel
theorem d_Cr_copyAll_85 : decode prog_3_method_2_code 85 = .ok (.if_icmp .ge 30, 3) := by decide +kernel
theorem d_Cr_copyAll_88 : decode prog_3_method_2_code 88 = .ok (.iload_n 2, 1) := by decide +kernel
theorem d_Cr_copyAll_89 : decode prog_3_method_2_code 89 = .ok (.aload_n 1, 1) := by decide +kernel
theorem d_Cr_copyAll_90 : decode prog_3_method_2_code 90 = .ok (.getfield 34, 3) := by decide +kernel
theorem d_Cr_copyAll_93 : decode prog_3_method_2_code 93 = .ok (.arraylength, 1) := by decide +kernel
theorem d_Cr_copyAll_94 : decode prog_3_method_2_code 94 = .ok (.if_icmp .ge 21, 3) := by decide +kernel
theorem d_Cr_copyAll_97 : decode prog_3_method_2_code 97 = .ok (.aload_n 0, 1) := by decide +kernel
theorem d_Cr_copyAll_98 : decode prog_3_method_2_code 98 = .ok (.getfield 34, 3) := by decide +kernel
theorem d_Cr_copyAll_101 : decode prog_3_method_2_code 101 = .ok (.iload_n 2, 1) := by decide +kernel
theorem d_Cr_copyAll_102 : decode prog_3_method_2_code 102 = .ok (.aload_n 1, 1) := by decide +kernel
theorem d_Cr_copyAll_103 : decode prog_3_method_2_code 103 = .ok (.getfield 34, 3) := by decide +kernel
theorem d_Cr_copyAll_106 : decode prog_3_method_2_code 106 = .ok (.iload_n 2, 1) := by decide +kernel
theorem d_Cr_copyAll_107 : decode prog_3_method_2_code 107 = .ok (.aaload, 1) := by decide +kernel
theorem d_Cr_copyAll_108 : decode prog_3_method_2_code 108 = .ok (.aastore, 1) := by decide +kernel
theorem d_Cr_copyAll_109 : decode prog_3_method_2_code 109 = .ok (.iinc 2 1, 3) := by decide +kernel
theorem d_Cr_copyAll_112 : decode prog_3_method_2_code 112 = .ok (.goto (-33), 3) := by decide +kernel
theorem d_Cr_copyAll_115 : decode prog_3_method_2_code 115 = .ok (.aload_n 0, 1) := by decide +kernel
theorem d_Cr_copyAll_116 : decode prog_3_method_2_code 116 = .ok (.aload_n 1, 1) := by decide +kernel
theorem d_Cr_copyAll_117 : decode prog_3_method_2_code 117 = .ok (.getfield 75, 3) := by decide +kernel
theorem d_Cr_copyAll_120 : decode prog_3_method_2_code 120 = .ok (.putfield 75, 3) := by decide +kernel
theorem d_Cr_copyAll_123 : decode prog_3_method_2_code 123 = .ok (.aload_n 0, 1) := by decide +kernel
theorem d_Cr_copyAll_124 : decode prog_3_method_2_code 124 = .ok (.aload_n 1, 1) := by decide +kernel
theorem d_Cr_copyAll_125 : decode prog_3_method_2_code 125 = .ok (.getfield 38, 3) := by decide +kernel
theorem d_Cr_copyAll_128 : decode prog_3_method_2_code 128 = .ok (.putfield 38, 3) := by decide +kernel
theorem d_Cr_copyAll_131 : decode prog_3_method_2_code 131 = .ok (.aload_n 0, 1) := by decide +kernel
theorem d_Cr_copyAll_132 : decode prog_3_method_2_code 132 = .ok (.aload_n 1, 1) := by decide +kernel
theorem d_Cr_copyAll_133 : decode prog_3_method_2_code 133 = .ok (.invokevirtual 78, 3) := by decide +kernel
theorem d_Cr_copyAll_136 : decode prog_3_method_2_code 136 = .ok (.return_, 1) := by decide +kernel
theorem d_Cr_copyPeople_0 : decode prog_3_method_4_code 0 = .ok (.aload_n 1, 1) := by decide +kernel
theorem d_Cr_copyPeople_1 : decode prog_3_method_4_code 1 = .ok (.getfield 18, 3) := by decide +kernel
theorem d_Cr_copyPeople_4 : decode prog_3_method_4_code 4 = .ok (.iconst 0, 1) := by decide +kernel
theorem d_Cr_copyPeople_5 : decode prog_3_method_4_code 5 = .ok (.aload_n 0, 1) := by decide +kernel
theorem d_Cr_copyPeople_6 : decode prog_3_method_4_code 6 = .ok (.getfield 18, 3) := by decide +kernel
theorem d_Cr_copyPeople_9 : decode prog_3_method_4_code 9 = .ok (.iconst 0, 1) := by decide +kernel
theorem d_Cr_copyPeople_10 : decode prog_3_method_4_code 10 = .ok (.aload_n 0, 1) := by decide +kernel
theorem d_Cr_copyPeople_11 : decode prog_3_method_4_code 11 = .ok (.getfield 18, 3) := by decide +kernel
theorem d_Cr_copyPeople_14 : decode prog_3_method_4_code 14 = .ok (.arraylength, 1) := by decide +kernel
theorem d_Cr_copyPeople_15 : decode prog_3_method_4_code 15 = .ok (.invokestatic 81, 3) := by decide +kernel
theorem d_Cr_copyPeople_18 : decode prog_3_method_4_code 18 = .ok (.aload_n 1, 1) := by decide +kernel
theorem d_Cr_copyPeople_19 : decode prog_3_method_4_code 19 = .ok (.getfield 22, 3) := by decide +kernel
theorem d_Cr_copyPeople_22 : decode prog_3_method_4_code 22 = .ok (.iconst 0, 1) := by decide +kernel
theorem d_Cr_copyPeople_23 : decode prog_3_method_4_code 23 = .ok (.aload_n 0, 1) := by decide +kernel
theorem d_Cr_copyPeople_24 : decode prog_3_method_4_code 24 = .ok (.getfield 22, 3) := by decide +kernel
theorem d_Cr_copyPeople_27 : decode prog_3_method_4_code 27 = .ok (.iconst 0, 1) := by decide +kernel
theorem d_Cr_copyPeople_28 : decode prog_3_method_4_code 28 = .ok (.aload_n 0, 1) := by decide +kernel
theorem d_Cr_copyPeople_29 : decode prog_3_method_4_code 29 = .ok (.getfield 22, 3) := by decide +kernel
theorem d_Cr_copyPeople_32 : decode prog_3_method_4_code 32 = .ok (.arraylength, 1) := by decide +kernel
theorem d_Cr_copyPeople_33 : decode prog_3_method_4_code 33 = .ok (.invokestatic 81, 3) := by decide +kernel
theorem d_Cr_copyPeople_36 : decode prog_3_method_4_code 36 = .ok (.aload_n 1, 1) := by decide +kernel
theorem d_Cr_copyPeople_37 : decode prog_3_method_4_code 37 = .ok (.getfield 25, 3) := by decide +kernel
theorem d_Cr_copyPeople_40 : decode prog_3_method_4_code 40 = .ok (.iconst 0, 1) := by decide +kernel
theorem d_Cr_copyPeople_41 : decode prog_3_method_4_code 41 = .ok (.aload_n 0, 1) := by decide +kernel
theorem d_Cr_copyPeople_42 : decode prog_3_method_4_code 42 = .ok (.getfield 25, 3) := by decide +kernel
theorem d_Cr_copyPeople_45 : decode prog_3_method_4_code 45 = .ok (.iconst 0, 1) := by decide +kernel
theorem d_Cr_copyPeople_46 : decode prog_3_method_4_code 46 = .ok (.aload_n 0, 1) := by decide +kernel
theorem d_Cr_copyPeople_47 : decode prog_3_method_4_code 47 = .ok (.getfield 25, 3) := by decide +kernel
theorem d_Cr_copyPeople_50 : decode prog_3_method_4_code 50 = .ok (.arraylength, 1) := by decide +kernel
theorem d_Cr_copyPeople_51 : decode prog_3_method_4_code 51 = .ok (.invokestatic 81, 3) := by decide +kernel
theorem d_Cr_copyPeople_54 : decode prog_3_method_4_code 54 = .ok (.return_, 1) := by decide +kernel
theorem d_Cr_copyTold_0 : decode prog_3_method_5_code 0 = .ok (.aload_n 1, 1) := by decide +kernel
theorem d_Cr_copyTold_1 : decode prog_3_method_5_code 1 = .ok (.getfield 42, 3) := by decide +kernel
theorem d_Cr_copyTold_4 : decode prog_3_method_5_code 4 = .ok (.iconst 0, 1) := by decide +kernel
theorem d_Cr_copyTold_5 : decode prog_3_method_5_code 5 = .ok (.aload_n 0, 1) := by decide +kernel
theorem d_Cr_copyTold_6 : decode prog_3_method_5_code 6 = .ok (.getfield 42, 3) := by decide +kernel
theorem d_Cr_copyTold_9 : decode prog_3_method_5_code 9 = .ok (.iconst 0, 1) := by decide +kernel
theorem d_Cr_copyTold_10 : decode prog_3_method_5_code 10 = .ok (.aload_n 0, 1) := by decide +kernel
theorem d_Cr_copyTold_11 : decode prog_3_method_5_code 11 = .ok (.getfield 42, 3) := by decide +kernel
theorem d_Cr_copyTold_14 : decode prog_3_method_5_code 14 = .ok (.arraylength, 1) := by decide +kernel
theorem d_Cr_copyTold_15 : decode prog_3_method_5_code 15 = .ok (.invokestatic 81, 3) := by decide +kernel
theorem d_Cr_copyTold_18 : decode prog_3_method_5_code 18 = .ok (.aload_n 1, 1) := by decide +kernel
theorem d_Cr_copyTold_19 : decode prog_3_method_5_code 19 = .ok (.getfield 45, 3) := by decide +kernel
theorem d_Cr_copyTold_22 : decode prog_3_method_5_code 22 = .ok (.iconst 0, 1) := by decide +kernel
theorem d_Cr_copyTold_23 : decode prog_3_method_5_code 23 = .ok (.aload_n 0, 1) := by decide +kernel
theorem d_Cr_copyTold_24 : decode prog_3_method_5_code 24 = .ok (.getfield 45, 3) := by decide +kernel
theorem d_Cr_copyTold_27 : decode prog_3_method_5_code 27 = .ok (.iconst 0, 1) := by decide +kernel
theorem d_Cr_copyTold_28 : decode prog_3_method_5_code 28 = .ok (.aload_n 0, 1) := by decide +kernel
theorem d_Cr_copyTold_29 : decode prog_3_method_5_code 29 = .ok (.getfield 45, 3) := by decide +kernel
theorem d_Cr_copyTold_32 : decode prog_3_method_5_code 32 = .ok (.arraylength, 1) := by decide +kernel
theorem d_Cr_copyTold_33 : decode prog_3_method_5_code 33 = .ok (.invokestatic 81, 3) := by decide +kernel
theorem d_Cr_copyTold_36 : decode prog_3_method_5_code 36 = .ok (.aload_n 0, 1) := by decide +kernel
theorem d_Cr_copyTold_37 : decode prog_3_method_5_code 37 = .ok (.aload_n 1, 1) := by decide +kernel
theorem d_Cr_copyTold_38 : decode prog_3_method_5_code 38 = .ok (.getfield 87, 3) := by decide +kernel
theorem d_Cr_copyTold_41 : decode prog_3_method_5_code 41 = .ok (.putfield 87, 3) := by decide +kernel
theorem d_Cr_copyTold_44 : decode prog_3_method_5_code 44 = .ok (.aload_n 1, 1) := by decide +kernel
theorem d_Cr_copyTold_45 : decode prog_3_method_5_code 45 = .ok (.getfield 48, 3) := by decide +kernel
theorem d_Cr_copyTold_48 : decode prog_3_method_5_code 48 = .ok (.iconst 0, 1) := by decide +kernel
theorem d_Cr_copyTold_49 : decode prog_3_method_5_code 49 = .ok (.aload_n 0, 1) := by decide +kernel
theorem d_Cr_copyTold_50 : decode prog_3_method_5_code 50 = .ok (.getfield 48, 3) := by decide +kernel
theorem d_Cr_copyTold_53 : decode prog_3_method_5_code 53 = .ok (.iconst 0, 1) := by decide +kernel
theorem d_Cr_copyTold_54 : decode prog_3_method_5_code 54 = .ok (.aload_n 0, 1) := by decide +kernel
theorem d_Cr_copyTold_55 : decode prog_3_method_5_code 55 = .ok (.getfield 48, 3) := by decide +kernel
theorem d_Cr_copyTold_58 : decode prog_3_method_5_code 58 = .ok (.arraylength, 1) := by decide +kernel
theorem d_Cr_copyTold_59 : decode prog_3_method_5_code 59 = .ok (.invokestatic 81, 3) := by decide +kernel
theorem d_Cr_copyTold_62 : decode prog_3_method_5_code 62 = .ok (.aload_n 1, 1) := by decide +kernel
theorem d_Cr_copyTold_63 : decode prog_3_method_5_code 63 = .ok (.getfield 51, 3) := by decide +kernel
theorem d_Cr_copyTold_66 : decode prog_3_method_5_code 66 = .ok (.iconst 0, 1) := by decide +kernel
theorem d_Cr_copyTold_67 : decode prog_3_method_5_code 67 = .ok (.aload_n 0, 1) := by decide +kernel
theorem d_Cr_copyTold_68 : decode prog_3_method_5_code 68 = .ok (.getfield 51, 3) := by decide +kernel
theorem d_Cr_copyTold_71 : decode prog_3_method_5_code 71 = .ok (.iconst 0, 1) := by decide +kernel
theorem d_Cr_copyTold_72 : decode prog_3_method_5_code 72 = .ok (.aload_n 0, 1) := by decide +kernel
theorem d_Cr_copyTold_73 : decode prog_3_method_5_code 73 = .ok (.getfield 51, 3) := by decide +kernel
theorem d_Cr_copyTold_76 : decode prog_3_method_5_code 76 = .ok (.arraylength, 1) := by decide +kernel
theorem d_Cr_copyTold_77 : decode prog_3_method_5_code 77 = .ok (.invokestatic 81, 3) := by decide +kernel
theorem d_Cr_copyTold_80 : decode prog_3_method_5_code 80 = .ok (.aload_n 0, 1) := by decide +kernel
theorem d_Cr_copyTold_81 : decode prog_3_method_5_code 81 = .ok (.aload_n 1, 1) := by decide +kernel
theorem d_Cr_copyTold_82 : decode prog_3_method_5_code 82 = .ok (.getfield 90, 3) := by decide +kernel
theorem d_Cr_copyTold_85 : decode prog_3_method_5_code 85 = .ok (.putfield 90, 3) := by decide +kernel
theorem d_Cr_copyTold_88 : decode prog_3_method_5_code 88 = .ok (.aload_n 1, 1) := by decide +kernel
theorem d_Cr_copyTold_89 : decode prog_3_method_5_code 89 = .ok (.getfield 54, 3) := by decide +kernel
theorem d_Cr_copyTold_92 : decode prog_3_method_5_code 92 = .ok (.iconst 0, 1) := by decide +kernel
theorem d_Cr_copyTold_93 : decode prog_3_method_5_code 93 = .ok (.aload_n 0, 1) := by decide +kernel
theorem d_Cr_copyTold_94 : decode prog_3_method_5_code 94 = .ok (.getfield 54, 3) := by decide +kernel
theorem d_Cr_copyTold_97 : decode prog_3_method_5_code 97 = .ok (.iconst 0, 1) := by decide +kernel
theorem d_Cr_copyTold_98 : decode prog_3_method_5_code 98 = .ok (.aload_n 0, 1) := by decide +kernel
theorem d_Cr_copyTold_99 : decode prog_3_method_5_code 99 = .ok (.getfield 54, 3) := by decide +kernel
theorem d_Cr_copyTold_102 : decode prog_3_method_5_code 102 = .ok (.arraylength, 1) := by decide +kernel
theorem d_Cr_copyTold_103 : decode prog_3_method_5_code 103 = .ok (.invokestatic 81, 3) := by decide +kernel
theorem d_Cr_copyTold_106 : decode prog_3_method_5_code 106 = .ok (.return_, 1) := by decide +kernel
