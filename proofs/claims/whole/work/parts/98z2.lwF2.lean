section LWD
variable {p : Program} {l : Launch} {e : Env} {s : State} {m : MethodId} {below : List Frame} {meth : Method} {c : Code} {bq L : Nat} {xs : Nat → Int32} {X1 X2 : WX} {G1 : Geo} {M1 M2 : Mem} {H : Heap} {locs : List Loc} {cells slots : Nat} {la : Array Slot} {pc i : Nat} {st : List Value} {QF : State → Prop} {σ : St}
theorem law_c21 (C0 : lw_At p s m meth c bq L xs) (hS : LSt s X1 X2 G1 M1 M2 H locs) (hl : LH la bq i X1 X2) (hC : SC σ G1 M1) (hM : SM σ M2) (hI : SI σ) (hi : i + 6 ≤ L) (hL : L ≤ 3072) (hc : cells + 6 ≤ 600000) (hs : slots + 1509 ≤ 7302250) (hg : G1.1 + 6 < 1000000) (KK : LK p l e s m below meth c bq X1 X2 G1.1 cells slots la QF) : W p l e room_1 s m #[Value.ref bq] below meth c H locs cells slots QF (F0 m 855 la []) := by
  have hx := C0.1
  have hb := C0.2.1
  have hsh : Sh G1 0 (0, 8) := hC.1.s (by decide) rfl
  refine lv_aload_n hx hb d_La_855 rfl (lv_at hl 2 rfl) ?_
  refine L_arg C0 hS hl 1 (by omega) hL d_La_856 d_La_857 d_La_858 rfl d_La_859 d_La_860 ?_
  refine L_arg C0 hS hl 2 (by omega) hL d_La_861 d_La_862 d_La_863 rfl d_La_864 d_La_865 ?_
  refine L_bool C0 d_La_866 d_La_869 d_La_870 d_La_873 ?_
  refine L_cls C0 hS (As := [.int (xs (i + 1)), .int (if (xs (i + 2)) = 0 then nI 0 else nI 1)]) (rest := []) (b' := 0) (bs' := 0) (cT_ends hC hI (xs (i + 1)) (if (xs (i + 2)) = 0 then nI 0 else nI 1)) d_La_874 ml_La_103 cb_TP_ends cv_TP_ends rfl hsh rfl ⟨by decide, by decide⟩ rfl (Nat.le_of_ble_eq_true rfl) rfl (Nat.le_of_ble_eq_true rfl) hl.1 ⟨by omega, by omega⟩ (fun v G' M' H' locs' hq hS2 => ?_)
  obtain ⟨rfl, r, rfl, rfl, hC2⟩ := hq
  refine lv_aload_n hx hb d_La_877 rfl (lv_at hl 1 rfl) ?_
  refine L_arg C0 hS2 hl 1 (by omega) hL d_La_878 d_La_879 d_La_880 rfl d_La_881 d_La_882 ?_
  refine L_arg C0 hS2 hl 2 (by omega) hL d_La_883 d_La_884 d_La_885 rfl d_La_886 d_La_887 ?_
  refine L_bool C0 d_La_888 d_La_891 d_La_892 d_La_895 ?_
  refine L_mod C0 hS2 hM.R (As := [.int (xs (i + 1)), .int (if (xs (i + 2)) = 0 then nI 0 else nI 1)]) (rest := [.int (ans_ends σ.cr ((xs (i + 1))) ((if (xs (i + 2)) = 0 then nI 0 else nI 1)))]) (mT_ends hM hI (xs (i + 1)) (if (xs (i + 2)) = 0 then nI 0 else nI 1)) (qI (fun _ _ z => z.2.R)) d_La_896 ml_La_107 cb_TM_ends cv_TM_ends rfl rfl ⟨by decide, by decide⟩ rfl (Nat.le_of_ble_eq_true rfl) rfl rfl (Nat.le_of_ble_eq_true rfl) hl.1 ⟨by omega, by omega⟩ (fun v M' H' locs' hq hS3 => ?_)
  obtain ⟨-, r, rfl, rfl, hM2⟩ := hq
  refine lv_icmp_eq hx hb d_La_899 (tgt := 2005) rfl (fun _ => ?_) (fun z => absurd rfl z)
  exact KK _ _ _ _ _ _ _ _ (by omega) (by omega) (by omega) hS3 hC2 hM2 (hI)
theorem law_c22 (C0 : lw_At p s m meth c bq L xs) (hS : LSt s X1 X2 G1 M1 M2 H locs) (hl : LH la bq i X1 X2) (hC : SC σ G1 M1) (hM : SM σ M2) (hI : SI σ) (hi : i + 6 ≤ L) (hL : L ≤ 3072) (hc : cells + 6 ≤ 600000) (hs : slots + 1509 ≤ 7302250) (hg : G1.1 + 6 < 1000000) (KK : LK p l e s m below meth c bq X1 X2 G1.1 cells slots la QF) : W p l e room_1 s m #[Value.ref bq] below meth c H locs cells slots QF (F0 m 904 la []) := by
  have hx := C0.1
  have hb := C0.2.1
  have hsh : Sh G1 0 (0, 8) := hC.1.s (by decide) rfl
  refine lv_aload_n hx hb d_La_904 rfl (lv_at hl 2 rfl) ?_
  refine L_arg C0 hS hl 1 (by omega) hL d_La_905 d_La_906 d_La_907 rfl d_La_908 d_La_909 ?_
  refine L_cls C0 hS (As := [.int (xs (i + 1))]) (rest := []) (b' := 0) (bs' := 0) (cT_till hC hI (xs (i + 1))) d_La_910 ml_La_108 cb_TP_till cv_TP_till rfl hsh rfl ⟨by decide, by decide⟩ rfl (Nat.le_of_ble_eq_true rfl) rfl (Nat.le_of_ble_eq_true rfl) hl.1 ⟨by omega, by omega⟩ (fun v G' M' H' locs' hq hS2 => ?_)
  obtain ⟨rfl, r, rfl, rfl, hC2⟩ := hq
  refine lv_aload_n hx hb d_La_913 rfl (lv_at hl 1 rfl) ?_
  refine L_arg C0 hS2 hl 1 (by omega) hL d_La_914 d_La_915 d_La_916 rfl d_La_917 d_La_918 ?_
  refine L_mod C0 hS2 hM.R (As := [.int (xs (i + 1))]) (rest := [.int (ans_till σ.cr ((xs (i + 1))))]) (mT_till hM hI (xs (i + 1))) (qI (fun _ _ z => z.2.R)) d_La_919 ml_La_111 cb_TM_till cv_TM_till rfl rfl ⟨by decide, by decide⟩ rfl (Nat.le_of_ble_eq_true rfl) rfl rfl (Nat.le_of_ble_eq_true rfl) hl.1 ⟨by omega, by omega⟩ (fun v M' H' locs' hq hS3 => ?_)
  obtain ⟨-, r, rfl, rfl, hM2⟩ := hq
  refine lv_icmp_eq hx hb d_La_922 (tgt := 2005) rfl (fun _ => ?_) (fun z => absurd rfl z)
  exact KK _ _ _ _ _ _ _ _ (by omega) (by omega) (by omega) hS3 hC2 hM2 (hI)
theorem law_c23 (C0 : lw_At p s m meth c bq L xs) (hS : LSt s X1 X2 G1 M1 M2 H locs) (hl : LH la bq i X1 X2) (hC : SC σ G1 M1) (hM : SM σ M2) (hI : SI σ) (hi : i + 6 ≤ L) (hL : L ≤ 3072) (hc : cells + 6 ≤ 600000) (hs : slots + 1509 ≤ 7302250) (hg : G1.1 + 6 < 1000000) (KK : LK p l e s m below meth c bq X1 X2 G1.1 cells slots la QF) : W p l e room_1 s m #[Value.ref bq] below meth c H locs cells slots QF (F0 m 927 la []) := by
  have hx := C0.1
  have hb := C0.2.1
  have hsh : Sh G1 0 (0, 8) := hC.1.s (by decide) rfl
  refine lv_aload_n hx hb d_La_927 rfl (lv_at hl 2 rfl) ?_
  refine L_arg C0 hS hl 1 (by omega) hL d_La_928 d_La_929 d_La_930 rfl d_La_931 d_La_932 ?_
  refine L_cls C0 hS (As := [.int (xs (i + 1))]) (rest := []) (b' := 0) (bs' := 0) (cT_leads hC hI (xs (i + 1))) d_La_933 ml_La_112 cb_TP_leads cv_TP_leads rfl hsh rfl ⟨by decide, by decide⟩ rfl (Nat.le_of_ble_eq_true rfl) rfl (Nat.le_of_ble_eq_true rfl) hl.1 ⟨by omega, by omega⟩ (fun v G' M' H' locs' hq hS2 => ?_)
  obtain ⟨rfl, r, rfl, rfl, hC2⟩ := hq
  refine lv_aload_n hx hb d_La_936 rfl (lv_at hl 1 rfl) ?_
  refine L_arg C0 hS2 hl 1 (by omega) hL d_La_937 d_La_938 d_La_939 rfl d_La_940 d_La_941 ?_
  refine L_mod C0 hS2 hM.R (As := [.int (xs (i + 1))]) (rest := [.int (ans_leads σ.cr ((xs (i + 1))))]) (mT_leads hM hI (xs (i + 1))) (qI (fun _ _ z => z.2.R)) d_La_942 ml_La_115 cb_TM_leads cv_TM_leads rfl rfl ⟨by decide, by decide⟩ rfl (Nat.le_of_ble_eq_true rfl) rfl rfl (Nat.le_of_ble_eq_true rfl) hl.1 ⟨by omega, by omega⟩ (fun v M' H' locs' hq hS3 => ?_)
  obtain ⟨-, r, rfl, rfl, hM2⟩ := hq
  refine lv_icmp_eq hx hb d_La_945 (tgt := 2005) rfl (fun _ => ?_) (fun z => absurd rfl z)
  exact KK _ _ _ _ _ _ _ _ (by omega) (by omega) (by omega) hS3 hC2 hM2 (hI)
theorem law_c24 (C0 : lw_At p s m meth c bq L xs) (hS : LSt s X1 X2 G1 M1 M2 H locs) (hl : LH la bq i X1 X2) (hC : SC σ G1 M1) (hM : SM σ M2) (hI : SI σ) (hi : i + 6 ≤ L) (hL : L ≤ 3072) (hc : cells + 6 ≤ 600000) (hs : slots + 1509 ≤ 7302250) (hg : G1.1 + 6 < 1000000) (KK : LK p l e s m below meth c bq X1 X2 G1.1 cells slots la QF) : W p l e room_1 s m #[Value.ref bq] below meth c H locs cells slots QF (F0 m 950 la []) := by
  have hx := C0.1
  have hb := C0.2.1
  have hsh : Sh G1 0 (0, 8) := hC.1.s (by decide) rfl
  refine lv_aload_n hx hb d_La_950 rfl (lv_at hl 2 rfl) ?_
  refine L_cls C0 hS (As := []) (rest := []) (b' := 0) (bs' := 0) (cT_rings hC hI ) d_La_951 ml_La_116 cb_TP_rings cv_TP_rings rfl hsh rfl ⟨by decide, by decide⟩ rfl (Nat.le_of_ble_eq_true rfl) rfl (Nat.le_of_ble_eq_true rfl) hl.1 ⟨by omega, by omega⟩ (fun v G' M' H' locs' hq hS2 => ?_)
  obtain ⟨rfl, r, rfl, rfl, hC2⟩ := hq
  refine lv_aload_n hx hb d_La_954 rfl (lv_at hl 1 rfl) ?_
  refine L_mod C0 hS2 hM.R (As := []) (rest := [.int (ans_rings σ.cr)]) (mT_rings hM hI ) (qI (fun _ _ z => z.2.R)) d_La_955 ml_La_119 cb_TM_rings cv_TM_rings rfl rfl ⟨by decide, by decide⟩ rfl (Nat.le_of_ble_eq_true rfl) rfl rfl (Nat.le_of_ble_eq_true rfl) hl.1 ⟨by omega, by omega⟩ (fun v M' H' locs' hq hS3 => ?_)
  obtain ⟨-, r, rfl, rfl, hM2⟩ := hq
  refine lv_icmp_eq hx hb d_La_958 (tgt := 2005) rfl (fun _ => ?_) (fun z => absurd rfl z)
  exact KK _ _ _ _ _ _ _ _ (by omega) (by omega) (by omega) hS3 hC2 hM2 (hI)
theorem law_c25 (C0 : lw_At p s m meth c bq L xs) (hS : LSt s X1 X2 G1 M1 M2 H locs) (hl : LH la bq i X1 X2) (hC : SC σ G1 M1) (hM : SM σ M2) (hI : SI σ) (hi : i + 6 ≤ L) (hL : L ≤ 3072) (hc : cells + 6 ≤ 600000) (hs : slots + 1509 ≤ 7302250) (hg : G1.1 + 6 < 1000000) (KK : LK p l e s m below meth c bq X1 X2 G1.1 cells slots la QF) : W p l e room_1 s m #[Value.ref bq] below meth c H locs cells slots QF (F0 m 963 la []) := by
  have hx := C0.1
  have hb := C0.2.1
  have hsh : Sh G1 0 (0, 8) := hC.1.s (by decide) rfl
  refine lv_aload_n hx hb d_La_963 rfl (lv_at hl 2 rfl) ?_
  refine L_cls C0 hS (As := []) (rest := []) (b' := 0) (bs' := 0) (cT_nearest hC hI ) d_La_964 ml_La_120 cb_TP_nearest cv_TP_nearest rfl hsh rfl ⟨by decide, by decide⟩ rfl (Nat.le_of_ble_eq_true rfl) rfl (Nat.le_of_ble_eq_true rfl) hl.1 ⟨by omega, by omega⟩ (fun v G' M' H' locs' hq hS2 => ?_)
  obtain ⟨rfl, r, rfl, rfl, hC2⟩ := hq
  refine lv_aload_n hx hb d_La_967 rfl (lv_at hl 1 rfl) ?_
  refine L_mod C0 hS2 hM.R (As := []) (rest := [.int (ans_nearest σ.cr)]) (mT_nearest hM hI ) (qI (fun _ _ z => z.2.R)) d_La_968 ml_La_123 cb_TM_nearest cv_TM_nearest rfl rfl ⟨by decide, by decide⟩ rfl (Nat.le_of_ble_eq_true rfl) rfl rfl (Nat.le_of_ble_eq_true rfl) hl.1 ⟨by omega, by omega⟩ (fun v M' H' locs' hq hS3 => ?_)
  obtain ⟨-, r, rfl, rfl, hM2⟩ := hq
  refine lv_icmp_eq hx hb d_La_971 (tgt := 2005) rfl (fun _ => ?_) (fun z => absurd rfl z)
  exact KK _ _ _ _ _ _ _ _ (by omega) (by omega) (by omega) hS3 hC2 hM2 (hI)
theorem law_c26 (C0 : lw_At p s m meth c bq L xs) (hS : LSt s X1 X2 G1 M1 M2 H locs) (hl : LH la bq i X1 X2) (hC : SC σ G1 M1) (hM : SM σ M2) (hI : SI σ) (hi : i + 6 ≤ L) (hL : L ≤ 3072) (hc : cells + 6 ≤ 600000) (hs : slots + 1509 ≤ 7302250) (hg : G1.1 + 6 < 1000000) (KK : LK p l e s m below meth c bq X1 X2 G1.1 cells slots la QF) : W p l e room_1 s m #[Value.ref bq] below meth c H locs cells slots QF (F0 m 976 la []) := by
  have hx := C0.1
  have hb := C0.2.1
  have hsh : Sh G1 0 (0, 8) := hC.1.s (by decide) rfl
  refine lv_aload_n hx hb d_La_976 rfl (lv_at hl 2 rfl) ?_
  refine L_arg C0 hS hl 1 (by omega) hL d_La_977 d_La_978 d_La_979 rfl d_La_980 d_La_981 ?_
  refine L_arg C0 hS hl 2 (by omega) hL d_La_982 d_La_983 d_La_984 rfl d_La_985 d_La_986 ?_
  refine L_arg C0 hS hl 3 (by omega) hL d_La_987 d_La_988 d_La_989 rfl d_La_990 d_La_991 ?_
  refine L_cls C0 hS (As := [.int (xs (i + 1)), .int (xs (i + 2)), .int (xs (i + 3))]) (rest := []) (b' := 0) (bs' := 0) (cT_path hC hI (xs (i + 1)) (xs (i + 2)) (xs (i + 3))) d_La_992 ml_La_124 cb_TP_path cv_TP_path rfl hsh rfl ⟨by decide, by decide⟩ rfl (Nat.le_of_ble_eq_true rfl) rfl (Nat.le_of_ble_eq_true rfl) hl.1 ⟨by omega, by omega⟩ (fun v G' M' H' locs' hq hS2 => ?_)
  obtain ⟨rfl, r, rfl, rfl, hC2⟩ := hq
  refine lv_aload_n hx hb d_La_995 rfl (lv_at hl 1 rfl) ?_
  refine L_arg C0 hS2 hl 1 (by omega) hL d_La_996 d_La_997 d_La_998 rfl d_La_999 d_La_1000 ?_
  refine L_arg C0 hS2 hl 2 (by omega) hL d_La_1001 d_La_1002 d_La_1003 rfl d_La_1004 d_La_1005 ?_
  refine L_arg C0 hS2 hl 3 (by omega) hL d_La_1006 d_La_1007 d_La_1008 rfl d_La_1009 d_La_1010 ?_
  refine L_mod C0 hS2 hM.R (As := [.int (xs (i + 1)), .int (xs (i + 2)), .int (xs (i + 3))]) (rest := [.int (ans_path σ.cr ((xs (i + 1))) ((xs (i + 2))) ((xs (i + 3))))]) (mT_path hM hI (xs (i + 1)) (xs (i + 2)) (xs (i + 3))) (qI (fun _ _ z => z.2.R)) d_La_1011 ml_La_128 cb_TM_path cv_TM_path rfl rfl ⟨by decide, by decide⟩ rfl (Nat.le_of_ble_eq_true rfl) rfl rfl (Nat.le_of_ble_eq_true rfl) hl.1 ⟨by omega, by omega⟩ (fun v M' H' locs' hq hS3 => ?_)
  obtain ⟨-, r, rfl, rfl, hM2⟩ := hq
  refine lv_icmp_eq hx hb d_La_1014 (tgt := 2005) rfl (fun _ => ?_) (fun z => absurd rfl z)
  exact KK _ _ _ _ _ _ _ _ (by omega) (by omega) (by omega) hS3 hC2 hM2 (hI)
theorem law_c27 (C0 : lw_At p s m meth c bq L xs) (hS : LSt s X1 X2 G1 M1 M2 H locs) (hl : LH la bq i X1 X2) (hC : SC σ G1 M1) (hM : SM σ M2) (hI : SI σ) (hi : i + 6 ≤ L) (hL : L ≤ 3072) (hc : cells + 6 ≤ 600000) (hs : slots + 1509 ≤ 7302250) (hg : G1.1 + 6 < 1000000) (KK : LK p l e s m below meth c bq X1 X2 G1.1 cells slots la QF) : W p l e room_1 s m #[Value.ref bq] below meth c H locs cells slots QF (F0 m 1019 la []) := by
  have hx := C0.1
  have hb := C0.2.1
  have hsh : Sh G1 0 (0, 8) := hC.1.s (by decide) rfl
  refine lv_aload_n hx hb d_La_1019 rfl (lv_at hl 2 rfl) ?_
  refine L_arg C0 hS hl 1 (by omega) hL d_La_1020 d_La_1021 d_La_1022 rfl d_La_1023 d_La_1024 ?_
  refine L_arg C0 hS hl 2 (by omega) hL d_La_1025 d_La_1026 d_La_1027 rfl d_La_1028 d_La_1029 ?_
  refine L_bool C0 d_La_1030 d_La_1033 d_La_1034 d_La_1037 ?_
  refine L_cls C0 hS (As := [.int (xs (i + 1)), .int (if (xs (i + 2)) = 0 then nI 0 else nI 1)]) (rest := []) (b' := 0) (bs' := 0) (cT_win hC hI (xs (i + 1)) (if (xs (i + 2)) = 0 then nI 0 else nI 1)) d_La_1038 ml_La_129 cb_TP_win cv_TP_win rfl hsh rfl ⟨by decide, by decide⟩ rfl (Nat.le_of_ble_eq_true rfl) rfl (Nat.le_of_ble_eq_true rfl) hl.1 ⟨by omega, by omega⟩ (fun v G' M' H' locs' hq hS2 => ?_)
  obtain ⟨rfl, r, rfl, rfl, hC2⟩ := hq
  refine lv_aload_n hx hb d_La_1041 rfl (lv_at hl 1 rfl) ?_
  refine L_arg C0 hS2 hl 1 (by omega) hL d_La_1042 d_La_1043 d_La_1044 rfl d_La_1045 d_La_1046 ?_
  refine L_arg C0 hS2 hl 2 (by omega) hL d_La_1047 d_La_1048 d_La_1049 rfl d_La_1050 d_La_1051 ?_
  refine L_bool C0 d_La_1052 d_La_1055 d_La_1056 d_La_1059 ?_
  refine L_mod C0 hS2 hM.R (As := [.int (xs (i + 1)), .int (if (xs (i + 2)) = 0 then nI 0 else nI 1)]) (rest := [.int (ans_win σ.cr ((xs (i + 1))) ((if (xs (i + 2)) = 0 then nI 0 else nI 1)))]) (mT_win hM hI (xs (i + 1)) (if (xs (i + 2)) = 0 then nI 0 else nI 1)) (qI (fun _ _ z => z.2.R)) d_La_1060 ml_La_132 cb_TM_win cv_TM_win rfl rfl ⟨by decide, by decide⟩ rfl (Nat.le_of_ble_eq_true rfl) rfl rfl (Nat.le_of_ble_eq_true rfl) hl.1 ⟨by omega, by omega⟩ (fun v M' H' locs' hq hS3 => ?_)
  obtain ⟨-, r, rfl, rfl, hM2⟩ := hq
  refine lv_icmp_eq hx hb d_La_1063 (tgt := 2005) rfl (fun _ => ?_) (fun z => absurd rfl z)
  exact KK _ _ _ _ _ _ _ _ (by omega) (by omega) (by omega) hS3 hC2 hM2 (hI)
theorem law_c28 (C0 : lw_At p s m meth c bq L xs) (hS : LSt s X1 X2 G1 M1 M2 H locs) (hl : LH la bq i X1 X2) (hC : SC σ G1 M1) (hM : SM σ M2) (hI : SI σ) (hi : i + 6 ≤ L) (hL : L ≤ 3072) (hc : cells + 6 ≤ 600000) (hs : slots + 1509 ≤ 7302250) (hg : G1.1 + 6 < 1000000) (KK : LK p l e s m below meth c bq X1 X2 G1.1 cells slots la QF) : W p l e room_1 s m #[Value.ref bq] below meth c H locs cells slots QF (F0 m 1068 la []) := by
  have hx := C0.1
  have hb := C0.2.1
  have hsh : Sh G1 0 (0, 8) := hC.1.s (by decide) rfl
  refine lv_aload_n hx hb d_La_1068 rfl (lv_at hl 2 rfl) ?_
  refine L_arg C0 hS hl 1 (by omega) hL d_La_1069 d_La_1070 d_La_1071 rfl d_La_1072 d_La_1073 ?_
  refine L_arg C0 hS hl 2 (by omega) hL d_La_1074 d_La_1075 d_La_1076 rfl d_La_1077 d_La_1078 ?_
  refine L_arg C0 hS hl 3 (by omega) hL d_La_1079 d_La_1080 d_La_1081 rfl d_La_1082 d_La_1083 ?_
  refine L_cls C0 hS (As := [.int (xs (i + 1)), .int (xs (i + 2)), .int (xs (i + 3))]) (rest := []) (b' := 0) (bs' := 0) (cT_two hC hI (xs (i + 1)) (xs (i + 2)) (xs (i + 3))) d_La_1084 ml_La_133 cb_TP_two cv_TP_two rfl hsh rfl ⟨by decide, by decide⟩ rfl (Nat.le_of_ble_eq_true rfl) rfl (Nat.le_of_ble_eq_true rfl) hl.1 ⟨by omega, by omega⟩ (fun v G' M' H' locs' hq hS2 => ?_)
  obtain ⟨rfl, r, rfl, rfl, hC2⟩ := hq
  refine lv_aload_n hx hb d_La_1087 rfl (lv_at hl 1 rfl) ?_
  refine L_arg C0 hS2 hl 1 (by omega) hL d_La_1088 d_La_1089 d_La_1090 rfl d_La_1091 d_La_1092 ?_
  refine L_arg C0 hS2 hl 2 (by omega) hL d_La_1093 d_La_1094 d_La_1095 rfl d_La_1096 d_La_1097 ?_
  refine L_arg C0 hS2 hl 3 (by omega) hL d_La_1098 d_La_1099 d_La_1100 rfl d_La_1101 d_La_1102 ?_
  refine L_mod C0 hS2 hM.R (As := [.int (xs (i + 1)), .int (xs (i + 2)), .int (xs (i + 3))]) (rest := [.int (ans_two σ.cr ((xs (i + 1))) ((xs (i + 2))) ((xs (i + 3))))]) (mT_two hM hI (xs (i + 1)) (xs (i + 2)) (xs (i + 3))) (qI (fun _ _ z => z.2.R)) d_La_1103 ml_La_136 cb_TM_two cv_TM_two rfl rfl ⟨by decide, by decide⟩ rfl (Nat.le_of_ble_eq_true rfl) rfl rfl (Nat.le_of_ble_eq_true rfl) hl.1 ⟨by omega, by omega⟩ (fun v M' H' locs' hq hS3 => ?_)
  obtain ⟨-, r, rfl, rfl, hM2⟩ := hq
  refine lv_icmp_eq hx hb d_La_1106 (tgt := 2005) rfl (fun _ => ?_) (fun z => absurd rfl z)
  exact KK _ _ _ _ _ _ _ _ (by omega) (by omega) (by omega) hS3 hC2 hM2 (hI)
theorem law_c29 (C0 : lw_At p s m meth c bq L xs) (hS : LSt s X1 X2 G1 M1 M2 H locs) (hl : LH la bq i X1 X2) (hC : SC σ G1 M1) (hM : SM σ M2) (hI : SI σ) (hi : i + 6 ≤ L) (hL : L ≤ 3072) (hc : cells + 6 ≤ 600000) (hs : slots + 1509 ≤ 7302250) (hg : G1.1 + 6 < 1000000) (KK : LK p l e s m below meth c bq X1 X2 G1.1 cells slots la QF) : W p l e room_1 s m #[Value.ref bq] below meth c H locs cells slots QF (F0 m 1111 la []) := by
  have hx := C0.1
  have hb := C0.2.1
  have hsh : Sh G1 0 (0, 8) := hC.1.s (by decide) rfl
  refine lv_aload_n hx hb d_La_1111 rfl (lv_at hl 2 rfl) ?_
  refine L_arg C0 hS hl 1 (by omega) hL d_La_1112 d_La_1113 d_La_1114 rfl d_La_1115 d_La_1116 ?_
  refine L_arg C0 hS hl 2 (by omega) hL d_La_1117 d_La_1118 d_La_1119 rfl d_La_1120 d_La_1121 ?_
  refine L_cls C0 hS (As := [.int (xs (i + 1)), .int (xs (i + 2))]) (rest := []) (b' := 0) (bs' := 0) (cT_split hC hI (xs (i + 1)) (xs (i + 2))) d_La_1122 ml_La_137 cb_TP_split cv_TP_split rfl hsh rfl ⟨by decide, by decide⟩ rfl (Nat.le_of_ble_eq_true rfl) rfl (Nat.le_of_ble_eq_true rfl) hl.1 ⟨by omega, by omega⟩ (fun v G' M' H' locs' hq hS2 => ?_)
  obtain ⟨rfl, r, rfl, rfl, hC2⟩ := hq
  refine lv_aload_n hx hb d_La_1125 rfl (lv_at hl 1 rfl) ?_
  refine L_arg C0 hS2 hl 1 (by omega) hL d_La_1126 d_La_1127 d_La_1128 rfl d_La_1129 d_La_1130 ?_
  refine L_arg C0 hS2 hl 2 (by omega) hL d_La_1131 d_La_1132 d_La_1133 rfl d_La_1134 d_La_1135 ?_
  refine L_mod C0 hS2 hM.R (As := [.int (xs (i + 1)), .int (xs (i + 2))]) (rest := [.int (ans_split σ.cr ((xs (i + 1))) ((xs (i + 2))))]) (mT_split hM hI (xs (i + 1)) (xs (i + 2))) (qI (fun _ _ z => z.2.R)) d_La_1136 ml_La_140 cb_TM_split cv_TM_split rfl rfl ⟨by decide, by decide⟩ rfl (Nat.le_of_ble_eq_true rfl) rfl rfl (Nat.le_of_ble_eq_true rfl) hl.1 ⟨by omega, by omega⟩ (fun v M' H' locs' hq hS3 => ?_)
  obtain ⟨-, r, rfl, rfl, hM2⟩ := hq
  refine lv_icmp_eq hx hb d_La_1139 (tgt := 2005) rfl (fun _ => ?_) (fun z => absurd rfl z)
  exact KK _ _ _ _ _ _ _ _ (by omega) (by omega) (by omega) hS3 hC2 hM2 (hI)
theorem law_c30 (C0 : lw_At p s m meth c bq L xs) (hS : LSt s X1 X2 G1 M1 M2 H locs) (hl : LH la bq i X1 X2) (hC : SC σ G1 M1) (hM : SM σ M2) (hI : SI σ) (hi : i + 6 ≤ L) (hL : L ≤ 3072) (hc : cells + 6 ≤ 600000) (hs : slots + 1509 ≤ 7302250) (hg : G1.1 + 6 < 1000000) (KK : LK p l e s m below meth c bq X1 X2 G1.1 cells slots la QF) : W p l e room_1 s m #[Value.ref bq] below meth c H locs cells slots QF (F0 m 1144 la []) := by
  have hx := C0.1
  have hb := C0.2.1
  have hsh : Sh G1 0 (0, 8) := hC.1.s (by decide) rfl
  refine lv_aload_n hx hb d_La_1144 rfl (lv_at hl 2 rfl) ?_
  refine L_arg C0 hS hl 1 (by omega) hL d_La_1145 d_La_1146 d_La_1147 rfl d_La_1148 d_La_1149 ?_
  refine L_arg C0 hS hl 2 (by omega) hL d_La_1150 d_La_1151 d_La_1152 rfl d_La_1153 d_La_1154 ?_
  refine L_cls C0 hS (As := [.int (xs (i + 1)), .int (xs (i + 2))]) (rest := []) (b' := 0) (bs' := 0) (cT_mind hC hI (xs (i + 1)) (xs (i + 2))) d_La_1155 ml_La_141 cb_TP_mind cv_TP_mind rfl hsh rfl ⟨by decide, by decide⟩ rfl (Nat.le_of_ble_eq_true rfl) rfl (Nat.le_of_ble_eq_true rfl) hl.1 ⟨by omega, by omega⟩ (fun v G' M' H' locs' hq hS2 => ?_)
  obtain ⟨rfl, r, rfl, rfl, hC2⟩ := hq
  refine lv_aload_n hx hb d_La_1158 rfl (lv_at hl 1 rfl) ?_
  refine L_arg C0 hS2 hl 1 (by omega) hL d_La_1159 d_La_1160 d_La_1161 rfl d_La_1162 d_La_1163 ?_
  refine L_arg C0 hS2 hl 2 (by omega) hL d_La_1164 d_La_1165 d_La_1166 rfl d_La_1167 d_La_1168 ?_
  refine L_mod C0 hS2 hM.R (As := [.int (xs (i + 1)), .int (xs (i + 2))]) (rest := [.int (ans_mind σ.cr ((xs (i + 1))) ((xs (i + 2))))]) (mT_mind hM hI (xs (i + 1)) (xs (i + 2))) (qI (fun _ _ z => z.2.R)) d_La_1169 ml_La_144 cb_TM_mind cv_TM_mind rfl rfl ⟨by decide, by decide⟩ rfl (Nat.le_of_ble_eq_true rfl) rfl rfl (Nat.le_of_ble_eq_true rfl) hl.1 ⟨by omega, by omega⟩ (fun v M' H' locs' hq hS3 => ?_)
  obtain ⟨-, r, rfl, rfl, hM2⟩ := hq
  refine lv_icmp_eq hx hb d_La_1172 (tgt := 2005) rfl (fun _ => ?_) (fun z => absurd rfl z)
  exact KK _ _ _ _ _ _ _ _ (by omega) (by omega) (by omega) hS3 hC2 hM2 (hI)
theorem law_c31 (C0 : lw_At p s m meth c bq L xs) (hS : LSt s X1 X2 G1 M1 M2 H locs) (hl : LH la bq i X1 X2) (hC : SC σ G1 M1) (hM : SM σ M2) (hI : SI σ) (hi : i + 6 ≤ L) (hL : L ≤ 3072) (hc : cells + 6 ≤ 600000) (hs : slots + 1509 ≤ 7302250) (hg : G1.1 + 6 < 1000000) (KK : LK p l e s m below meth c bq X1 X2 G1.1 cells slots la QF) : W p l e room_1 s m #[Value.ref bq] below meth c H locs cells slots QF (F0 m 1177 la []) := by
  have hx := C0.1
  have hb := C0.2.1
  have hsh : Sh G1 0 (0, 8) := hC.1.s (by decide) rfl
  refine lv_aload_n hx hb d_La_1177 rfl (lv_at hl 2 rfl) ?_
  refine L_arg C0 hS hl 1 (by omega) hL d_La_1178 d_La_1179 d_La_1180 rfl d_La_1181 d_La_1182 ?_
  refine L_bool C0 d_La_1183 d_La_1186 d_La_1187 d_La_1190 ?_
  refine L_cls C0 hS (As := [.int (if (xs (i + 1)) = 0 then nI 0 else nI 1)]) (rest := []) (b' := 0) (bs' := 0) (cT_unasked hC hI (if (xs (i + 1)) = 0 then nI 0 else nI 1)) d_La_1191 ml_La_145 cb_TP_unasked cv_TP_unasked rfl hsh rfl ⟨by decide, by decide⟩ rfl (Nat.le_of_ble_eq_true rfl) rfl (Nat.le_of_ble_eq_true rfl) hl.1 ⟨by omega, by omega⟩ (fun v G' M' H' locs' hq hS2 => ?_)
  obtain ⟨rfl, r, rfl, rfl, hC2⟩ := hq
  refine lv_aload_n hx hb d_La_1194 rfl (lv_at hl 1 rfl) ?_
  refine L_arg C0 hS2 hl 1 (by omega) hL d_La_1195 d_La_1196 d_La_1197 rfl d_La_1198 d_La_1199 ?_
  refine L_bool C0 d_La_1200 d_La_1203 d_La_1204 d_La_1207 ?_
  refine L_mod C0 hS2 hM.R (As := [.int (if (xs (i + 1)) = 0 then nI 0 else nI 1)]) (rest := [.int (ans_unasked σ.cr ((if (xs (i + 1)) = 0 then nI 0 else nI 1)))]) (mT_unasked hM hI (if (xs (i + 1)) = 0 then nI 0 else nI 1)) (qI (fun _ _ z => z.2.R)) d_La_1208 ml_La_149 cb_TM_unasked cv_TM_unasked rfl rfl ⟨by decide, by decide⟩ rfl (Nat.le_of_ble_eq_true rfl) rfl rfl (Nat.le_of_ble_eq_true rfl) hl.1 ⟨by omega, by omega⟩ (fun v M' H' locs' hq hS3 => ?_)
  obtain ⟨-, r, rfl, rfl, hM2⟩ := hq
  refine lv_icmp_eq hx hb d_La_1211 (tgt := 2005) rfl (fun _ => ?_) (fun z => absurd rfl z)
  exact KK _ _ _ _ _ _ _ _ (by omega) (by omega) (by omega) hS3 hC2 hM2 (hI)
theorem law_c32 (C0 : lw_At p s m meth c bq L xs) (hS : LSt s X1 X2 G1 M1 M2 H locs) (hl : LH la bq i X1 X2) (hC : SC σ G1 M1) (hM : SM σ M2) (hI : SI σ) (hi : i + 6 ≤ L) (hL : L ≤ 3072) (hc : cells + 6 ≤ 600000) (hs : slots + 1509 ≤ 7302250) (hg : G1.1 + 6 < 1000000) (KK : LK p l e s m below meth c bq X1 X2 G1.1 cells slots la QF) : W p l e room_1 s m #[Value.ref bq] below meth c H locs cells slots QF (F0 m 1216 la []) := by
  have hx := C0.1
  have hb := C0.2.1
  have hsh : Sh G1 0 (0, 8) := hC.1.s (by decide) rfl
  refine lv_aload_n hx hb d_La_1216 rfl (lv_at hl 2 rfl) ?_
  refine L_arg C0 hS hl 1 (by omega) hL d_La_1217 d_La_1218 d_La_1219 rfl d_La_1220 d_La_1221 ?_
  refine L_arg C0 hS hl 2 (by omega) hL d_La_1222 d_La_1223 d_La_1224 rfl d_La_1225 d_La_1226 ?_
  refine L_cls C0 hS (As := [.int (xs (i + 1)), .int (xs (i + 2))]) (rest := []) (b' := 0) (bs' := 0) (cT_alike hC hI (xs (i + 1)) (xs (i + 2))) d_La_1227 ml_La_150 cb_TP_alike cv_TP_alike rfl hsh rfl ⟨by decide, by decide⟩ rfl (Nat.le_of_ble_eq_true rfl) rfl (Nat.le_of_ble_eq_true rfl) hl.1 ⟨by omega, by omega⟩ (fun v G' M' H' locs' hq hS2 => ?_)
  obtain ⟨rfl, r, rfl, rfl, hC2⟩ := hq
  refine lv_aload_n hx hb d_La_1230 rfl (lv_at hl 1 rfl) ?_
  refine L_arg C0 hS2 hl 1 (by omega) hL d_La_1231 d_La_1232 d_La_1233 rfl d_La_1234 d_La_1235 ?_
  refine L_arg C0 hS2 hl 2 (by omega) hL d_La_1236 d_La_1237 d_La_1238 rfl d_La_1239 d_La_1240 ?_
  refine L_mod C0 hS2 hM.R (As := [.int (xs (i + 1)), .int (xs (i + 2))]) (rest := [.int (ans_alike σ.cr ((xs (i + 1))) ((xs (i + 2))))]) (mT_alike hM hI (xs (i + 1)) (xs (i + 2))) (qI (fun _ _ z => z.2.R)) d_La_1241 ml_La_153 cb_TM_alike cv_TM_alike rfl rfl ⟨by decide, by decide⟩ rfl (Nat.le_of_ble_eq_true rfl) rfl rfl (Nat.le_of_ble_eq_true rfl) hl.1 ⟨by omega, by omega⟩ (fun v M' H' locs' hq hS3 => ?_)
  obtain ⟨-, r, rfl, rfl, hM2⟩ := hq
  refine lv_icmp_eq hx hb d_La_1244 (tgt := 2005) rfl (fun _ => ?_) (fun z => absurd rfl z)
  exact KK _ _ _ _ _ _ _ _ (by omega) (by omega) (by omega) hS3 hC2 hM2 (hI)
theorem law_c33 (C0 : lw_At p s m meth c bq L xs) (hS : LSt s X1 X2 G1 M1 M2 H locs) (hl : LH la bq i X1 X2) (hC : SC σ G1 M1) (hM : SM σ M2) (hI : SI σ) (hi : i + 6 ≤ L) (hL : L ≤ 3072) (hc : cells + 6 ≤ 600000) (hs : slots + 1509 ≤ 7302250) (hg : G1.1 + 6 < 1000000) (KK : LK p l e s m below meth c bq X1 X2 G1.1 cells slots la QF) : W p l e room_1 s m #[Value.ref bq] below meth c H locs cells slots QF (F0 m 1249 la []) := by
  have hx := C0.1
  have hb := C0.2.1
  have hsh : Sh G1 0 (0, 8) := hC.1.s (by decide) rfl
  refine lv_aload_n hx hb d_La_1249 rfl (lv_at hl 2 rfl) ?_
  refine L_arg C0 hS hl 1 (by omega) hL d_La_1250 d_La_1251 d_La_1252 rfl d_La_1253 d_La_1254 ?_
  refine L_bool C0 d_La_1255 d_La_1258 d_La_1259 d_La_1262 ?_
  refine L_cls C0 hS (As := [.int (if (xs (i + 1)) = 0 then nI 0 else nI 1)]) (rest := []) (b' := 0) (bs' := 0) (cT_pair hC hI (if (xs (i + 1)) = 0 then nI 0 else nI 1)) d_La_1263 ml_La_154 cb_TP_pair cv_TP_pair rfl hsh rfl ⟨by decide, by decide⟩ rfl (Nat.le_of_ble_eq_true rfl) rfl (Nat.le_of_ble_eq_true rfl) hl.1 ⟨by omega, by omega⟩ (fun v G' M' H' locs' hq hS2 => ?_)
  obtain ⟨rfl, r, rfl, rfl, hC2⟩ := hq
  refine lv_aload_n hx hb d_La_1266 rfl (lv_at hl 1 rfl) ?_
  refine L_arg C0 hS2 hl 1 (by omega) hL d_La_1267 d_La_1268 d_La_1269 rfl d_La_1270 d_La_1271 ?_
  refine L_bool C0 d_La_1272 d_La_1275 d_La_1276 d_La_1279 ?_
  refine L_mod C0 hS2 hM.R (As := [.int (if (xs (i + 1)) = 0 then nI 0 else nI 1)]) (rest := [.int (ans_pair σ.cr ((if (xs (i + 1)) = 0 then nI 0 else nI 1)))]) (mT_pair hM hI (if (xs (i + 1)) = 0 then nI 0 else nI 1)) (qI (fun _ _ z => z.2.R)) d_La_1280 ml_La_157 cb_TM_pair cv_TM_pair rfl rfl ⟨by decide, by decide⟩ rfl (Nat.le_of_ble_eq_true rfl) rfl rfl (Nat.le_of_ble_eq_true rfl) hl.1 ⟨by omega, by omega⟩ (fun v M' H' locs' hq hS3 => ?_)
  obtain ⟨-, r, rfl, rfl, hM2⟩ := hq
  refine lv_icmp_eq hx hb d_La_1283 (tgt := 2005) rfl (fun _ => ?_) (fun z => absurd rfl z)
  exact KK _ _ _ _ _ _ _ _ (by omega) (by omega) (by omega) hS3 hC2 hM2 (hI)
theorem law_c34 (C0 : lw_At p s m meth c bq L xs) (hS : LSt s X1 X2 G1 M1 M2 H locs) (hl : LH la bq i X1 X2) (hC : SC σ G1 M1) (hM : SM σ M2) (hI : SI σ) (hi : i + 6 ≤ L) (hL : L ≤ 3072) (hc : cells + 6 ≤ 600000) (hs : slots + 1509 ≤ 7302250) (hg : G1.1 + 6 < 1000000) (KK : LK p l e s m below meth c bq X1 X2 G1.1 cells slots la QF) : W p l e room_1 s m #[Value.ref bq] below meth c H locs cells slots QF (F0 m 1288 la []) := by
  have hx := C0.1
  have hb := C0.2.1
  have hsh : Sh G1 0 (0, 8) := hC.1.s (by decide) rfl
  refine lv_aload_n hx hb d_La_1288 rfl (lv_at hl 2 rfl) ?_
  refine L_arg C0 hS hl 1 (by omega) hL d_La_1289 d_La_1290 d_La_1291 rfl d_La_1292 d_La_1293 ?_
  refine L_arg C0 hS hl 2 (by omega) hL d_La_1294 d_La_1295 d_La_1296 rfl d_La_1297 d_La_1298 ?_
  refine L_cls C0 hS (As := [.int (xs (i + 1)), .int (xs (i + 2))]) (rest := []) (b' := 0) (bs' := 0) (cT_move hC hI (xs (i + 1)) (xs (i + 2))) d_La_1299 ml_La_158 cb_TP_move cv_TP_move rfl hsh rfl ⟨by decide, by decide⟩ rfl (Nat.le_of_ble_eq_true rfl) rfl (Nat.le_of_ble_eq_true rfl) hl.1 ⟨by omega, by omega⟩ (fun v G' M' H' locs' hq hS2 => ?_)
  obtain ⟨rfl, r, rfl, rfl, hC2⟩ := hq
  refine lv_aload_n hx hb d_La_1302 rfl (lv_at hl 1 rfl) ?_
  refine L_arg C0 hS2 hl 1 (by omega) hL d_La_1303 d_La_1304 d_La_1305 rfl d_La_1306 d_La_1307 ?_
  refine L_arg C0 hS2 hl 2 (by omega) hL d_La_1308 d_La_1309 d_La_1310 rfl d_La_1311 d_La_1312 ?_
  refine L_mod C0 hS2 hM.R (As := [.int (xs (i + 1)), .int (xs (i + 2))]) (rest := [.int (ans_move σ.cr ((xs (i + 1))) ((xs (i + 2))))]) (mT_move hM hI (xs (i + 1)) (xs (i + 2))) (qI (fun _ _ z => z.2.R)) d_La_1313 ml_La_161 cb_TM_move cv_TM_move rfl rfl ⟨by decide, by decide⟩ rfl (Nat.le_of_ble_eq_true rfl) rfl rfl (Nat.le_of_ble_eq_true rfl) hl.1 ⟨by omega, by omega⟩ (fun v M' H' locs' hq hS3 => ?_)
  obtain ⟨-, r, rfl, rfl, hM2⟩ := hq
  refine lv_icmp_eq hx hb d_La_1316 (tgt := 2005) rfl (fun _ => ?_) (fun z => absurd rfl z)
  exact KK _ _ _ _ _ _ _ _ (by omega) (by omega) (by omega) hS3 hC2 hM2 (hI)
theorem law_c35 (C0 : lw_At p s m meth c bq L xs) (hS : LSt s X1 X2 G1 M1 M2 H locs) (hl : LH la bq i X1 X2) (hC : SC σ G1 M1) (hM : SM σ M2) (hI : SI σ) (hi : i + 6 ≤ L) (hL : L ≤ 3072) (hc : cells + 6 ≤ 600000) (hs : slots + 1509 ≤ 7302250) (hg : G1.1 + 6 < 1000000) (KK : LK p l e s m below meth c bq X1 X2 G1.1 cells slots la QF) : W p l e room_1 s m #[Value.ref bq] below meth c H locs cells slots QF (F0 m 1321 la []) := by
  have hx := C0.1
  have hb := C0.2.1
  have hsh : Sh G1 0 (0, 8) := hC.1.s (by decide) rfl
  refine lv_aload_n hx hb d_La_1321 rfl (lv_at hl 2 rfl) ?_
  refine L_arg C0 hS hl 1 (by omega) hL d_La_1322 d_La_1323 d_La_1324 rfl d_La_1325 d_La_1326 ?_
  refine L_cls C0 hS (As := [.int (xs (i + 1))]) (rest := []) (b' := 0) (bs' := 0) (cT_cheapest hC hI (xs (i + 1))) d_La_1327 ml_La_162 cb_TP_cheapest cv_TP_cheapest rfl hsh rfl ⟨by decide, by decide⟩ rfl (Nat.le_of_ble_eq_true rfl) rfl (Nat.le_of_ble_eq_true rfl) hl.1 ⟨by omega, by omega⟩ (fun v G' M' H' locs' hq hS2 => ?_)
  obtain ⟨rfl, r, rfl, rfl, hC2⟩ := hq
  refine lv_aload_n hx hb d_La_1330 rfl (lv_at hl 1 rfl) ?_
  refine L_arg C0 hS2 hl 1 (by omega) hL d_La_1331 d_La_1332 d_La_1333 rfl d_La_1334 d_La_1335 ?_
  refine L_mod C0 hS2 hM.R (As := [.int (xs (i + 1))]) (rest := [.int (ans_cheapest σ.cr ((xs (i + 1))))]) (mT_cheapest hM hI (xs (i + 1))) (qI (fun _ _ z => z.2.R)) d_La_1336 ml_La_165 cb_TM_cheapest cv_TM_cheapest rfl rfl ⟨by decide, by decide⟩ rfl (Nat.le_of_ble_eq_true rfl) rfl rfl (Nat.le_of_ble_eq_true rfl) hl.1 ⟨by omega, by omega⟩ (fun v M' H' locs' hq hS3 => ?_)
  obtain ⟨-, r, rfl, rfl, hM2⟩ := hq
  refine lv_icmp_eq hx hb d_La_1339 (tgt := 2005) rfl (fun _ => ?_) (fun z => absurd rfl z)
  exact KK _ _ _ _ _ _ _ _ (by omega) (by omega) (by omega) hS3 hC2 hM2 (hI)
theorem law_c36 (C0 : lw_At p s m meth c bq L xs) (hS : LSt s X1 X2 G1 M1 M2 H locs) (hl : LH la bq i X1 X2) (hC : SC σ G1 M1) (hM : SM σ M2) (hI : SI σ) (hi : i + 6 ≤ L) (hL : L ≤ 3072) (hc : cells + 6 ≤ 600000) (hs : slots + 1509 ≤ 7302250) (hg : G1.1 + 6 < 1000000) (KK : LK p l e s m below meth c bq X1 X2 G1.1 cells slots la QF) : W p l e room_1 s m #[Value.ref bq] below meth c H locs cells slots QF (F0 m 1344 la []) := by
  have hx := C0.1
  have hb := C0.2.1
  have hsh : Sh G1 0 (0, 8) := hC.1.s (by decide) rfl
  refine lv_aload_n hx hb d_La_1344 rfl (lv_at hl 2 rfl) ?_
  refine L_arg C0 hS hl 1 (by omega) hL d_La_1345 d_La_1346 d_La_1347 rfl d_La_1348 d_La_1349 ?_
  refine L_arg C0 hS hl 2 (by omega) hL d_La_1350 d_La_1351 d_La_1352 rfl d_La_1353 d_La_1354 ?_
  refine L_arg C0 hS hl 3 (by omega) hL d_La_1355 d_La_1356 d_La_1357 rfl d_La_1358 d_La_1359 ?_
  refine L_bool C0 d_La_1360 d_La_1363 d_La_1364 d_La_1367 ?_
  refine L_cls C0 hS (As := [.int (xs (i + 1)), .int (xs (i + 2)), .int (if (xs (i + 3)) = 0 then nI 0 else nI 1)]) (rest := []) (b' := 0) (bs' := 0) (cT_sure hC hI (xs (i + 1)) (xs (i + 2)) (if (xs (i + 3)) = 0 then nI 0 else nI 1)) d_La_1368 ml_La_166 cb_TP_sure cv_TP_sure rfl hsh rfl ⟨by decide, by decide⟩ rfl (Nat.le_of_ble_eq_true rfl) rfl (Nat.le_of_ble_eq_true rfl) hl.1 ⟨by omega, by omega⟩ (fun v G' M' H' locs' hq hS2 => ?_)
  obtain ⟨rfl, r, rfl, rfl, hC2⟩ := hq
  refine lv_aload_n hx hb d_La_1371 rfl (lv_at hl 1 rfl) ?_
  refine L_arg C0 hS2 hl 1 (by omega) hL d_La_1372 d_La_1373 d_La_1374 rfl d_La_1375 d_La_1376 ?_
  refine L_arg C0 hS2 hl 2 (by omega) hL d_La_1377 d_La_1378 d_La_1379 rfl d_La_1380 d_La_1381 ?_
  refine L_arg C0 hS2 hl 3 (by omega) hL d_La_1382 d_La_1383 d_La_1384 rfl d_La_1385 d_La_1386 ?_
  refine L_bool C0 d_La_1387 d_La_1390 d_La_1391 d_La_1394 ?_
  refine L_mod C0 hS2 hM.R (As := [.int (xs (i + 1)), .int (xs (i + 2)), .int (if (xs (i + 3)) = 0 then nI 0 else nI 1)]) (rest := [.long (ans_sure σ.cr ((xs (i + 1))) ((xs (i + 2))) ((if (xs (i + 3)) = 0 then nI 0 else nI 1)))]) (mT_sure hM hI (xs (i + 1)) (xs (i + 2)) (if (xs (i + 3)) = 0 then nI 0 else nI 1)) (qL (fun _ _ z => z.2.R)) d_La_1395 ml_La_170 cb_TM_sure cv_TM_sure rfl rfl ⟨by decide, by decide⟩ rfl (Nat.le_of_ble_eq_true rfl) rfl rfl (Nat.le_of_ble_eq_true rfl) hl.1 ⟨by omega, by omega⟩ (fun v M' H' locs' hq hS3 => ?_)
  obtain ⟨-, r, rfl, rfl, hM2⟩ := hq
  refine W.lcmp hx hb d_La_1398 ?_
  refine lv_if_eq hx hb d_La_1399 (tgt := 2005) rfl (fun _ => ?_) (fun z => absurd (lg_self _) z)
  exact KK _ _ _ _ _ _ _ _ (by omega) (by omega) (by omega) hS3 hC2 hM2 (hI)
theorem law_c37 (C0 : lw_At p s m meth c bq L xs) (hS : LSt s X1 X2 G1 M1 M2 H locs) (hl : LH la bq i X1 X2) (hC : SC σ G1 M1) (hM : SM σ M2) (hI : SI σ) (hi : i + 6 ≤ L) (hL : L ≤ 3072) (hc : cells + 6 ≤ 600000) (hs : slots + 1509 ≤ 7302250) (hg : G1.1 + 6 < 1000000) (KK : LK p l e s m below meth c bq X1 X2 G1.1 cells slots la QF) : W p l e room_1 s m #[Value.ref bq] below meth c H locs cells slots QF (F0 m 1404 la []) := by
  have hx := C0.1
  have hb := C0.2.1
  have hsh : Sh G1 0 (0, 8) := hC.1.s (by decide) rfl
  refine lv_aload_n hx hb d_La_1404 rfl (lv_at hl 2 rfl) ?_
  refine L_arg C0 hS hl 1 (by omega) hL d_La_1405 d_La_1406 d_La_1407 rfl d_La_1408 d_La_1409 ?_
  refine L_arg C0 hS hl 2 (by omega) hL d_La_1410 d_La_1411 d_La_1412 rfl d_La_1413 d_La_1414 ?_
  refine L_bool C0 d_La_1415 d_La_1418 d_La_1419 d_La_1422 ?_
  refine L_cls C0 hS (As := [.int (xs (i + 1)), .int (if (xs (i + 2)) = 0 then nI 0 else nI 1)]) (rest := []) (b' := 0) (bs' := 0) (cT_mean hC hI (xs (i + 1)) (if (xs (i + 2)) = 0 then nI 0 else nI 1)) d_La_1423 ml_La_171 cb_TP_mean cv_TP_mean rfl hsh rfl ⟨by decide, by decide⟩ rfl (Nat.le_of_ble_eq_true rfl) rfl (Nat.le_of_ble_eq_true rfl) hl.1 ⟨by omega, by omega⟩ (fun v G' M' H' locs' hq hS2 => ?_)
  obtain ⟨rfl, r, rfl, rfl, hC2⟩ := hq
  refine lv_aload_n hx hb d_La_1426 rfl (lv_at hl 1 rfl) ?_
  refine L_arg C0 hS2 hl 1 (by omega) hL d_La_1427 d_La_1428 d_La_1429 rfl d_La_1430 d_La_1431 ?_
  refine L_arg C0 hS2 hl 2 (by omega) hL d_La_1432 d_La_1433 d_La_1434 rfl d_La_1435 d_La_1436 ?_
  refine L_bool C0 d_La_1437 d_La_1440 d_La_1441 d_La_1444 ?_
  refine L_mod C0 hS2 hM.R (As := [.int (xs (i + 1)), .int (if (xs (i + 2)) = 0 then nI 0 else nI 1)]) (rest := [.long (ans_mean σ.cr ((xs (i + 1))) ((if (xs (i + 2)) = 0 then nI 0 else nI 1)))]) (mT_mean hM hI (xs (i + 1)) (if (xs (i + 2)) = 0 then nI 0 else nI 1)) (qL (fun _ _ z => z.2.R)) d_La_1445 ml_La_175 cb_TM_mean cv_TM_mean rfl rfl ⟨by decide, by decide⟩ rfl (Nat.le_of_ble_eq_true rfl) rfl rfl (Nat.le_of_ble_eq_true rfl) hl.1 ⟨by omega, by omega⟩ (fun v M' H' locs' hq hS3 => ?_)
  obtain ⟨-, r, rfl, rfl, hM2⟩ := hq
  refine W.lcmp hx hb d_La_1448 ?_
  refine lv_if_eq hx hb d_La_1449 (tgt := 2005) rfl (fun _ => ?_) (fun z => absurd (lg_self _) z)
  exact KK _ _ _ _ _ _ _ _ (by omega) (by omega) (by omega) hS3 hC2 hM2 (hI)
theorem law_c38 (C0 : lw_At p s m meth c bq L xs) (hS : LSt s X1 X2 G1 M1 M2 H locs) (hl : LH la bq i X1 X2) (hC : SC σ G1 M1) (hM : SM σ M2) (hI : SI σ) (hi : i + 6 ≤ L) (hL : L ≤ 3072) (hc : cells + 6 ≤ 600000) (hs : slots + 1509 ≤ 7302250) (hg : G1.1 + 6 < 1000000) (KK : LK p l e s m below meth c bq X1 X2 G1.1 cells slots la QF) : W p l e room_1 s m #[Value.ref bq] below meth c H locs cells slots QF (F0 m 1454 la []) := by
  have hx := C0.1
  have hb := C0.2.1
  have hsh : Sh G1 0 (0, 8) := hC.1.s (by decide) rfl
  refine lv_aload_n hx hb d_La_1454 rfl (lv_at hl 2 rfl) ?_
  refine L_arg C0 hS hl 1 (by omega) hL d_La_1455 d_La_1456 d_La_1457 rfl d_La_1458 d_La_1459 ?_
  refine L_cls C0 hS (As := [.int (xs (i + 1))]) (rest := []) (b' := 0) (bs' := 0) (cT_reach hC hI (xs (i + 1))) d_La_1460 ml_La_176 cb_TP_reach cv_TP_reach rfl hsh rfl ⟨by decide, by decide⟩ rfl (Nat.le_of_ble_eq_true rfl) rfl (Nat.le_of_ble_eq_true rfl) hl.1 ⟨by omega, by omega⟩ (fun v G' M' H' locs' hq hS2 => ?_)
  obtain ⟨rfl, r, rfl, rfl, hC2⟩ := hq
  refine lv_aload_n hx hb d_La_1463 rfl (lv_at hl 1 rfl) ?_
  refine L_arg C0 hS2 hl 1 (by omega) hL d_La_1464 d_La_1465 d_La_1466 rfl d_La_1467 d_La_1468 ?_
  refine L_mod C0 hS2 hM.R (As := [.int (xs (i + 1))]) (rest := [.int (ans_reach σ.cr ((xs (i + 1))))]) (mT_reach hM hI (xs (i + 1))) (qI (fun _ _ z => z.2.R)) d_La_1469 ml_La_179 cb_TM_reach cv_TM_reach rfl rfl ⟨by decide, by decide⟩ rfl (Nat.le_of_ble_eq_true rfl) rfl rfl (Nat.le_of_ble_eq_true rfl) hl.1 ⟨by omega, by omega⟩ (fun v M' H' locs' hq hS3 => ?_)
  obtain ⟨-, r, rfl, rfl, hM2⟩ := hq
  refine lv_icmp_eq hx hb d_La_1472 (tgt := 2005) rfl (fun _ => ?_) (fun z => absurd rfl z)
  exact KK _ _ _ _ _ _ _ _ (by omega) (by omega) (by omega) hS3 hC2 hM2 (hI)
theorem law_c39 (C0 : lw_At p s m meth c bq L xs) (hS : LSt s X1 X2 G1 M1 M2 H locs) (hl : LH la bq i X1 X2) (hC : SC σ G1 M1) (hM : SM σ M2) (hI : SI σ) (hi : i + 6 ≤ L) (hL : L ≤ 3072) (hc : cells + 6 ≤ 600000) (hs : slots + 1509 ≤ 7302250) (hg : G1.1 + 6 < 1000000) (KK : LK p l e s m below meth c bq X1 X2 G1.1 cells slots la QF) : W p l e room_1 s m #[Value.ref bq] below meth c H locs cells slots QF (F0 m 1477 la []) := by
  have hx := C0.1
  have hb := C0.2.1
  have hsh : Sh G1 0 (0, 8) := hC.1.s (by decide) rfl
  refine lv_aload_n hx hb d_La_1477 rfl (lv_at hl 2 rfl) ?_
  refine L_cls C0 hS (As := []) (rest := []) (b' := 0) (bs' := 0) (cT_circles hC hI ) d_La_1478 ml_La_180 cb_TP_circles cv_TP_circles rfl hsh rfl ⟨by decide, by decide⟩ rfl (Nat.le_of_ble_eq_true rfl) rfl (Nat.le_of_ble_eq_true rfl) hl.1 ⟨by omega, by omega⟩ (fun v G' M' H' locs' hq hS2 => ?_)
  obtain ⟨rfl, r, rfl, rfl, hC2⟩ := hq
  refine lv_aload_n hx hb d_La_1481 rfl (lv_at hl 1 rfl) ?_
  refine L_mod C0 hS2 hM.R (As := []) (rest := [.int (ans_circles σ.cr)]) (mT_circles hM hI ) (qI (fun _ _ z => z.2.R)) d_La_1482 ml_La_183 cb_TM_circles cv_TM_circles rfl rfl ⟨by decide, by decide⟩ rfl (Nat.le_of_ble_eq_true rfl) rfl rfl (Nat.le_of_ble_eq_true rfl) hl.1 ⟨by omega, by omega⟩ (fun v M' H' locs' hq hS3 => ?_)
  obtain ⟨-, r, rfl, rfl, hM2⟩ := hq
  refine lv_icmp_eq hx hb d_La_1485 (tgt := 2005) rfl (fun _ => ?_) (fun z => absurd rfl z)
  exact KK _ _ _ _ _ _ _ _ (by omega) (by omega) (by omega) hS3 hC2 hM2 (hI)
theorem law_c40 (C0 : lw_At p s m meth c bq L xs) (hS : LSt s X1 X2 G1 M1 M2 H locs) (hl : LH la bq i X1 X2) (hC : SC σ G1 M1) (hM : SM σ M2) (hI : SI σ) (hi : i + 6 ≤ L) (hL : L ≤ 3072) (hc : cells + 6 ≤ 600000) (hs : slots + 1509 ≤ 7302250) (hg : G1.1 + 6 < 1000000) (KK : LK p l e s m below meth c bq X1 X2 G1.1 cells slots la QF) : W p l e room_1 s m #[Value.ref bq] below meth c H locs cells slots QF (F0 m 1490 la []) := by
  have hx := C0.1
  have hb := C0.2.1
  have hsh : Sh G1 0 (0, 8) := hC.1.s (by decide) rfl
  refine lv_aload_n hx hb d_La_1490 rfl (lv_at hl 2 rfl) ?_
  refine L_cls C0 hS (As := []) (rest := []) (b' := 0) (bs' := 0) (cT_loud hC hI ) d_La_1491 ml_La_184 cb_TP_loud cv_TP_loud rfl hsh rfl ⟨by decide, by decide⟩ rfl (Nat.le_of_ble_eq_true rfl) rfl (Nat.le_of_ble_eq_true rfl) hl.1 ⟨by omega, by omega⟩ (fun v G' M' H' locs' hq hS2 => ?_)
  obtain ⟨rfl, r, rfl, rfl, hC2⟩ := hq
  refine lv_aload_n hx hb d_La_1494 rfl (lv_at hl 1 rfl) ?_
  refine L_mod C0 hS2 hM.R (As := []) (rest := [.int (ans_loud σ.cr)]) (mT_loud hM hI ) (qI (fun _ _ z => z.2.R)) d_La_1495 ml_La_187 cb_TM_loud cv_TM_loud rfl rfl ⟨by decide, by decide⟩ rfl (Nat.le_of_ble_eq_true rfl) rfl rfl (Nat.le_of_ble_eq_true rfl) hl.1 ⟨by omega, by omega⟩ (fun v M' H' locs' hq hS3 => ?_)
  obtain ⟨-, r, rfl, rfl, hM2⟩ := hq
  refine lv_icmp_eq hx hb d_La_1498 (tgt := 2005) rfl (fun _ => ?_) (fun z => absurd rfl z)
  exact KK _ _ _ _ _ _ _ _ (by omega) (by omega) (by omega) hS3 hC2 hM2 (hI)
theorem law_c41 (C0 : lw_At p s m meth c bq L xs) (hS : LSt s X1 X2 G1 M1 M2 H locs) (hl : LH la bq i X1 X2) (hC : SC σ G1 M1) (hM : SM σ M2) (hI : SI σ) (hi : i + 6 ≤ L) (hL : L ≤ 3072) (hc : cells + 6 ≤ 600000) (hs : slots + 1509 ≤ 7302250) (hg : G1.1 + 6 < 1000000) (KK : LK p l e s m below meth c bq X1 X2 G1.1 cells slots la QF) : W p l e room_1 s m #[Value.ref bq] below meth c H locs cells slots QF (F0 m 1503 la []) := by
  have hx := C0.1
  have hb := C0.2.1
  have hsh : Sh G1 0 (0, 8) := hC.1.s (by decide) rfl
  refine lv_aload_n hx hb d_La_1503 rfl (lv_at hl 2 rfl) ?_
  refine L_cls C0 hS (As := []) (rest := []) (b' := 0) (bs' := 0) (cT_part hC hI ) d_La_1504 ml_La_188 cb_TP_part cv_TP_part rfl hsh rfl ⟨by decide, by decide⟩ rfl (Nat.le_of_ble_eq_true rfl) rfl (Nat.le_of_ble_eq_true rfl) hl.1 ⟨by omega, by omega⟩ (fun v G' M' H' locs' hq hS2 => ?_)
  obtain ⟨rfl, r, rfl, rfl, hC2⟩ := hq
  refine lv_aload_n hx hb d_La_1507 rfl (lv_at hl 1 rfl) ?_
  refine L_mod C0 hS2 hM.R (As := []) (rest := [.int (ans_part σ.cr)]) (mT_part hM hI ) (qI (fun _ _ z => z.2.R)) d_La_1508 ml_La_191 cb_TM_part cv_TM_part rfl rfl ⟨by decide, by decide⟩ rfl (Nat.le_of_ble_eq_true rfl) rfl rfl (Nat.le_of_ble_eq_true rfl) hl.1 ⟨by omega, by omega⟩ (fun v M' H' locs' hq hS3 => ?_)
  obtain ⟨-, r, rfl, rfl, hM2⟩ := hq
  refine lv_icmp_eq hx hb d_La_1511 (tgt := 2005) rfl (fun _ => ?_) (fun z => absurd rfl z)
  exact KK _ _ _ _ _ _ _ _ (by omega) (by omega) (by omega) hS3 hC2 hM2 (hI)
end LWD
