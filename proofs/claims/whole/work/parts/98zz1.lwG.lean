section LWG
variable {p : Program} {l : Launch} {e : Env} {s : State} {m : MethodId} {below : List Frame} {meth : Method} {c : Code} {bq L : Nat} {xs : Nat → Int32} {X1 X2 : WX} {G1 : Geo} {M1 M2 : Mem} {H : Heap} {locs : List Loc} {cells slots : Nat} {la : Array Slot} {pc i : Nat} {st : List Value} {QF : State → Prop} {σ : St}
/-- the switch of the law: every case, and the three that are none -/
theorem lw_switch (C0 : lw_At p s m meth c bq L xs) (hS : LSt s X1 X2 G1 M1 M2 H locs) (hl : LH la bq i X1 X2) (hC : SC σ G1 M1) (hM : SM σ M2) (hI : SI σ) (hi : i + 6 ≤ L) (hL : L ≤ 3072) (hc : cells + 6 ≤ 600000) (hs : slots + 1509 ≤ 7302250) (hg : G1.1 + 6 < 1000000) (KK : LK p l e s m below meth c bq X1 X2 G1.1 cells slots la QF) (t : Nat) (ht : t < 64) : W p l e room_1 s m #[Value.ref bq] below meth c H locs cells slots QF (F0 m 33 la [.int (nI t)]) := by
  have hx := C0.1
  have hb := C0.2.1
  by_cases h61 : 61 ≤ t
  · refine lv_tableOut hx hb d_La_33 (Or.inr (by rw [nI_toInt (by omega)]; omega)) (tgt := 2005) (by decide) ?_
    exact KK _ _ _ _ _ _ _ _ (by omega) (by omega) (by omega) hS hC hM hI
  · have h61 : t < 61 := by omega
    clear ht
    match t, h61 with
    | 0, _ => exact lv_tableIn hx hb d_La_33 (by decide) (by decide) (off := 259) (by decide) (tgt := 292) (by decide) (law_c0 C0 hS hl hC hM hI hi hL hc hs hg KK)
    | 1, _ => exact lv_tableIn hx hb d_La_33 (by decide) (by decide) (off := 292) (by decide) (tgt := 325) (by decide) (law_c1 C0 hS hl hC hM hI hi hL hc hs hg KK)
    | 2, _ => exact lv_tableIn hx hb d_La_33 (by decide) (by decide) (off := 325) (by decide) (tgt := 358) (by decide) (law_c2 C0 hS hl hC hM hI hi hL hc hs hg KK)
    | 3, _ => exact lv_tableIn hx hb d_La_33 (by decide) (by decide) (off := 388) (by decide) (tgt := 421) (by decide) (law_c3 C0 hS hl hC hM hI hi hL hc hs hg KK)
    | 4, _ => exact lv_tableIn hx hb d_La_33 (by decide) (by decide) (off := 411) (by decide) (tgt := 444) (by decide) (law_c4 C0 hS hl hC hM hI hi hL hc hs hg KK)
    | 5, _ => exact lv_tableIn hx hb d_La_33 (by decide) (by decide) (off := 424) (by decide) (tgt := 457) (by decide) (law_c5 C0 hS hl hC hM hI hi hL hc hs hg KK)
    | 6, _ => exact lv_tableIn hx hb d_La_33 (by decide) (by decide) (off := 447) (by decide) (tgt := 480) (by decide) (law_c6 C0 hS hl hC hM hI hi hL hc hs hg KK)
    | 7, _ => exact lv_tableIn hx hb d_La_33 (by decide) (by decide) (off := 470) (by decide) (tgt := 503) (by decide) (law_c7 C0 hS hl hC hM hI hi hL hc hs hg KK)
    | 8, _ => exact lv_tableIn hx hb d_La_33 (by decide) (by decide) (off := 493) (by decide) (tgt := 526) (by decide) (law_c8 C0 hS hl hC hM hI hi hL hc hs hg KK)
    | 9, _ => exact lv_tableIn hx hb d_La_33 (by decide) (by decide) (off := 526) (by decide) (tgt := 559) (by decide) (law_c9 C0 hS hl hC hM hI hi hL hc hs hg KK)
    | 10, _ => exact lv_tableIn hx hb d_La_33 (by decide) (by decide) (off := 549) (by decide) (tgt := 582) (by decide) (law_c10 C0 hS hl hC hM hI hi hL hc hs hg KK)
    | 11, _ => exact lv_tableIn hx hb d_La_33 (by decide) (by decide) (off := 572) (by decide) (tgt := 605) (by decide) (law_c11 C0 hS hl hC hM hI hi hL hc hs hg KK)
    | 12, _ => exact lv_tableIn hx hb d_La_33 (by decide) (by decide) (off := 605) (by decide) (tgt := 638) (by decide) (law_c12 C0 hS hl hC hM hI hi hL hc hs hg KK)
    | 13, _ => exact lv_tableIn hx hb d_La_33 (by decide) (by decide) (off := 618) (by decide) (tgt := 651) (by decide) (law_c13 C0 hS hl hC hM hI hi hL hc hs hg KK)
    | 14, _ => exact lv_tableIn hx hb d_La_33 (by decide) (by decide) (off := 651) (by decide) (tgt := 684) (by decide) (law_c14 C0 hS hl hC hM hI hi hL hc hs hg KK)
    | 15, _ => exact lv_tableIn hx hb d_La_33 (by decide) (by decide) (off := 684) (by decide) (tgt := 717) (by decide) (law_c15 C0 hS hl hC hM hI hi hL hc hs hg KK)
    | 16, _ => exact lv_tableIn hx hb d_La_33 (by decide) (by decide) (off := 707) (by decide) (tgt := 740) (by decide) (law_c16 C0 hS hl hC hM hI hi hL hc hs hg KK)
    | 17, _ => exact lv_tableIn hx hb d_La_33 (by decide) (by decide) (off := 740) (by decide) (tgt := 773) (by decide) (law_c17 C0 hS hl hC hM hI hi hL hc hs hg KK)
    | 18, _ => exact lv_tableIn hx hb d_La_33 (by decide) (by decide) (off := 773) (by decide) (tgt := 806) (by decide) (law_c18 C0 hS hl hC hM hI hi hL hc hs hg KK)
    | 19, _ => exact lv_tableIn hx hb d_La_33 (by decide) (by decide) (off := 796) (by decide) (tgt := 829) (by decide) (law_c19 C0 hS hl hC hM hI hi hL hc hs hg KK)
    | 20, _ => exact lv_tableIn hx hb d_La_33 (by decide) (by decide) (off := 809) (by decide) (tgt := 842) (by decide) (law_c20 C0 hS hl hC hM hI hi hL hc hs hg KK)
    | 21, _ => exact lv_tableIn hx hb d_La_33 (by decide) (by decide) (off := 822) (by decide) (tgt := 855) (by decide) (law_c21 C0 hS hl hC hM hI hi hL hc hs hg KK)
    | 22, _ => exact lv_tableIn hx hb d_La_33 (by decide) (by decide) (off := 871) (by decide) (tgt := 904) (by decide) (law_c22 C0 hS hl hC hM hI hi hL hc hs hg KK)
    | 23, _ => exact lv_tableIn hx hb d_La_33 (by decide) (by decide) (off := 894) (by decide) (tgt := 927) (by decide) (law_c23 C0 hS hl hC hM hI hi hL hc hs hg KK)
    | 24, _ => exact lv_tableIn hx hb d_La_33 (by decide) (by decide) (off := 917) (by decide) (tgt := 950) (by decide) (law_c24 C0 hS hl hC hM hI hi hL hc hs hg KK)
    | 25, _ => exact lv_tableIn hx hb d_La_33 (by decide) (by decide) (off := 930) (by decide) (tgt := 963) (by decide) (law_c25 C0 hS hl hC hM hI hi hL hc hs hg KK)
    | 26, _ => exact lv_tableIn hx hb d_La_33 (by decide) (by decide) (off := 943) (by decide) (tgt := 976) (by decide) (law_c26 C0 hS hl hC hM hI hi hL hc hs hg KK)
    | 27, _ => exact lv_tableIn hx hb d_La_33 (by decide) (by decide) (off := 986) (by decide) (tgt := 1019) (by decide) (law_c27 C0 hS hl hC hM hI hi hL hc hs hg KK)
    | 28, _ => exact lv_tableIn hx hb d_La_33 (by decide) (by decide) (off := 1035) (by decide) (tgt := 1068) (by decide) (law_c28 C0 hS hl hC hM hI hi hL hc hs hg KK)
    | 29, _ => exact lv_tableIn hx hb d_La_33 (by decide) (by decide) (off := 1078) (by decide) (tgt := 1111) (by decide) (law_c29 C0 hS hl hC hM hI hi hL hc hs hg KK)
    | 30, _ => exact lv_tableIn hx hb d_La_33 (by decide) (by decide) (off := 1111) (by decide) (tgt := 1144) (by decide) (law_c30 C0 hS hl hC hM hI hi hL hc hs hg KK)
    | 31, _ => exact lv_tableIn hx hb d_La_33 (by decide) (by decide) (off := 1144) (by decide) (tgt := 1177) (by decide) (law_c31 C0 hS hl hC hM hI hi hL hc hs hg KK)
    | 32, _ => exact lv_tableIn hx hb d_La_33 (by decide) (by decide) (off := 1183) (by decide) (tgt := 1216) (by decide) (law_c32 C0 hS hl hC hM hI hi hL hc hs hg KK)
    | 33, _ => exact lv_tableIn hx hb d_La_33 (by decide) (by decide) (off := 1216) (by decide) (tgt := 1249) (by decide) (law_c33 C0 hS hl hC hM hI hi hL hc hs hg KK)
    | 34, _ => exact lv_tableIn hx hb d_La_33 (by decide) (by decide) (off := 1255) (by decide) (tgt := 1288) (by decide) (law_c34 C0 hS hl hC hM hI hi hL hc hs hg KK)
    | 35, _ => exact lv_tableIn hx hb d_La_33 (by decide) (by decide) (off := 1288) (by decide) (tgt := 1321) (by decide) (law_c35 C0 hS hl hC hM hI hi hL hc hs hg KK)
    | 36, _ => exact lv_tableIn hx hb d_La_33 (by decide) (by decide) (off := 1311) (by decide) (tgt := 1344) (by decide) (law_c36 C0 hS hl hC hM hI hi hL hc hs hg KK)
    | 37, _ => exact lv_tableIn hx hb d_La_33 (by decide) (by decide) (off := 1371) (by decide) (tgt := 1404) (by decide) (law_c37 C0 hS hl hC hM hI hi hL hc hs hg KK)
    | 38, _ => exact lv_tableIn hx hb d_La_33 (by decide) (by decide) (off := 1421) (by decide) (tgt := 1454) (by decide) (law_c38 C0 hS hl hC hM hI hi hL hc hs hg KK)
    | 39, _ => exact lv_tableIn hx hb d_La_33 (by decide) (by decide) (off := 1444) (by decide) (tgt := 1477) (by decide) (law_c39 C0 hS hl hC hM hI hi hL hc hs hg KK)
    | 40, _ => exact lv_tableIn hx hb d_La_33 (by decide) (by decide) (off := 1457) (by decide) (tgt := 1490) (by decide) (law_c40 C0 hS hl hC hM hI hi hL hc hs hg KK)
    | 41, _ => exact lv_tableIn hx hb d_La_33 (by decide) (by decide) (off := 1470) (by decide) (tgt := 1503) (by decide) (law_c41 C0 hS hl hC hM hI hi hL hc hs hg KK)
    | 42, _ => exact lv_tableIn hx hb d_La_33 (by decide) (by decide) (off := 1483) (by decide) (tgt := 1516) (by decide) (law_c42 C0 hS hl hC hM hI hi hL hc hs hg KK)
    | 43, _ => exact lv_tableIn hx hb d_La_33 (by decide) (by decide) (off := 1506) (by decide) (tgt := 1539) (by decide) (law_c43 C0 hS hl hC hM hI hi hL hc hs hg KK)
    | 44, _ => exact lv_tableIn hx hb d_La_33 (by decide) (by decide) (off := 1529) (by decide) (tgt := 1562) (by decide) (law_c44 C0 hS hl hC hM hI hi hL hc hs hg KK)
    | 45, _ => exact lv_tableIn hx hb d_La_33 (by decide) (by decide) (off := 1562) (by decide) (tgt := 1595) (by decide) (law_c45 C0 hS hl hC hM hI hi hL hc hs hg KK)
    | 46, _ => exact lv_tableIn hx hb d_La_33 (by decide) (by decide) (off := 1585) (by decide) (tgt := 1618) (by decide) (law_c46 C0 hS hl hC hM hI hi hL hc hs hg KK)
    | 47, _ => exact lv_tableIn hx hb d_La_33 (by decide) (by decide) (off := 1598) (by decide) (tgt := 1631) (by decide) (law_c47 C0 hS hl hC hM hI hi hL hc hs hg KK)
    | 48, _ => exact lv_tableIn hx hb d_La_33 (by decide) (by decide) (off := 1637) (by decide) (tgt := 1670) (by decide) (law_c48 C0 hS hl hC hM hI hi hL hc hs hg KK)
    | 49, _ => exact lv_tableIn hx hb d_La_33 (by decide) (by decide) (off := 1680) (by decide) (tgt := 1713) (by decide) (law_c49 C0 hS hl hC hM hI hi hL hc hs hg KK)
    | 50, _ => exact lv_tableIn hx hb d_La_33 (by decide) (by decide) (off := 1739) (by decide) (tgt := 1772) (by decide) (law_c50 C0 hS hl hC hM hI hi hL hc hs hg KK)
    | 51, _ => exact lv_tableIn hx hb d_La_33 (by decide) (by decide) (off := 1772) (by decide) (tgt := 1805) (by decide) (law_c51 C0 hS hl hC hM hI hi hL hc hs hg KK)
    | 52, _ => exact lv_tableIn hx hb d_La_33 (by decide) (by decide) (off := 1805) (by decide) (tgt := 1838) (by decide) (law_c52 C0 hS hl hC hM hI hi hL hc hs hg KK)
    | 53, _ => exact lv_tableIn hx hb d_La_33 (by decide) (by decide) (off := 1828) (by decide) (tgt := 1861) (by decide) (law_c53 C0 hS hl hC hM hI hi hL hc hs hg KK)
    | 54, _ => exact lv_tableIn hx hb d_La_33 (by decide) (by decide) (off := 1861) (by decide) (tgt := 1894) (by decide) (law_c54 C0 hS hl hC hM hI hi hL hc hs hg KK)
    | 55, _ => exact lv_tableIn hx hb d_La_33 (by decide) (by decide) (off := 1874) (by decide) (tgt := 1907) (by decide) (law_c55 C0 hS hl hC hM hI hi hL hc hs hg KK)
    | 56, _ => exact lv_tableIn hx hb d_La_33 (by decide) (by decide) (off := 1887) (by decide) (tgt := 1920) (by decide) (law_c56 C0 hS hl hC hM hI hi hL hc hs hg KK)
    | 57, _ => exact lv_tableIn hx hb d_La_33 (by decide) (by decide) (off := 1900) (by decide) (tgt := 1933) (by decide) (law_c57 C0 hS hl hC hM hI hi hL hc hs hg KK)
    | 58, _ => exact lv_tableIn hx hb d_La_33 (by decide) (by decide) (off := 1923) (by decide) (tgt := 1956) (by decide) (law_c58 C0 hS hl hC hM hI hi hL hc hs hg KK)
    | 59, _ => exact lv_tableIn hx hb d_La_33 (by decide) (by decide) (off := 1936) (by decide) (tgt := 1969) (by decide) (law_c59 C0 hS hl hC hM hI hi hL hc hs hg KK)
    | 60, _ => exact lv_tableIn hx hb d_La_33 (by decide) (by decide) (off := 1949) (by decide) (tgt := 1982) (by decide) (law_c60 C0 hS hl hC hM hI hi hL hc hs hg KK)
    | t + 61, h => exact absurd h (by omega)
theorem lw_loop (C0 : lw_At p s m meth c bq L xs) (hL : L ≤ 3072) : ∀ (n j : Nat) (σ : St) (G1 : Geo) (M1 M2 : Mem) (H : Heap) (locs : List Loc) (cells slots : Nat) (la : Array Slot), n + j = 513 → 6 * j ≤ L → cells ≤ 249 + 6 * j → slots ≤ 15938 + 1509 * j → G1.1 ≤ 234 + 6 * j → LSt s X1 X2 G1 M1 M2 H locs → LH la bq (6 * j) X1 X2 → SC σ G1 M1 → SM σ M2 → SI σ → W p l e room_1 s m #[Value.ref bq] below meth c H locs cells slots (lw_Z below #[Value.ref bq] s) (F0 m 18 la []) := by
  intro n
  induction n with
  | zero => intro j σ G1 M1 M2 H locs cells slots la hn hj; omega
  | succ n ih =>
    intro j σ G1 M1 M2 H locs cells slots la hn hj hc hs hg hS hl hC hM hI
    have hx := C0.1
    have hb := C0.2.1
    refine lv_iload_n hx hb d_La_18 rfl (lv_at hl 0 rfl) ?_
    refine lv_aload_n hx hb d_La_19 rfl (lv_at hl 3 rfl) ?_
    refine va_slen hx hb C0.2.2.2.2.2.2.1 C0.2.2.2.2.2.2.2.1 (LA_bq C0) hS.2.2.2 d_La_20 ?_
    refine lv_bipush (v := nI 6) hx hb d_La_21 (by decide) ?_
    refine lv_isub hx hb d_La_23 ?_
    refine lv_icmp_gt hx hb d_La_24 (tgt := 2011) (by decide) (fun _ => ?_) (fun z => ?_)
    · refine lv_iconst (v := 1) hx hb d_La_2011 (by decide) ?_
      refine va_forget hS.2.2.2.2.2 ?_
      refine W.widen (k := 600000) (n := 7302250) (by omega) (by omega) ?_
      exact lw_ret hx hb C0.2.2.1 C0.2.2.2.2.2.2.2.2.1 d_La_2012
    · have hi : 6 * j + 6 ≤ L := by
        have e1 : ¬ nI L - nI 6 < nI (6 * j) := z
        rw [lt_toInt, nI_sub_toInt (by omega) (by omega), nI_toInt (by omega)] at e1
        omega
      refine lv_aload_n hx hb d_La_27 rfl (lv_at hl 3 rfl) ?_
      refine lv_iload_n hx hb d_La_28 rfl (lv_at hl 0 rfl) ?_
      refine va_sld hx hb C0.2.2.2.2.2.2.1 C0.2.2.2.2.2.2.2.1 (LA_bq C0) hS.2.2.2 (vp_nI (show 6 * j < L by omega) hL) d_La_29 ?_
      refine lv_bipush (v := nI 63) hx hb d_La_30 (by decide) ?_
      refine lv_iand hx hb d_La_32 ?_
      have e2 : ∀ x : Int32, x &&& nI 63 = nI (x.toBitVec.toNat % 2 ^ 6) := fun x => pk_and x 6 (by decide)
      rw [e2]
      refine lw_switch C0 hS hl hC hM hI hi hL (by omega) (by omega) (by omega) (fun σ' G' M1' M2' H' locs' cells' slots' q1 q2 q3 hS2 hC2 hM2 hI2 => ?_) _ (Nat.mod_lt _ (by decide))
      refine lv_iinc (v := nI (6 * (j + 1))) (lv' := [(3, .int (nI (6 * (j + 1)))), (2, .ref (X2.2.2 0)), (1, .ref (X1.2.2 0)), (0, .ref bq)]) hx hb d_La_2005 hl (k := 0) rfl (by show nI (6 * j) + nI 6 = _; rw [nI_add]; congr 1) (by decide) rfl (fun la' hl' => ?_)
      refine lv_goto (tgt := 18) hx hb d_La_2008 (by decide) ?_
      refine ih (j + 1) σ' G' M1' M2' H' locs' cells' slots' la' ?_ ?_ ?_ ?_ ?_ hS2 ?_ hC2 hM2 hI2
      · omega
      · omega
      · omega
      · exact Nat.le_trans q2 (by rw [Nat.mul_succ, ← Nat.add_assoc]; exact Nat.add_le_add_right hs 1509)
      · omega
      · exact hl'
end LWG
