def nmP (k s : Nat) : Prop := (k = 0 ∧ s = 19) ∨ (k = 1 ∧ s = 20) ∨ (k = 2 ∧ s = 21) ∨ (k = 3 ∧ s = 3) ∨ (k = 4 ∧ s = 22) ∨ (k = 5 ∧ s = 23) ∨ (k = 6 ∧ s = 24) ∨ (k = 7 ∧ s = 25)
def unP (u s : Nat) : Prop := (u = 5 ∧ s = 42) ∨ (u = 2 ∧ s = 10) ∨ (u = 4 ∧ s = 11)
def biP (o s : Nat) : Prop := (o = 6 ∧ s = 32) ∨ (o = 7 ∧ s = 33) ∨ (o = 8 ∧ s = 34) ∨ (o = 9 ∧ s = 35)
def cmP (o s : Nat) : Prop := (o = 10 ∧ s = 28) ∨ (o = 11 ∧ s = 26) ∨ (o = 12 ∧ s = 29) ∨ (o = 13 ∧ s = 27) ∨ (o = 14 ∧ s = 30) ∨ (o = 15 ∧ s = 31)
def joP (o s : Nat) : Prop := (o = 21 ∧ s = 17) ∨ (o = 22 ∧ s = 16)
def Clo (P Q : Cd → Cd → Nat → Nat → Prop) : Prop :=
  (∀ v b h, v ≤ 9999 → 1 ≤ h → P [(0, v)] [(39, v)] b h) ∧
  (∀ k s b h, nmP k s → 1 ≤ h → P [(1, k)] [(s, 0)] b h) ∧
  (∀ u s c d b h, unP u s → P c d b h → P (c ++ [(u, 0)]) (d ++ [(s, 0)]) b h) ∧
  (∀ o s c1 d1 c2 d2 b h h2, biP o s → P c1 d1 b h → P c2 d2 (b + d1.length) h2 → h2 + 1 ≤ h → P (c1 ++ c2 ++ [(o, 0)]) (d1 ++ d2 ++ [(s, 0)]) b h) ∧
  (∀ c0 d0 c1 d1 c2 d2 b h, Q c0 d0 b h → P c1 d1 (b + d0.length + 1) h → P c2 d2 (b + d0.length + 1 + d1.length + 1) h → P (c0 ++ c1 ++ c2 ++ [(3, 0)]) (d0 ++ [(44, b + d0.length + 1 + d1.length + 1)] ++ d1 ++ [(43, b + d0.length + 1 + d1.length + 1 + d2.length)] ++ d2) b h) ∧
  (∀ o s c1 d1 c2 d2 b h h2, cmP o s → P c1 d1 b h → P c2 d2 (b + d1.length) h2 → h2 + 1 ≤ h → Q (c1 ++ c2 ++ [(o, 0)]) (d1 ++ d2 ++ [(s, 0)]) b h) ∧
  (∀ c d b h, Q c d b h → Q (c ++ [(20, 0)]) (d ++ [(18, 0)]) b h) ∧
  (∀ o s c1 d1 c2 d2 b h h2, joP o s → Q c1 d1 b h → Q c2 d2 (b + d1.length) h2 → h2 + 1 ≤ h → Q (c1 ++ c2 ++ [(o, 0)]) (d1 ++ d2 ++ [(s, 0)]) b h)
def VC (c d : Cd) (b h : Nat) : Prop := ∀ P Q, Clo P Q → P c d b h
def BC (c d : Cd) (b h : Nat) : Prop := ∀ P Q, Clo P Q → Q c d b h
def kmC (k : Nat) : Nat := if k ≤ 2 then k else if k = 3 then 4 else k + 2
def LawC (q : Option (Cd × Cd)) (a s k : Nat) (M : Mem) : Prop := match q with
  | none => mI M a s = -1
  | some q => ∃ b, mI M a s = nI b ∧ mI M a (s + 1) = nI (b + q.2.length) ∧ b + q.2.length ≤ k ∧ VC q.1 q.2 b 64 ∧ ∀ i, i < q.2.length → mI M (a + 4) (b + i) = nI (q.2.getD i (0, 0)).1 ∧ mI M (a + 5) (b + i) = nI (q.2.getD i (0, 0)).2
def RepTxC (x : Tx) (a : Nat) (G : Geo) (M : Mem) : Prop :=
  234 ≤ a ∧ Sh G a (0, 7) ∧ Sh G (a + 1) (1, x.clauses.length) ∧ Sh G (a + 2) (1, x.clauses.length) ∧ Sh G (a + 3) (1, x.clauses.length) ∧ (∀ j, j < 5 → mR M a j = some (a + 1 + j)) ∧
  (∀ i, i < x.clauses.length → mI M (a + 1) i = nI (kmC (x.clauses.getD i (0, 0, 0)).1) ∧ (2 ≤ (x.clauses.getD i (0, 0, 0)).1 → mI M (a + 2) i = nI (x.clauses.getD i (0, 0, 0)).2.1 ∧ ((x.clauses.getD i (0, 0, 0)).1 ≤ 3 → mI M (a + 3) i = nI (x.clauses.getD i (0, 0, 0)).2.2))) ∧
  ∃ k, k ≤ 300 ∧ Sh G (a + 4) (1, k) ∧ Sh G (a + 5) (1, k) ∧ LawC x.says a 5 k M ∧ LawC x.sways a 7 k M
def HC (c : Cr) (b : Nat) (G : Geo) (M : Mem) : Prop :=
  MoC c.now (b + 1) M ∧ (∀ p, p < c.now.people → mI M (b + 4) p = nI (c.sort p)) ∧ (∀ p, p < c.now.people → mI M (b + 5) p = nI (c.begun p)) ∧ (∀ p, p < 8 → mI M (b + 6) p = nI (c.hears p)) ∧
  (∃ fs, fs < 30 ∧ mI M b 5 = nI fs ∧ ∀ i m, c.steps[i]? = some m → MoC m (b + 14 + 3 * ((fs + i) % 30)) M) ∧ mI M b 6 = nI c.steps.length ∧ mI M b 8 = nI c.texts.length ∧
  (∀ t, t < c.texts.length → ∃ a, mR M (b + 8) t = some a ∧ RepTxC (c.texts.getD t ([], none, none)) a G M) ∧ mI M b 9 = enO c.ruling ∧ mI M b 12 = nI c.parties.length ∧
  (∀ i, i < c.parties.length → mI M (b + 9) i = nI (c.parties.getD i (0, 0)).1 ∧ mI M (b + 10) i = nI (c.parties.getD i (0, 0)).2) ∧ mI M b 15 = nI c.saids.length ∧
  (∀ i, i < c.saids.length → mI M (b + 11) i = nI (c.saids.getD i (0, 0)).1 ∧ mI M (b + 12) i = nI (c.saids.getD i (0, 0)).2) ∧ (∀ v, v < 10 → mI M (b + 13) v = nI (c.villages v)) ∧ Wf c
section HCFacts
variable {c : Cr} {b : Nat} {G : Geo} {M : Mem}
theorem HC.now (h : HC c b G M) : MoC c.now (b + 1) M := h.1
theorem HC.sort (h : HC c b G M) {p : Nat} (hp : p < c.now.people) : mI M (b + 4) p = nI (c.sort p) := h.2.1 p hp
theorem HC.begun (h : HC c b G M) {p : Nat} (hp : p < c.now.people) : mI M (b + 5) p = nI (c.begun p) := h.2.2.1 p hp
theorem HC.hears (h : HC c b G M) {p : Nat} (hp : p < 8) : mI M (b + 6) p = nI (c.hears p) := h.2.2.2.1 p hp
theorem HC.fs (h : HC c b G M) : ∃ fs, fs < 30 ∧ mI M b 5 = nI fs ∧ ∀ i m, c.steps[i]? = some m → MoC m (b + 14 + 3 * ((fs + i) % 30)) M := h.2.2.2.2.1
theorem HC.steps (h : HC c b G M) : mI M b 6 = nI c.steps.length := h.2.2.2.2.2.1
theorem HC.texts (h : HC c b G M) : mI M b 8 = nI c.texts.length := h.2.2.2.2.2.2.1
theorem HC.text (h : HC c b G M) {t : Nat} (ht : t < c.texts.length) : ∃ a, mR M (b + 8) t = some a ∧ RepTxC (c.texts.getD t ([], none, none)) a G M := h.2.2.2.2.2.2.2.1 t ht
theorem HC.ruling (h : HC c b G M) : mI M b 9 = enO c.ruling := h.2.2.2.2.2.2.2.2.1
theorem HC.parties (h : HC c b G M) : mI M b 12 = nI c.parties.length := h.2.2.2.2.2.2.2.2.2.1
theorem HC.party (h : HC c b G M) {i : Nat} (hi : i < c.parties.length) : mI M (b + 9) i = nI (c.parties.getD i (0, 0)).1 ∧ mI M (b + 10) i = nI (c.parties.getD i (0, 0)).2 := h.2.2.2.2.2.2.2.2.2.2.1 i hi
theorem HC.saids (h : HC c b G M) : mI M b 15 = nI c.saids.length := h.2.2.2.2.2.2.2.2.2.2.2.1
theorem HC.said (h : HC c b G M) {i : Nat} (hi : i < c.saids.length) : mI M (b + 11) i = nI (c.saids.getD i (0, 0)).1 ∧ mI M (b + 12) i = nI (c.saids.getD i (0, 0)).2 := h.2.2.2.2.2.2.2.2.2.2.2.2.1 i hi
theorem HC.village (h : HC c b G M) {v : Nat} (hv : v < 10) : mI M (b + 13) v = nI (c.villages v) := h.2.2.2.2.2.2.2.2.2.2.2.2.2.1 v hv
theorem HC.w (h : HC c b G M) : Wf c := h.2.2.2.2.2.2.2.2.2.2.2.2.2.2
end HCFacts
def CQ (a : Nat) : Prop := (209 ≤ a ∧ a ≤ 219) ∨ (231 ≤ a ∧ a ≤ 233)
theorem RepTxC.cg {x : Tx} {a : Nat} {G : Geo} {M M' : Mem} (h : RepTxC x a G M) (e : ∀ k, 234 ≤ k → mI M' k = mI M k ∧ mR M' k = mR M k) : RepTxC x a G M' := by
  obtain ⟨h1, h2, h3, h4, h5, h6, h7, k, h8, h9, h10, h11, h12⟩ := h
  have e0 := e a h1
  have e1 := (e (a + 1) (by omega)).1
  have e2 := (e (a + 2) (by omega)).1
  have e3 := (e (a + 3) (by omega)).1
  have e4 := (e (a + 4) (by omega)).1
  have e5 := (e (a + 5) (by omega)).1
  refine ⟨h1, h2, h3, h4, h5, fun j hj => ?_, fun i hi => ?_, k, h8, h9, h10, ?_, ?_⟩
  · rw [e0.2]; exact h6 j hj
  · rw [e1, e2, e3]; exact h7 i hi
  · revert h11
    cases x.says with
    | none => intro h11; show mI M' a 5 = -1; rw [e0.1]; exact h11
    | some q => intro h11; show ∃ b, _; rw [e0.1, e4, e5]; exact h11
  · revert h12
    cases x.sways with
    | none => intro h12; show mI M' a 7 = -1; rw [e0.1]; exact h12
    | some q => intro h12; show ∃ b, _; rw [e0.1, e4, e5]; exact h12
theorem HC.cg {c : Cr} {b : Nat} {G : Geo} {M M' : Mem} (h : HC c b G M) (e : ∀ k, (b ≤ k ∧ k < b + 104) ∨ 234 ≤ k → mI M' k = mI M k ∧ mR M' k = mR M k) : HC c b G M' := by
  have ei : ∀ k, k < 104 → mI M' (b + k) = mI M (b + k) := fun k hk => (e (b + k) (by omega)).1
  have e0 : mI M' b = mI M b := ei 0 (by omega)
  obtain ⟨h1, h2, h3, h4, ⟨fs, h5, h6, h7⟩, h8, h9, h10, h11, h12, h13, h14, h15, h16, h17⟩ := h
  refine ⟨h1.cg (ei 1 (by omega)) (ei 2 (by omega)) (ei 3 (by omega)), ?_, ?_, ?_, ⟨fs, h5, ?_, fun i m hi => ?_⟩, ?_, ?_, fun t ht => ?_, ?_, ?_, ?_, ?_, ?_, ?_, h17⟩
  · rw [ei 4 (by omega)]; exact h2
  · rw [ei 5 (by omega)]; exact h3
  · rw [ei 6 (by omega)]; exact h4
  · rw [e0]; exact h6
  · have hlt : (fs + i) % 30 < 30 := Nat.mod_lt _ (by decide)
    refine (h7 i m hi).cg ?_ ?_ ?_
    · exact (e _ (by omega)).1
    · exact (e _ (by omega)).1
    · exact (e _ (by omega)).1
  · rw [e0]; exact h8
  · rw [e0]; exact h9
  · obtain ⟨a, q1, q2⟩ := h10 t ht
    exact ⟨a, by rw [(e (b + 8) (by omega)).2]; exact q1, q2.cg fun k hk => e k (Or.inr hk)⟩
  · rw [e0]; exact h11
  · rw [e0]; exact h12
  · rw [ei 9 (by omega), ei 10 (by omega)]; exact h13
  · rw [e0]; exact h14
  · rw [ei 11 (by omega), ei 12 (by omega)]; exact h15
  · rw [ei 13 (by omega)]; exact h16
theorem HC.sc {c : Cr} {b : Nat} {G : Geo} {M M' : Mem} {P : Nat → Prop} (h : HC c b G M) (hb : CrAd b) (g : Sc P M M') (hP : ∀ a, P a → (209 ≤ a ∧ a < 234)) : HC c b G M' := by
  refine h.cg fun k hk => ⟨(g.2 k (fun q => ?_)).1, funext fun j => g.1 k j (fun q => ?_)⟩
  · have := hP k q
    rcases hb with rfl | rfl <;> omega
  · rcases hb with rfl | rfl <;> omega
def CM (c : Cr) (G : Geo) (M : Mem) : Prop := GC G ∧ RC M ∧ HC c 1 G M
theorem CM.G {c : Cr} {G : Geo} {M : Mem} (h : CM c G M) : GC G := h.1
theorem CM.R {c : Cr} {G : Geo} {M : Mem} (h : CM c G M) : RC M := h.2.1
theorem CM.H {c : Cr} {G : Geo} {M : Mem} (h : CM c G M) : HC c 1 G M := h.2.2
theorem CM.w {c : Cr} {G : Geo} {M : Mem} (h : CM c G M) : Wf c := h.2.2.w
theorem CM.now {c : Cr} {G : Geo} {M : Mem} (h : CM c G M) : MoC c.now 2 M := h.2.2.now
theorem CM.sc {c : Cr} {G : Geo} {M M' : Mem} {P : Nat → Prop} (h : CM c G M) (g : Sc P M M') (hP : ∀ a, P a → (209 ≤ a ∧ a < 234)) : CM c G M' := ⟨h.1, h.2.1.sc g, h.2.2.sc (Or.inl rfl) g hP⟩
theorem CQ.r {a : Nat} (h : CQ a) : 209 ≤ a ∧ a < 234 := by unfold CQ at h; omega
theorem CM.q {c : Cr} {G : Geo} {M M' : Mem} (h : CM c G M) (g : Sc CQ M M') : CM c G M' := h.sc g (fun _ => CQ.r)
theorem ad2 : MoAd 2 := Or.inl rfl
theorem ad209 : MoAd 209 := Or.inr (Or.inr (Or.inl rfl))
theorem cr1 : CrAd 1 := Or.inl rfl
theorem cr105 : CrAd 105 := Or.inr rfl
def Bk (a k : Nat) : Prop := a ≤ k ∧ k ≤ a + 2
theorem cpy_all {f g : Nat → Int32} {n j : Nat} (h : j < n) : va_cpy f g 0 0 n j = f j := by
  rw [pk_cpy_in (Nat.zero_le _) (by omega), Nat.sub_zero, Nat.zero_add]
theorem wA_at {M : Mem} {a : Nat} {g : Nat → Int32} : mI (wA M a g) a = g := upda_at _
theorem wA_ne {M : Mem} {a b : Nat} {g : Nat → Int32} (h : b ≠ a) : mI (wA M a g) b = mI M b := upda_ne _ h
theorem sp_Mo_copyFrom {G : Geo} {M : Mem} {a b : Nat} (hG : GC G) (hR : RC M) (ha : MoAd a) (hb : MoAd b) (hab : a ≠ b) : E 1 0 0 Y_Mo_copyFrom 0 [some (.ref a), some (.ref b)] [] G M (QV G fun M' => Sc (Bk a) M M' ∧ ∀ m, Mok m → MoC m b M → MoC m a M') := by
  have hd : b ≠ a + 1 ∧ b ≠ a + 2 ∧ b + 1 ≠ a ∧ b + 2 ≠ a ∧ b + 1 ≠ a + 2 ∧ b + 2 ≠ a + 1 := by unfold MoAd at ha hb; omega
  have kk : ∀ g1 g2 v2 v3 v4 v5 v6 v7 M', M' = wI (wI (wI (wI (wI (wI (wA (wA M (a + 1) g1) (a + 2) g2) a 2 v2) a 3 v3) a 4 v4) a 5 v5) a 6 v6) a 7 v7 → (∀ j, j < 8 → g1 j = mI M (b + 1) j) → (∀ j, j < 90 → g2 j = mI M (b + 2) j) → v2 = mI M b 2 → v3 = mI M b 3 → v4 = mI M b 4 → v5 = mI M b 5 → v6 = mI M b 6 → v7 = mI M b 7 → Sc (Bk a) M M' ∧ ∀ m, Mok m → MoC m b M → MoC m a M' := by
    intro g1 g2 v2 v3 v4 v5 v6 v7 M' e hg1 hg2 e2 e3 e4 e5 e6 e7
    subst e
    have b0 : Bk a a := ⟨by omega, by omega⟩
    refine ⟨(((((((Sc.rf.wA (P := Bk a) ⟨by omega, by omega⟩).wA ⟨by omega, by omega⟩).wI b0).wI b0).wI b0).wI b0).wI b0).wI b0, fun m hk hm => ?_⟩
    have hp8 := hk.p8
    have hb30 := hk.book
    obtain ⟨m0, m1, m2, m3, m4, m5, m6, m7⟩ := hm
    have f2 : ∀ j, j < 90 → mI (wI (wI (wI (wI (wI (wI (wA (wA M (a + 1) g1) (a + 2) g2) a 2 v2) a 3 v3) a 4 v4) a 5 v5) a 6 v6) a 7 v7) (a + 2) j = mI M (b + 2) j := fun j hj => by
      rw [mI_wx (by omega), mI_wx (by omega), mI_wx (by omega), mI_wx (by omega), mI_wx (by omega), mI_wx (by omega), wA_at, hg2 j hj]
    refine ⟨?_, ?_, ?_, ?_, ?_, ?_, fun p hp => ?_, fun i hi => ?_⟩
    · rw [mI_wa, if_neg (by decide), mI_wa, if_neg (by decide), mI_wa, if_neg (by decide), mI_wa, if_neg (by decide), mI_wa, if_neg (by decide), mI_wa, if_pos rfl, e2]; exact m0
    · rw [mI_wa, if_neg (by decide), mI_wa, if_neg (by decide), mI_wa, if_neg (by decide), mI_wa, if_neg (by decide), mI_wa, if_pos rfl, e3]; exact m1
    · rw [mI_wa, if_neg (by decide), mI_wa, if_neg (by decide), mI_wa, if_neg (by decide), mI_wa, if_pos rfl, e4]; exact m2
    · rw [mI_wa, if_neg (by decide), mI_wa, if_neg (by decide), mI_wa, if_pos rfl, e5]; exact m3
    · rw [mI_wa, if_neg (by decide), mI_wa, if_pos rfl, e6]; exact m4
    · rw [mI_wa, if_pos rfl, e7]; exact m5
    · rw [mI_wx (by omega), mI_wx (by omega), mI_wx (by omega), mI_wx (by omega), mI_wx (by omega), mI_wx (by omega), wA_ne (by omega), wA_at, hg1 p (by omega)]
      exact m6 p hp
    · rw [f2 _ (by omega), f2 _ (by omega), f2 _ (by omega)]
      exact m7 i hi
  first | refine E_aload_n d_Mo_copyFrom_0 rfl ?_ | refine E_aload_nN d_Mo_copyFrom_0 rfl ?_
  refine E_getR d_Mo_copyFrom_1 gf_Mo_9 (by first | exact hG.m ha | exact hG.m hb | exact hG.m1 ha | exact hG.m1 hb | exact hG.m2 ha | exact hG.m2 hb) (by first | exact hR.m0 ha | exact hR.m0 hb | exact hR.m1 ha | exact hR.m1 hb) ?_
  refine E_iconst (v := nI 0) d_Mo_copyFrom_4 rfl ?_
  first | refine E_aload_n d_Mo_copyFrom_5 rfl ?_ | refine E_aload_nN d_Mo_copyFrom_5 rfl ?_
  refine E_getR d_Mo_copyFrom_6 gf_Mo_9 (by first | exact hG.m ha | exact hG.m hb | exact hG.m1 ha | exact hG.m1 hb | exact hG.m2 ha | exact hG.m2 hb) (by first | exact hR.m0 ha | exact hR.m0 hb | exact hR.m1 ha | exact hR.m1 hb) ?_
  refine E_iconst (v := nI 0) d_Mo_copyFrom_9 rfl ?_
  first | refine E_aload_n d_Mo_copyFrom_10 rfl ?_ | refine E_aload_nN d_Mo_copyFrom_10 rfl ?_
  refine E_getR d_Mo_copyFrom_11 gf_Mo_9 (by first | exact hG.m ha | exact hG.m hb | exact hG.m1 ha | exact hG.m1 hb | exact hG.m2 ha | exact hG.m2 hb) (by first | exact hR.m0 ha | exact hR.m0 hb | exact hR.m1 ha | exact hR.m1 hb) ?_
  refine E_alen d_Mo_copyFrom_14 (by first | exact hG.m ha | exact hG.m hb | exact hG.m1 ha | exact hG.m1 hb | exact hG.m2 ha | exact hG.m2 hb) (by decide) rfl ?_
  refine E_copy d_Mo_copyFrom_15 ml_Mo_22 (by decide) (Nat.le_of_ble_eq_true rfl) (by first | exact hG.m ha | exact hG.m hb | exact hG.m1 ha | exact hG.m1 hb | exact hG.m2 ha | exact hG.m2 hb) (by first | exact hG.m ha | exact hG.m hb | exact hG.m1 ha | exact hG.m1 hb | exact hG.m2 ha | exact hG.m2 hb) rfl rfl rfl (by omega) (by omega) (by decide) (by decide) ?_
  first | refine E_aload_n d_Mo_copyFrom_18 rfl ?_ | refine E_aload_nN d_Mo_copyFrom_18 rfl ?_
  refine E_getR d_Mo_copyFrom_19 gf_Mo_15 (by first | exact hG.m ha | exact hG.m hb | exact hG.m1 ha | exact hG.m1 hb | exact hG.m2 ha | exact hG.m2 hb) (by first | exact hR.m0 ha | exact hR.m0 hb | exact hR.m1 ha | exact hR.m1 hb) ?_
  refine E_iconst (v := nI 0) d_Mo_copyFrom_22 rfl ?_
  first | refine E_aload_n d_Mo_copyFrom_23 rfl ?_ | refine E_aload_nN d_Mo_copyFrom_23 rfl ?_
  refine E_getR d_Mo_copyFrom_24 gf_Mo_15 (by first | exact hG.m ha | exact hG.m hb | exact hG.m1 ha | exact hG.m1 hb | exact hG.m2 ha | exact hG.m2 hb) (by first | exact hR.m0 ha | exact hR.m0 hb | exact hR.m1 ha | exact hR.m1 hb) ?_
  refine E_iconst (v := nI 0) d_Mo_copyFrom_27 rfl ?_
  first | refine E_aload_n d_Mo_copyFrom_28 rfl ?_ | refine E_aload_nN d_Mo_copyFrom_28 rfl ?_
  refine E_getR d_Mo_copyFrom_29 gf_Mo_15 (by first | exact hG.m ha | exact hG.m hb | exact hG.m1 ha | exact hG.m1 hb | exact hG.m2 ha | exact hG.m2 hb) (by first | exact hR.m0 ha | exact hR.m0 hb | exact hR.m1 ha | exact hR.m1 hb) ?_
  refine E_alen d_Mo_copyFrom_32 (by first | exact hG.m ha | exact hG.m hb | exact hG.m1 ha | exact hG.m1 hb | exact hG.m2 ha | exact hG.m2 hb) (by decide) rfl ?_
  refine E_copy d_Mo_copyFrom_33 ml_Mo_22 (by decide) (Nat.le_of_ble_eq_true rfl) (by first | exact hG.m ha | exact hG.m hb | exact hG.m1 ha | exact hG.m1 hb | exact hG.m2 ha | exact hG.m2 hb) (by first | exact hG.m ha | exact hG.m hb | exact hG.m1 ha | exact hG.m1 hb | exact hG.m2 ha | exact hG.m2 hb) rfl rfl rfl (by omega) (by omega) (by decide) (by decide) ?_
  first | refine E_aload_n d_Mo_copyFrom_36 rfl ?_ | refine E_aload_nN d_Mo_copyFrom_36 rfl ?_
  first | refine E_aload_n d_Mo_copyFrom_37 rfl ?_ | refine E_aload_nN d_Mo_copyFrom_37 rfl ?_
  refine E_getI d_Mo_copyFrom_38 gf_Mo_28 (by first | exact hG.m ha | exact hG.m hb | exact hG.m1 ha | exact hG.m1 hb | exact hG.m2 ha | exact hG.m2 hb) (by rfl) ?_
  refine E_putI d_Mo_copyFrom_41 gf_Mo_28 (by first | exact hG.m ha | exact hG.m hb | exact hG.m1 ha | exact hG.m1 hb | exact hG.m2 ha | exact hG.m2 hb) rfl rfl ?_
  first | refine E_aload_n d_Mo_copyFrom_44 rfl ?_ | refine E_aload_nN d_Mo_copyFrom_44 rfl ?_
  first | refine E_aload_n d_Mo_copyFrom_45 rfl ?_ | refine E_aload_nN d_Mo_copyFrom_45 rfl ?_
  refine E_getI d_Mo_copyFrom_46 gf_Mo_31 (by first | exact hG.m ha | exact hG.m hb | exact hG.m1 ha | exact hG.m1 hb | exact hG.m2 ha | exact hG.m2 hb) (by rfl) ?_
  refine E_putI d_Mo_copyFrom_49 gf_Mo_31 (by first | exact hG.m ha | exact hG.m hb | exact hG.m1 ha | exact hG.m1 hb | exact hG.m2 ha | exact hG.m2 hb) rfl rfl ?_
  first | refine E_aload_n d_Mo_copyFrom_52 rfl ?_ | refine E_aload_nN d_Mo_copyFrom_52 rfl ?_
  first | refine E_aload_n d_Mo_copyFrom_53 rfl ?_ | refine E_aload_nN d_Mo_copyFrom_53 rfl ?_
  refine E_getI d_Mo_copyFrom_54 gf_Mo_34 (by first | exact hG.m ha | exact hG.m hb | exact hG.m1 ha | exact hG.m1 hb | exact hG.m2 ha | exact hG.m2 hb) (by rfl) ?_
  refine E_putI d_Mo_copyFrom_57 gf_Mo_34 (by first | exact hG.m ha | exact hG.m hb | exact hG.m1 ha | exact hG.m1 hb | exact hG.m2 ha | exact hG.m2 hb) rfl rfl ?_
  first | refine E_aload_n d_Mo_copyFrom_60 rfl ?_ | refine E_aload_nN d_Mo_copyFrom_60 rfl ?_
  first | refine E_aload_n d_Mo_copyFrom_61 rfl ?_ | refine E_aload_nN d_Mo_copyFrom_61 rfl ?_
  refine E_getI d_Mo_copyFrom_62 gf_Mo_37 (by first | exact hG.m ha | exact hG.m hb | exact hG.m1 ha | exact hG.m1 hb | exact hG.m2 ha | exact hG.m2 hb) (by rfl) ?_
  refine E_putI d_Mo_copyFrom_65 gf_Mo_37 (by first | exact hG.m ha | exact hG.m hb | exact hG.m1 ha | exact hG.m1 hb | exact hG.m2 ha | exact hG.m2 hb) rfl rfl ?_
  first | refine E_aload_n d_Mo_copyFrom_68 rfl ?_ | refine E_aload_nN d_Mo_copyFrom_68 rfl ?_
  first | refine E_aload_n d_Mo_copyFrom_69 rfl ?_ | refine E_aload_nN d_Mo_copyFrom_69 rfl ?_
  refine E_getI d_Mo_copyFrom_70 gf_Mo_18 (by first | exact hG.m ha | exact hG.m hb | exact hG.m1 ha | exact hG.m1 hb | exact hG.m2 ha | exact hG.m2 hb) (by rfl) ?_
  refine E_putI d_Mo_copyFrom_73 gf_Mo_18 (by first | exact hG.m ha | exact hG.m hb | exact hG.m1 ha | exact hG.m1 hb | exact hG.m2 ha | exact hG.m2 hb) rfl rfl ?_
  first | refine E_aload_n d_Mo_copyFrom_76 rfl ?_ | refine E_aload_nN d_Mo_copyFrom_76 rfl ?_
  first | refine E_aload_n d_Mo_copyFrom_77 rfl ?_ | refine E_aload_nN d_Mo_copyFrom_77 rfl ?_
  refine E_getI d_Mo_copyFrom_78 gf_Mo_40 (by first | exact hG.m ha | exact hG.m hb | exact hG.m1 ha | exact hG.m1 hb | exact hG.m2 ha | exact hG.m2 hb) (by rfl) ?_
  refine E_putI d_Mo_copyFrom_81 gf_Mo_40 (by first | exact hG.m ha | exact hG.m hb | exact hG.m1 ha | exact hG.m1 hb | exact hG.m2 ha | exact hG.m2 hb) rfl rfl ?_
  refine E_retV d_Mo_copyFrom_84 rfl ?_
  refine kk _ _ _ _ _ _ _ _ _ rfl (fun j hj => cpy_all hj) (fun j hj => (cpy_all hj).trans ?_) ?_ ?_ ?_ ?_ ?_ ?_
  · rw [wA_ne (by omega)]
  · rw [wA_ne (by omega), wA_ne (by omega)]
  · rw [mI_wx (by omega), wA_ne (by omega), wA_ne (by omega)]
  · rw [mI_wx (by omega), mI_wx (by omega), wA_ne (by omega), wA_ne (by omega)]
  · rw [mI_wx (by omega), mI_wx (by omega), mI_wx (by omega), wA_ne (by omega), wA_ne (by omega)]
  · rw [mI_wx (by omega), mI_wx (by omega), mI_wx (by omega), mI_wx (by omega), wA_ne (by omega), wA_ne (by omega)]
  · rw [mI_wx (by omega), mI_wx (by omega), mI_wx (by omega), mI_wx (by omega), mI_wx (by omega), wA_ne (by omega), wA_ne (by omega)]
def Mo.setB (m : Mo) (l : List (Nat × Nat × Nat)) : Mo := (m.lean, l, m.people, m.answers, m.figure, m.round, m.x)
theorem MoC_book {m : Mo} {a : Nat} {M M' : Mem} {l : List (Nat × Nat × Nat)} (h : MoC m a M) (e0 : ∀ j, j ≠ 7 → mI M' a j = mI M a j) (e1 : mI M' (a + 1) = mI M (a + 1)) (e7 : mI M' a 7 = nI l.length) (e2 : ∀ i, i < l.length → mI M' (a + 2) (3 * i) = nI (l.getD i (0, 0, 0)).1 ∧ mI M' (a + 2) (3 * i + 1) = nI (l.getD i (0, 0, 0)).2.1 ∧ mI M' (a + 2) (3 * i + 2) = nI (l.getD i (0, 0, 0)).2.2) : MoC (m.setB l) a M' := by
  obtain ⟨m0, m1, m2, m3, m4, m5, m6, m7⟩ := h
  exact ⟨(e0 _ (by decide)).trans m0, (e0 _ (by decide)).trans m1, (e0 _ (by decide)).trans m2, (e0 _ (by decide)).trans m3, (e0 _ (by decide)).trans m4, e7, by rw [e1]; exact m6, e2⟩
theorem sp_Mo_writeDown {G : Geo} {M : Mem} {a t : Nat} {m : Mo} (hG : GC G) (hR : RC M) (ha : MoAd a) (hm : MoC m a M) (hl : m.book.length ≤ 30) : E 1 0 0 Y_Mo_writeDown 0 [some (.ref a), some (.int (nI t))] [] G M (QV G fun M' => Sc (Bk a) M M' ∧ MoC (m.setB (push30 m.book (m.round, t, m.figure))) a M') := by
  have b0 : Bk a a := ⟨by omega, by omega⟩
  have b2 : Bk a (a + 2) := ⟨by omega, by omega⟩
  have K : ∀ M1 l0, Sc (Bk a) M M1 → l0.length ≤ 29 → push30 m.book (m.round, t, m.figure) = l0 ++ [(m.round, t, m.figure)] → mI M1 a 7 = nI l0.length → (∀ j, j ≠ 7 → mI M1 a j = mI M a j) → mI M1 (a + 1) = mI M (a + 1) → (∀ i, i < l0.length → mI M1 (a + 2) (3 * i) = nI (l0.getD i (0, 0, 0)).1 ∧ mI M1 (a + 2) (3 * i + 1) = nI (l0.getD i (0, 0, 0)).2.1 ∧ mI M1 (a + 2) (3 * i + 2) = nI (l0.getD i (0, 0, 0)).2.2) → E 1 0 0 Y_Mo_writeDown 35 [some (.ref a), some (.int (nI t))] [] G M1 (QV G fun M' => Sc (Bk a) M M' ∧ MoC (m.setB (push30 m.book (m.round, t, m.figure))) a M') := by
    intro M1 l0 hX hl0 hp e7 e0 e1 e2
    have hR := hR.sc hX
    have r5 : mI M1 a 5 = nI m.round := (e0 5 (by decide)).trans hm.round
    have r4 : mI M1 a 4 = nI m.figure := (e0 4 (by decide)).trans hm.figure
    have fin : ∀ M', M' = wI (wI (wI (wI M1 (a + 2) (l0.length * 3 + 0) (nI m.round)) (a + 2) (l0.length * 3 + 1) (nI t)) (a + 2) (l0.length * 3 + 2) (nI m.figure)) a 7 (nI (l0.length + 1)) → Sc (Bk a) M M' ∧ MoC (m.setB (push30 m.book (m.round, t, m.figure))) a M' := by
      intro M' e
      subst e
      refine ⟨(((hX.wI b2).wI b2).wI b2).wI b0, MoC_book hm (fun j hj => ?_) ?_ ?_ (fun i hi => ?_)⟩
      · rw [mI_wa, if_neg hj, mI_wx (by omega), mI_wx (by omega), mI_wx (by omega)]
        exact e0 j hj
      · rw [mI_ne (by omega), mI_ne (by omega), mI_ne (by omega), mI_ne (by omega)]
        exact e1
      · rw [mI_wa, if_pos rfl, hp, List.length_append]
        rfl
      · rw [hp] at hi ⊢
        have hi2 : i < l0.length + 1 := by simpa using hi
        have f3 : ∀ j, mI (wI (wI (wI (wI M1 (a + 2) (l0.length * 3 + 0) (nI m.round)) (a + 2) (l0.length * 3 + 1) (nI t)) (a + 2) (l0.length * 3 + 2) (nI m.figure)) a 7 (nI (l0.length + 1))) (a + 2) j = if j = l0.length * 3 + 2 then nI m.figure else if j = l0.length * 3 + 1 then nI t else if j = l0.length * 3 + 0 then nI m.round else mI M1 (a + 2) j := fun j => by rw [mI_wx (show a + 2 ≠ a by omega), mI_wa, mI_wa, mI_wa]
        rw [getD_snoc, f3, f3, f3]
        by_cases q : i < l0.length
        · rw [if_pos q, if_neg (by omega), if_neg (by omega), if_neg (by omega), if_neg (by omega), if_neg (by omega), if_neg (by omega), if_neg (by omega), if_neg (by omega), if_neg (by omega)]
          exact e2 i q
        · have q2 : i = l0.length := by omega
          rw [if_neg q, if_pos q2, if_neg (by omega), if_neg (by omega), if_pos (by omega), if_neg (by omega), if_pos (by omega), if_pos (by omega)]
          exact ⟨rfl, rfl, rfl⟩
    first | refine E_aload_n d_Mo_writeDown_35 rfl ?_ | refine E_aload_nN d_Mo_writeDown_35 rfl ?_
    refine E_getR d_Mo_writeDown_36 gf_Mo_15 (by first | exact hG.m ha | exact hG.m1 ha | exact hG.m2 ha | exact hG.s (by decide) rfl) (by first | exact hR.m0 ha | exact hR.m1 ha | exact hR.o rfl) ?_
    first | refine E_aload_n d_Mo_writeDown_39 rfl ?_ | refine E_aload_nN d_Mo_writeDown_39 rfl ?_
    refine E_getI d_Mo_writeDown_40 gf_Mo_40 (by first | exact hG.m ha | exact hG.m1 ha | exact hG.m2 ha | exact hG.s (by decide) rfl) (by exact e7) ?_
    refine E_iconst (v := nI 3) d_Mo_writeDown_43 rfl ?_
    first | (with_reducible refine E_isN2 ?_; refine E_imulN d_Mo_writeDown_44 ?_) | refine E_imul d_Mo_writeDown_44 ?_
    refine E_iconst (v := nI 0) d_Mo_writeDown_45 rfl ?_
    first | (with_reducible refine E_isN2 ?_; refine E_iaddN d_Mo_writeDown_46 ?_) | refine E_iadd d_Mo_writeDown_46 ?_
    first | refine E_aload_n d_Mo_writeDown_47 rfl ?_ | refine E_aload_nN d_Mo_writeDown_47 rfl ?_
    refine E_getI d_Mo_writeDown_48 gf_Mo_37 (by first | exact hG.m ha | exact hG.m1 ha | exact hG.m2 ha | exact hG.s (by decide) rfl) (by exact r5) ?_
    refine E_SN3 (sp_TP_put (hG.m2 ha) (by decide) (by omega)) d_Mo_writeDown_51 nl_Mo_55 cb_TP_put cs_TP_put ⟨by decide, by decide⟩ rfl (Nat.le_of_ble_eq_true rfl) (Nat.le_of_ble_eq_true rfl) (kV fun M1 hc => ?_)
    subst hc
    first | refine E_aload_n d_Mo_writeDown_54 rfl ?_ | refine E_aload_nN d_Mo_writeDown_54 rfl ?_
    refine E_getR d_Mo_writeDown_55 gf_Mo_15 (by first | exact hG.m ha | exact hG.m1 ha | exact hG.m2 ha | exact hG.s (by decide) rfl) (by first | exact hR.m0 ha | exact hR.m1 ha | exact hR.o rfl) ?_
    first | refine E_aload_n d_Mo_writeDown_58 rfl ?_ | refine E_aload_nN d_Mo_writeDown_58 rfl ?_
    refine E_getI d_Mo_writeDown_59 gf_Mo_40 (by first | exact hG.m ha | exact hG.m1 ha | exact hG.m2 ha | exact hG.s (by decide) rfl) (by exact (mI_wx (by omega)).trans e7) ?_
    refine E_iconst (v := nI 3) d_Mo_writeDown_62 rfl ?_
    first | (with_reducible refine E_isN2 ?_; refine E_imulN d_Mo_writeDown_63 ?_) | refine E_imul d_Mo_writeDown_63 ?_
    refine E_iconst (v := nI 1) d_Mo_writeDown_64 rfl ?_
    first | (with_reducible refine E_isN2 ?_; refine E_iaddN d_Mo_writeDown_65 ?_) | refine E_iadd d_Mo_writeDown_65 ?_
    refine E_iload_n d_Mo_writeDown_66 rfl ?_
    refine E_SN3 (sp_TP_put (hG.m2 ha) (by decide) (by omega)) d_Mo_writeDown_67 nl_Mo_55 cb_TP_put cs_TP_put ⟨by decide, by decide⟩ rfl (Nat.le_of_ble_eq_true rfl) (Nat.le_of_ble_eq_true rfl) (kV fun M1 hc => ?_)
    subst hc
    first | refine E_aload_n d_Mo_writeDown_70 rfl ?_ | refine E_aload_nN d_Mo_writeDown_70 rfl ?_
    refine E_getR d_Mo_writeDown_71 gf_Mo_15 (by first | exact hG.m ha | exact hG.m1 ha | exact hG.m2 ha | exact hG.s (by decide) rfl) (by first | exact hR.m0 ha | exact hR.m1 ha | exact hR.o rfl) ?_
    first | refine E_aload_n d_Mo_writeDown_74 rfl ?_ | refine E_aload_nN d_Mo_writeDown_74 rfl ?_
    refine E_getI d_Mo_writeDown_75 gf_Mo_40 (by first | exact hG.m ha | exact hG.m1 ha | exact hG.m2 ha | exact hG.s (by decide) rfl) (by exact (mI_wx (by omega)).trans ((mI_wx (by omega)).trans e7)) ?_
    refine E_iconst (v := nI 3) d_Mo_writeDown_78 rfl ?_
    first | (with_reducible refine E_isN2 ?_; refine E_imulN d_Mo_writeDown_79 ?_) | refine E_imul d_Mo_writeDown_79 ?_
    refine E_iconst (v := nI 2) d_Mo_writeDown_80 rfl ?_
    first | (with_reducible refine E_isN2 ?_; refine E_iaddN d_Mo_writeDown_81 ?_) | refine E_iadd d_Mo_writeDown_81 ?_
    first | refine E_aload_n d_Mo_writeDown_82 rfl ?_ | refine E_aload_nN d_Mo_writeDown_82 rfl ?_
    refine E_getI d_Mo_writeDown_83 gf_Mo_34 (by first | exact hG.m ha | exact hG.m1 ha | exact hG.m2 ha | exact hG.s (by decide) rfl) (by exact (mI_wx (by omega)).trans ((mI_wx (by omega)).trans r4)) ?_
    refine E_SN3 (sp_TP_put (hG.m2 ha) (by decide) (by omega)) d_Mo_writeDown_86 nl_Mo_55 cb_TP_put cs_TP_put ⟨by decide, by decide⟩ rfl (Nat.le_of_ble_eq_true rfl) (Nat.le_of_ble_eq_true rfl) (kV fun M1 hc => ?_)
    subst hc
    first | refine E_aload_n d_Mo_writeDown_89 rfl ?_ | refine E_aload_nN d_Mo_writeDown_89 rfl ?_
    refine E_dup d_Mo_writeDown_90 rfl ?_
    refine E_getI d_Mo_writeDown_91 gf_Mo_40 (by first | exact hG.m ha | exact hG.m1 ha | exact hG.m2 ha | exact hG.s (by decide) rfl) (by exact (mI_wx (by omega)).trans ((mI_wx (by omega)).trans ((mI_wx (by omega)).trans e7))) ?_
    refine E_iconst (v := nI 1) d_Mo_writeDown_94 rfl ?_
    first | (with_reducible refine E_isN2 ?_; refine E_iaddN d_Mo_writeDown_95 ?_) | refine E_iadd d_Mo_writeDown_95 ?_
    refine E_putI d_Mo_writeDown_96 gf_Mo_40 (by first | exact hG.m ha | exact hG.m1 ha | exact hG.m2 ha | exact hG.s (by decide) rfl) rfl rfl ?_
    refine E_retV d_Mo_writeDown_99 rfl ?_
    exact fin _ rfl
  by_cases h30 : m.book.length = 30
  · have K2 := K (wI (wA M (a + 2) (va_cpy (mI M (a + 2)) (mI M (a + 2)) 3 0 87)) a 7 (nI 29)) m.book.tail ((Sc.rf.wA b2).wI b0) (by rw [List.length_tail, h30]; decide) (by unfold push30; rw [if_pos h30]) (by rw [mI_wa, if_pos rfl, List.length_tail, h30]) (fun j hj => by rw [mI_wa, if_neg hj, wA_ne (by omega)]) (by rw [mI_ne (by omega), wA_ne (by omega)]) (fun i hi => by
      rw [List.length_tail, h30] at hi
      have e : ∀ j, j < 87 → mI (wI (wA M (a + 2) (va_cpy (mI M (a + 2)) (mI M (a + 2)) 3 0 87)) a 7 (nI 29)) (a + 2) j = mI M (a + 2) (3 + j) := fun j hj => by
        rw [mI_wx (by omega), wA_at, pk_cpy_in (Nat.zero_le _) (by omega), Nat.sub_zero]
      rw [e _ (by omega), e _ (by omega), e _ (by omega), getD_tail]
      have hb := hm.book (i := i + 1) (by omega)
      rw [show 3 + 3 * i = 3 * (i + 1) by omega, show 3 + (3 * i + 1) = 3 * (i + 1) + 1 by omega, show 3 + (3 * i + 2) = 3 * (i + 1) + 2 by omega]
      exact hb)
    first | refine E_aload_n d_Mo_writeDown_0 rfl ?_ | refine E_aload_nN d_Mo_writeDown_0 rfl ?_
    refine E_getI d_Mo_writeDown_1 gf_Mo_40 (by first | exact hG.m ha | exact hG.m1 ha | exact hG.m2 ha | exact hG.s (by decide) rfl) (by first | exact hm.people | exact hm.answers | exact hm.figure | exact hm.round | exact hm.x | exact hm.written) ?_
    refine E_bipush (v := nI 30) d_Mo_writeDown_4 (by decide) ?_
    first | (with_reducible refine E_isN2 ?_; refine E_icmp_lt 35 d_Mo_writeDown_6 rfl (nb_lt (by omega) (by omega) fun h6 => ?_) (nb_nlt (by omega) (by omega) fun h6 => ?_)) | refine E_icmp_lt 35 d_Mo_writeDown_6 rfl (fun h6 => ?_) (fun h6 => ?_)
    · exfalso; omega
    first | refine E_aload_n d_Mo_writeDown_9 rfl ?_ | refine E_aload_nN d_Mo_writeDown_9 rfl ?_
    refine E_getR d_Mo_writeDown_10 gf_Mo_15 (by first | exact hG.m ha | exact hG.m1 ha | exact hG.m2 ha | exact hG.s (by decide) rfl) (by first | exact hR.m0 ha | exact hR.m1 ha | exact hR.o rfl) ?_
    refine E_iconst (v := nI 3) d_Mo_writeDown_13 rfl ?_
    first | refine E_aload_n d_Mo_writeDown_14 rfl ?_ | refine E_aload_nN d_Mo_writeDown_14 rfl ?_
    refine E_getR d_Mo_writeDown_15 gf_Mo_15 (by first | exact hG.m ha | exact hG.m1 ha | exact hG.m2 ha | exact hG.s (by decide) rfl) (by first | exact hR.m0 ha | exact hR.m1 ha | exact hR.o rfl) ?_
    refine E_iconst (v := nI 0) d_Mo_writeDown_18 rfl ?_
    first | refine E_aload_n d_Mo_writeDown_19 rfl ?_ | refine E_aload_nN d_Mo_writeDown_19 rfl ?_
    refine E_getR d_Mo_writeDown_20 gf_Mo_15 (by first | exact hG.m ha | exact hG.m1 ha | exact hG.m2 ha | exact hG.s (by decide) rfl) (by first | exact hR.m0 ha | exact hR.m1 ha | exact hR.o rfl) ?_
    refine E_alen d_Mo_writeDown_23 (by first | exact hG.m ha | exact hG.m1 ha | exact hG.m2 ha | exact hG.s (by decide) rfl) (by decide) rfl ?_
    refine E_iconst (v := nI 3) d_Mo_writeDown_24 rfl ?_
    first | (with_reducible refine E_isN2 ?_; refine E_isubN d_Mo_writeDown_25 (by omega) ?_) | refine E_isub d_Mo_writeDown_25 ?_
    refine E_copy d_Mo_writeDown_26 ml_Mo_22 (by decide) (Nat.le_of_ble_eq_true rfl) (by first | exact hG.m ha | exact hG.m1 ha | exact hG.m2 ha | exact hG.s (by decide) rfl) (by first | exact hG.m ha | exact hG.m1 ha | exact hG.m2 ha | exact hG.s (by decide) rfl) rfl rfl rfl (by omega) (by omega) (by decide) (by decide) ?_
    first | refine E_aload_n d_Mo_writeDown_29 rfl ?_ | refine E_aload_nN d_Mo_writeDown_29 rfl ?_
    refine E_bipush (v := nI 29) d_Mo_writeDown_30 (by decide) ?_
    refine E_putI d_Mo_writeDown_32 gf_Mo_40 (by first | exact hG.m ha | exact hG.m1 ha | exact hG.m2 ha | exact hG.s (by decide) rfl) rfl rfl ?_
    exact K2
  · have K2 := K M m.book Sc.rf (by omega) (by unfold push30; rw [if_neg h30]) hm.written (fun _ _ => rfl) rfl (fun i hi => hm.book hi)
    first | refine E_aload_n d_Mo_writeDown_0 rfl ?_ | refine E_aload_nN d_Mo_writeDown_0 rfl ?_
    refine E_getI d_Mo_writeDown_1 gf_Mo_40 (by first | exact hG.m ha | exact hG.m1 ha | exact hG.m2 ha | exact hG.s (by decide) rfl) (by first | exact hm.people | exact hm.answers | exact hm.figure | exact hm.round | exact hm.x | exact hm.written) ?_
    refine E_bipush (v := nI 30) d_Mo_writeDown_4 (by decide) ?_
    first | (with_reducible refine E_isN2 ?_; refine E_icmp_lt 35 d_Mo_writeDown_6 rfl (nb_lt (by omega) (by omega) fun h6 => ?_) (nb_nlt (by omega) (by omega) fun h6 => ?_)) | refine E_icmp_lt 35 d_Mo_writeDown_6 rfl (fun h6 => ?_) (fun h6 => ?_)
    rotate_left
    · exfalso; omega
    exact K2
