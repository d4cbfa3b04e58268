section CTb
variable {G G0 : Geo} {M M0 : Mem} {c n : Nat} {r : Prop}
def RBd (g : Nat) (M : Mem) : Prop := ∀ a j q, mR M a j = some q → q < g
theorem RBd.mono {g g' : Nat} (h : RBd g M) (e : g ≤ g') : RBd g' M := fun a j q z => Nat.lt_of_lt_of_le (h a j q z) e
theorem RBd.cN {g : Nat} (h : RBd g M) (b : Nat) : RBd g (cN M b) := fun a j q z => by
  rw [mR_cN] at z
  by_cases y : a = b
  · rw [if_pos y] at z; cases z
  · rw [if_neg y] at z; exact h a j q z
theorem RBd.wR {g b i r : Nat} (h : RBd g M) (e : r < g) : RBd g (wR M b i (some r)) := fun a j q z => by
  rw [mR_wR] at z
  by_cases y : a = b ∧ j = i
  · rw [if_pos y] at z; exact Option.some.inj z ▸ e
  · rw [if_neg y] at z; exact h a j q z
theorem RBd.wI {g b i : Nat} {v : Int32} (h : RBd g M) : RBd g (wI M b i v) := h
def isMk (k : Nat) : Prop := k = 1 ∨ (14 ≤ k ∧ k < 104 ∧ (k - 14) % 3 = 0)
def fJ (k : Nat) : Nat := [0, 0, 0, 0, 1, 2, 3, 4, 7, 10, 11, 13, 14, 16].getD k 0
def CRI (c n : Nat) (r : Prop) (G0 : Geo) (M0 : Mem) (G : Geo) (M : Mem) : Prop :=
  G.1 = c + n ∧ (∀ a, a < c → G.2 a = G0.2 a) ∧ (∀ k, k < n → G.2 (c + k) = shCr k) ∧ (∀ a, a < c → mI M a = mI M0 a ∧ mL M a = mL M0 a ∧ mR M a = mR M0 a) ∧ (∀ j k, rmCr c j = some (c + k) → k < n → mR M c j = some (c + k)) ∧
  (∀ k, isMk k → k + 2 < n → mR M (c + k) 0 = some (c + k + 1) ∧ mR M (c + k) 1 = some (c + k + 2)) ∧ (∀ i, i < 30 → 14 + 3 * i + 2 < n → mR M (c + 7) i = some (c + 14 + 3 * i)) ∧ (8 < n → ∀ t, mR M (c + 8) t = none) ∧
  (∀ j, j ≠ 9 → mI M c j = 0) ∧ (2 < n → (∀ j, j ≠ 6 → mI M (c + 1) j = 0) ∧ mI M (c + 1) 6 = nI 449) ∧ (6 < n → ∀ j, mI M (c + 6) j = 0) ∧ (13 < n → ∀ j, mI M (c + 13) j = 0) ∧ (r → mI M c 9 = -1) ∧ RBd (c + n) M
theorem CRI.sh (h : CRI c n r G0 M0 G M) {k : Nat} {x : Nat × Nat} (hk : k < n) (e : shCr k = x) : Sh G (c + k) x := ⟨by rw [h.1]; omega, (h.2.2.1 k hk).trans e⟩
theorem CRI.sh0 (h : CRI c n r G0 M0 G M) (hn : 0 < n) : Sh G c (0, 1) := h.sh (k := 0) hn rfl
theorem rmCr_k {j k : Nat} (h : rmCr c j = some (c + k)) : j = fJ k ∧ 1 ≤ k ∧ k ≤ 13 := by
  unfold rmCr at h
  split at h
  all_goals first | (cases h; done) | skip
  all_goals
    have h := Option.some.inj h
    first
    | (have e : k = 1 := by omega
       subst e; exact ⟨rfl, by decide, by decide⟩)
    | (have e : k = 4 := by omega
       subst e; exact ⟨rfl, by decide, by decide⟩)
    | (have e : k = 5 := by omega
       subst e; exact ⟨rfl, by decide, by decide⟩)
    | (have e : k = 6 := by omega
       subst e; exact ⟨rfl, by decide, by decide⟩)
    | (have e : k = 7 := by omega
       subst e; exact ⟨rfl, by decide, by decide⟩)
    | (have e : k = 8 := by omega
       subst e; exact ⟨rfl, by decide, by decide⟩)
    | (have e : k = 9 := by omega
       subst e; exact ⟨rfl, by decide, by decide⟩)
    | (have e : k = 10 := by omega
       subst e; exact ⟨rfl, by decide, by decide⟩)
    | (have e : k = 11 := by omega
       subst e; exact ⟨rfl, by decide, by decide⟩)
    | (have e : k = 12 := by omega
       subst e; exact ⟨rfl, by decide, by decide⟩)
    | (have e : k = 13 := by omega
       subst e; exact ⟨rfl, by decide, by decide⟩)
theorem CRI.arr (h : CRI c n r G0 M0 G M) (hn : 4 ≤ n ∧ n ≤ 13) {x : Nat × Nat} (hx : shCr n = x) {j : Nat} (hj : j = fJ n) : CRI c (n + 1) r G0 M0 (ga G x) (wR (cN M G.1) c j (some G.1)) := by
  obtain ⟨h1, h2, h3, h4, h5, h6, h7, h8, h9, h10, h11, h12, h13, h14⟩ := h
  have eI : ∀ k, k < n → mI (wR (cN M G.1) c j (some G.1)) (c + k) = mI M (c + k) := fun k hk => by
    show upda M.1 G.1 (fun _ => 0) (c + k) = _
    exact upda_ne _ (by omega)
  have eN : mI (wR (cN M G.1) c j (some G.1)) (c + n) = fun _ => 0 := by
    show upda M.1 G.1 (fun _ => 0) (c + n) = _
    rw [← h1]; exact upda_at _
  have eR : ∀ k i, 1 ≤ k → k < n → mR (wR (cN M G.1) c j (some G.1)) (c + k) i = mR M (c + k) i := fun k i k1 hk => by
    rw [mR_wR, if_neg (fun z => by omega), mR_cN, if_neg (by omega)]
  have eR0 : ∀ i, mR (wR (cN M G.1) c j (some G.1)) c i = if i = j then some (c + n) else mR M c i := fun i => by
    rw [mR_wR, mR_cN, if_neg (show ¬ c = G.1 by omega), h1]
    by_cases q : i = j
    · rw [if_pos ⟨rfl, q⟩, if_pos q]
    · rw [if_neg (fun z => q z.2), if_neg q]
  refine ⟨by show G.1 + 1 = _; omega, fun a ha => ?_, fun k hk => ?_, fun a ha => ⟨?_, ?_, funext fun i => ?_⟩, fun i k hi hk => ?_, fun k hk hk2 => ?_, fun i hi hi2 => by omega, fun _ t => ?_, fun i hi => ?_, fun _ => ⟨fun i hi => ?_, ?_⟩, fun hk i => ?_, fun hk i => ?_, fun hr => ?_, ?_⟩
  · show (if a = G.1 then x else G.2 a) = _
    rw [if_neg (by omega)]; exact h2 a ha
  · show (if c + k = G.1 then x else G.2 (c + k)) = _
    by_cases q : k = n
    · rw [if_pos (by omega), q, hx]
    · rw [if_neg (by omega)]; exact h3 k (by omega)
  · show upda M.1 G.1 (fun _ => 0) a = _
    rw [upda_ne _ (by omega)]; exact (h4 a ha).1
  · show upda M.2.1 G.1 (fun _ => 0) a = _
    rw [upda_ne _ (by omega)]; exact (h4 a ha).2.1
  · rw [mR_wR, if_neg (fun z => by omega), mR_cN, if_neg (by omega), (h4 a ha).2.2]
  · rw [eR0]
    obtain ⟨z1, z2, z3⟩ := rmCr_k hi
    by_cases q : i = j
    · rw [if_pos q]
      have := h5 i k hi
      by_cases q2 : k = n
      · rw [q2]
      · exfalso
        have e : fJ k = fJ n := by rw [← z1, q, hj]
        have inj : ∀ a, a < 14 → ∀ b, b < 14 → (4 ≤ b ∧ a ≠ 2 ∧ a ≠ 3 ∧ 1 ≤ a ∧ fJ a = fJ b) → a = b := by decide
        have k23 : k ≠ 2 ∧ k ≠ 3 := by
          refine ⟨fun z => ?_, fun z => ?_⟩
          all_goals
            subst z
            unfold rmCr at hi
            split at hi
            all_goals first | (cases hi; done) | (have := Option.some.inj hi; omega)
        exact q2 (inj k (by omega) n (by omega) ⟨hn.1, k23.1, k23.2, z2, e⟩)
    · rw [if_neg q]
      refine h5 i k hi ?_
      have : k ≠ n := fun z => q (by rw [z1, z, hj])
      omega
  · have : k + 2 ≠ n := by unfold isMk at hk; omega
    have k1 : 1 ≤ k := by unfold isMk at hk; omega
    rw [eR k 0 k1 (by omega), eR k 1 k1 (by omega)]
    exact h6 k hk (by omega)
  · by_cases q : n = 8
    · rw [mR_wR, if_neg (fun z => by omega), mR_cN, if_pos (by omega)]
    · rw [eR 8 t (by decide) (by omega)]; exact h8 (by omega) t
  · have := eI 0 (by omega)
    rw [Nat.add_zero] at this
    rw [this]; exact h9 i hi
  · rw [eI 1 (by omega)]; exact (h10 (by omega)).1 i hi
  · rw [eI 1 (by omega)]; exact (h10 (by omega)).2
  · by_cases q : n = 6
    · rw [← q, eN]
    · rw [eI 6 (by omega)]; exact h11 (by omega) i
  · by_cases q : n = 13
    · rw [← q, eN]
    · rw [eI 13 (by omega)]; exact h12 (by omega) i
  · have := eI 0 (by omega)
    rw [Nat.add_zero] at this
    rw [this]; exact h13 hr
  · exact ((h14.mono (by omega)).cN _).wR (by omega)
theorem moI_o {a g k : Nat} (h1 : k ≠ a) (h2 : k ≠ g) (h3 : k ≠ g + 1) : mI (moI M a g) k = mI M k ∧ mL (moI M a g) k = mL M k ∧ mR (moI M a g) k = mR M k := by
  unfold moI
  refine ⟨?_, ?_, funext fun i => ?_⟩
  · rw [mI_ne h1]
    show upda (upda M.1 g (fun _ => 0)) (g + 1) (fun _ => 0) k = _
    rw [upda_ne _ h3, upda_ne _ h2]; rfl
  · show upda (upda M.2.1 g (fun _ => 0)) (g + 1) (fun _ => 0) k = _
    rw [upda_ne _ h3, upda_ne _ h2]; rfl
  · show mR (wR (cN (wR (cN M g) a 0 (some g)) (g + 1)) a 1 (some (g + 1))) k i = _
    rw [mR_wR, if_neg (fun z => h1 z.1), mR_cN, if_neg h3, mR_wR, if_neg (fun z => h1 z.1), mR_cN, if_neg h2]
theorem moI_a {a g : Nat} (h : a < g) : mR (moI M a g) a 0 = some g ∧ mR (moI M a g) a 1 = some (g + 1) ∧ ∀ j, mI (moI M a g) a j = if j = 6 then nI 449 else mI M a j := by
  unfold moI
  refine ⟨?_, ?_, fun j => ?_⟩
  · show mR (wR (cN (wR (cN M g) a 0 (some g)) (g + 1)) a 1 (some (g + 1))) a 0 = _
    rw [mR_wR, if_neg (fun z => absurd z.2 (by decide)), mR_cN, if_neg (by omega), mR_wR, if_pos ⟨rfl, rfl⟩]
  · show mR (wR (cN (wR (cN M g) a 0 (some g)) (g + 1)) a 1 (some (g + 1))) a 1 = _
    rw [mR_wR, if_pos ⟨rfl, rfl⟩]
  · rw [mI_wa]
    by_cases q : j = 6
    · rw [if_pos q, if_pos q]
    · rw [if_neg q, if_neg q]
      show upda (upda M.1 g (fun _ => 0)) (g + 1) (fun _ => 0) a j = _
      rw [upda_ne _ (by omega), upda_ne _ (by omega)]; rfl
theorem moG_at (G : Geo) (k : Nat) : (moG (ga G (0, 2))).1 = G.1 + 3 ∧ (moG (ga G (0, 2))).2 k = if k = G.1 + 2 then (1, 90) else if k = G.1 + 1 then (1, 8) else if k = G.1 then (0, 2) else G.2 k := ⟨rfl, rfl⟩
/-- a Moment made at c + n and laid into the cell b, slot j -/
theorem CRI.mom (h : CRI c n r G0 M0 G M) {b j : Nat} (hn : (n = 1 ∧ b = c ∧ j = 0) ∨ ∃ i, i < 30 ∧ n = 14 + 3 * i ∧ b = c + 7 ∧ j = i) (hc : 0 < n) : CRI c (n + 3) r G0 M0 (moG (ga G (0, 2))) (wR (moI (cN M G.1) G.1 (G.1 + 1)) b j (some G.1)) := by
  obtain ⟨h1, h2, h3, h4, h5, h6, h7, h8, h9, h10, h11, h12, h13, h14⟩ := h
  have hmk : isMk n ∧ n + 2 < 104 := by
    unfold isMk
    rcases hn with ⟨z, -, -⟩ | ⟨i, z1, z2, -, -⟩
    · omega
    · omega
  have o : ∀ k, k ≠ G.1 → k ≠ G.1 + 1 → k ≠ G.1 + 2 → mI (wR (moI (cN M G.1) G.1 (G.1 + 1)) b j (some G.1)) k = mI M k ∧ mL (wR (moI (cN M G.1) G.1 (G.1 + 1)) b j (some G.1)) k = mL M k ∧ ∀ i, mR (wR (moI (cN M G.1) G.1 (G.1 + 1)) b j (some G.1)) k i = if k = b ∧ i = j then some G.1 else mR M k i := fun k k0 k1 k2 => by
    obtain ⟨z1, z2, z3⟩ := moI_o (M := cN M G.1) k0 k1 k2
    refine ⟨z1.trans (upda_ne _ k0), z2.trans (upda_ne _ k0), fun i => ?_⟩
    rw [mR_wR, z3, mR_cN, if_neg k0]
  obtain ⟨m1, m2, m3⟩ := moI_a (M := cN M G.1) (show G.1 < G.1 + 1 by omega)
  have hb : b < G.1 := by rcases hn with ⟨z, z2, -⟩ | ⟨i, z1, z2, z3, -⟩ <;> omega
  have n0 : mR (wR (moI (cN M G.1) G.1 (G.1 + 1)) b j (some G.1)) G.1 0 = some (G.1 + 1) := by rw [mR_wR, if_neg (fun z => by omega)]; exact m1
  have n1 : mR (wR (moI (cN M G.1) G.1 (G.1 + 1)) b j (some G.1)) G.1 1 = some (G.1 + 2) := by rw [mR_wR, if_neg (fun z => by omega)]; exact m2
  have nI' : ∀ i, mI (wR (moI (cN M G.1) G.1 (G.1 + 1)) b j (some G.1)) G.1 i = if i = 6 then nI 449 else 0 := fun i => by
    show mI (moI (cN M G.1) G.1 (G.1 + 1)) G.1 i = _
    rw [m3, mI_cN, if_pos rfl]
  refine ⟨by rw [(moG_at G 0).1]; omega, fun a ha => ?_, fun k hk => ?_, fun a ha => ?_, fun i k hi hk => ?_, fun k hk hk2 => ?_, fun i hi hi2 => ?_, fun hk t => ?_, fun i hi => ?_, fun hk => ?_, fun hk i => ?_, fun hk i => ?_, fun hr => ?_, ?_⟩
  · rw [(moG_at G a).2, if_neg (by omega), if_neg (by omega), if_neg (by omega)]; exact h2 a ha
  · rw [(moG_at G _).2]
    have sh3 : shCr n = (0, 2) ∧ shCr (n + 1) = (1, 8) ∧ shCr (n + 2) = (1, 90) := by
      rcases hn with ⟨z, -, -⟩ | ⟨i, z1, z2, -, -⟩
      · subst z; exact ⟨rfl, rfl, rfl⟩
      · subst z2
        have tb : ∀ i, i < 30 → shCr (14 + 3 * i) = (0, 2) ∧ shCr (14 + 3 * i + 1) = (1, 8) ∧ shCr (14 + 3 * i + 2) = (1, 90) := by decide
        exact tb i z1
    by_cases q2 : k = n + 2
    · rw [if_pos (by omega), q2, sh3.2.2]
    · rw [if_neg (by omega)]
      by_cases q1 : k = n + 1
      · rw [if_pos (by omega), q1, sh3.2.1]
      · rw [if_neg (by omega)]
        by_cases q0 : k = n
        · rw [if_pos (by omega), q0, sh3.1]
        · rw [if_neg (by omega)]; exact h3 k (by omega)
  · obtain ⟨z1, z2, z3⟩ := o a (by omega) (by omega) (by omega)
    have hba : ¬ a = b := by rcases hn with ⟨-, y, -⟩ | ⟨i, -, -, y, -⟩ <;> omega
    exact ⟨z1.trans (h4 a ha).1, z2.trans (h4 a ha).2.1, funext fun i => by rw [z3, if_neg (fun y => hba y.1), (h4 a ha).2.2]⟩
  · rw [(o c (by omega) (by omega) (by omega)).2.2]
    obtain ⟨y1, y2, y3⟩ := rmCr_k hi
    rcases hn with ⟨z, z2, z3⟩ | ⟨i', z1, z2, z3, z4⟩
    · subst z; subst z2; subst z3
      by_cases q : i = 0
      · rw [if_pos ⟨rfl, q⟩]
        rw [q] at hi
        have : some (b + 1) = some (b + k) := hi
        rw [h1]; exact this
      · rw [if_neg (fun y => q y.2)]
        refine h5 i k hi ?_
        have k1 : k ≠ 1 := fun y => q (by rw [y1, y]; rfl)
        have k23 : k ≠ 2 ∧ k ≠ 3 := by
          refine ⟨fun z => ?_, fun z => ?_⟩
          all_goals
            subst z
            unfold rmCr at hi
            split at hi
            all_goals first | (cases hi; done) | (have := Option.some.inj hi; omega)
        omega
    · rw [if_neg (fun y => by omega)]
      exact h5 i k hi (by omega)
  · by_cases q : k = n
    · rw [q, ← h1]; exact ⟨n0, n1⟩
    · have k1 : 1 ≤ k := by unfold isMk at hk; omega
      have kn : k + 2 < n := by
        have := hmk.1
        unfold isMk at hk this
        rcases hn with ⟨z, -, -⟩ | ⟨i', z1, z2, -, -⟩ <;> omega
      have kb : ¬ (c + k = b) := by unfold isMk at hk; rcases hn with ⟨-, y, -⟩ | ⟨i', -, -, y, -⟩ <;> omega
      have z3 := (o (c + k) (by omega) (by omega) (by omega)).2.2
      rw [z3, z3, if_neg (fun y => kb y.1), if_neg (fun y => kb y.1)]
      exact h6 k hk kn
  · rcases hn with ⟨z, -, -⟩ | ⟨i', z1, z2, z3, z4⟩
    · omega
    · rw [(o (c + 7) (by omega) (by omega) (by omega)).2.2]
      by_cases q : i = j
      · rw [if_pos ⟨z3.symm, q⟩, h1]; exact congrArg some (by omega)
      · rw [if_neg (fun y => q y.2)]
        exact h7 i hi (by omega)
  · rcases hn with ⟨z, -, -⟩ | ⟨i', z1, z2, z3, z4⟩
    · omega
    · rw [(o (c + 8) (by omega) (by omega) (by omega)).2.2, if_neg (fun y => by omega)]
      exact h8 (by omega) t
  · rw [(o c (by omega) (by omega) (by omega)).1]; exact h9 i hi
  · by_cases q : n = 1
    · have e : c + 1 = G.1 := by omega
      rw [e]
      exact ⟨fun i hi => by rw [nI', if_neg hi], by rw [nI', if_pos rfl]⟩
    · have n14 : 14 ≤ n := by rcases hn with ⟨z, -, -⟩ | ⟨i', z1, z2, -, -⟩ <;> omega
      rw [(o (c + 1) (by omega) (by omega) (by omega)).1]
      exact h10 (by omega)
  · have n14 : 14 ≤ n := by rcases hn with ⟨z, -, -⟩ | ⟨i', z1, z2, -, -⟩ <;> omega
    rw [(o (c + 6) (by omega) (by omega) (by omega)).1]
    exact h11 (by omega) i
  · have n14 : 14 ≤ n := by rcases hn with ⟨z, -, -⟩ | ⟨i', z1, z2, -, -⟩ <;> omega
    rw [(o (c + 13) (by omega) (by omega) (by omega)).1]
    exact h12 (by omega) i
  · rw [(o c (by omega) (by omega) (by omega)).1]; exact h13 hr
  · exact RBd.wR (RBd.wI (RBd.wR (RBd.cN (RBd.wR (RBd.cN (RBd.cN (h14.mono (by omega)) _) _) (by omega)) _) (by omega))) (by omega)
theorem CRI.rul (h : CRI c n r G0 M0 G M) (hn : 0 < n) : CRI c n True G0 M0 G (wI M c 9 (-1)) := by
  obtain ⟨h1, h2, h3, h4, h5, h6, h7, h8, h9, h10, h11, h12, h13, h14⟩ := h
  exact ⟨h1, h2, h3, fun a ha => by rw [mI_ne (by omega)]; exact h4 a ha, h5, h6, h7, h8, fun j hj => by rw [mI_wa, if_neg hj]; exact h9 j hj, fun q => by rw [mI_ne (by omega)]; exact h10 q, fun q j => by rw [mI_ne (by omega)]; exact h11 q j, fun q j => by rw [mI_ne (by omega)]; exact h12 q j, fun _ => by rw [mI_wa, if_pos rfl], h14⟩
end CTb
