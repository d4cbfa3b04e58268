section CTd
variable {G : Geo} {M : Mem}
def CrF (c : Nat) (M : Mem) : Prop := (∀ j q, rmCr c j = some q → mR M c j = some q) ∧ (∀ i, i < 30 → mR M (c + 7) i = some (c + 14 + 3 * i)) ∧ (∀ t, mR M (c + 8) t = none) ∧ (∀ j, j ≠ 9 → mI M c j = 0) ∧ mI M c 9 = -1 ∧ (∀ j, j ≠ 6 → mI M (c + 1) j = 0) ∧ mI M (c + 1) 6 = nI 449 ∧ (∀ j, mI M (c + 6) j = 0) ∧ ∀ j, mI M (c + 13) j = 0
theorem CrF.cg {c : Nat} {M' : Mem} (h : CrF c M) (e : ∀ k, k < 14 → mI M' (c + k) = mI M (c + k) ∧ mR M' (c + k) = mR M (c + k)) : CrF c M' := by
  obtain ⟨h1, h2, h3, h4, h5, h6, h7, h8, h9⟩ := h
  have e0 := e 0 (by decide)
  rw [Nat.add_zero] at e0
  exact ⟨fun j q z => by rw [e0.2]; exact h1 j q z, fun i hi => by rw [(e 7 (by decide)).2]; exact h2 i hi, fun t => by rw [(e 8 (by decide)).2]; exact h3 t, fun j hj => by rw [e0.1]; exact h4 j hj, by rw [e0.1]; exact h5, fun j hj => by rw [(e 1 (by decide)).1]; exact h6 j hj, by rw [(e 1 (by decide)).1]; exact h7, fun j => by rw [(e 6 (by decide)).1]; exact h8 j, fun j => by rw [(e 13 (by decide)).1]; exact h9 j⟩
def TPI (n : Nat) (G : Geo) (M : Mem) : Prop := (n = 1 ∨ n = 105 ∨ 209 ≤ n) ∧ G.1 = n ∧ (∀ k, k < n → G.2 k = shC k) ∧ (∀ j q, rmC 0 j = some q → q < n → mR M 0 j = some q) ∧ (∀ a j q, 1 ≤ a → a < n → rmC a j = some q → mR M a j = some q) ∧ (∀ a, MoAd a → a < n → mR M a 0 = some (a + 1) ∧ mR M a 1 = some (a + 2)) ∧ (∀ c, CrAd c → c < n → CrF c M) ∧ (∀ j, mI M 0 j = 0) ∧ (220 < n → mI M 220 1 = 0) ∧ RBd n M
theorem TPI.sh {n k : Nat} {x : Nat × Nat} (h : TPI n G M) (hk : k < n) (e : shC k = x) : Sh G k x := ⟨by rw [h.2.1]; exact hk, (h.2.2.1 k hk).trans e⟩
theorem TPI.st {n n' : Nat} {G' : Geo} {M' : Mem} (h : TPI n G M) (hn : n < n' ∧ (n' = 105 ∨ 209 ≤ n')) (g1 : G'.1 = n') (g2 : ∀ k, k < n' → G'.2 k = if k < n then G.2 k else shC k) (m0 : mI M' 0 = mI M 0) (mo : ∀ a, 1 ≤ a → a < n → mI M' a = mI M a ∧ mR M' a = mR M a) (r0 : ∀ j q, rmC 0 j = some q → q < n' → mR M' 0 j = if q < n then mR M 0 j else some q)
    (ra : ∀ a j q, 1 ≤ a → n ≤ a → a < n' → rmC a j = some q → mR M' a j = some q) (rm : ∀ a, MoAd a → n ≤ a → a < n' → mR M' a 0 = some (a + 1) ∧ mR M' a 1 = some (a + 2)) (cr : ∀ c, CrAd c → n ≤ c → c < n' → CrF c M') (t : n ≤ 220 → 220 < n' → mI M' 220 1 = 0) (rb : RBd n M → RBd n' M') : TPI n' G' M' := by
  obtain ⟨h0, h1, h2, h3, h4, h5, h6, h7, h8, h9⟩ := h
  refine ⟨by omega, g1, fun k hk => ?_, fun j q hj hq => ?_, fun a j q ha hl hq => ?_, fun a ha hl => ?_, fun c hc hl => ?_, fun j => by rw [m0]; exact h7 j, fun hl => ?_, rb h9⟩
  · rw [g2 k hk]
    by_cases z : k < n
    · rw [if_pos z]; exact h2 k z
    · rw [if_neg z]
  · rw [r0 j q hj hq]
    by_cases z : q < n
    · rw [if_pos z]; exact h3 j q hj z
    · rw [if_neg z]
  · by_cases z : a < n
    · rw [(mo a ha z).2]; exact h4 a j q ha z hq
    · exact ra a j q ha (by omega) hl hq
  · by_cases z : a < n
    · have : 1 ≤ a := by unfold MoAd at ha; omega
      rw [(mo a this z).2]; exact h5 a ha z
    · exact rm a ha (by omega) hl
  · by_cases z : c < n
    · refine (h6 c hc z).cg fun k hk => mo _ ?_ ?_
      · unfold CrAd at hc; omega
      · unfold CrAd at hc; omega
    · exact cr c hc (by omega) hl
  · by_cases z : 220 < n
    · rw [(mo 220 (by omega) z).1]; exact h8 z
    · exact t (by omega) hl
theorem rmC_0 {j q : Nat} (h : rmC 0 j = some q) : (j = 0 ∧ q = 1) ∨ (j = 1 ∧ q = 105) ∨ (j = 2 ∧ q = 209) ∨ (j = 3 ∧ q = 212) ∨ (j = 4 ∧ q = 214) ∨ (j = 5 ∧ q = 216) ∨ (j = 6 ∧ q = 220) ∨ (j = 7 ∧ q = 225) ∨ (j = 8 ∧ q = 231) ∨ (j = 9 ∧ q = 232) ∨ (j = 10 ∧ q = 233) := by
  unfold rmC at h
  split at h
  all_goals first | (have e := Option.some.inj h; omega) | (cases h; done) | omega
/-- the Crowd at n is made and laid into the slot j0 -/
theorem TPI.crowd {c j0 : Nat} {G' G1 : Geo} {M' M1 : Mem} (h : TPI c G M) (hc : CrAd c) (hj : rmC 0 j0 = some c) (e1 : ∀ a, a < c → G1.2 a = G.2 a ∧ mI M1 a = mI M a ∧ mR M1 a = mR M a) (hC : CRI c 104 True G1 M1 G' M') : TPI (c + 104) G' (wR M' 0 j0 (some c)) := by
  have hcc : c = 1 ∨ c = 105 := hc
  obtain ⟨c1, c2, c3, c4, c5, c6, c7, c8, c9, c10, c11, c12, c13, c14⟩ := hC
  have g1 := h.2.1
  have lo : ∀ a, a < c → mI M' a = mI M a ∧ mR M' a = mR M a := fun a ha => by
    obtain ⟨z1, -, z3⟩ := c4 a ha
    exact ⟨z1.trans (e1 a ha).2.1, z3.trans (e1 a ha).2.2⟩
  have hR : ∀ a, a ≠ 0 → mR (wR M' 0 j0 (some c)) a = mR M' a := fun a ha => funext fun i => by rw [mR_wR, if_neg (fun z => ha z.1)]
  refine h.st ⟨by omega, by omega⟩ c1 (fun k hk => ?_) (lo 0 (by omega)).1 (fun a a1 a2 => ⟨(lo a a2).1, (hR a (by omega)).trans (lo a a2).2⟩) (fun j q z zq => ?_) (fun a j q a0 a1 a2 z => ?_) (fun a ha a1 a2 => ?_) (fun b hb b1 b2 => ?_) (fun z z2 => by omega) (fun _ => c14.wR (by omega))
  · by_cases z : k < c
    · rw [if_pos z, c2 k z]
      exact (e1 k z).1
    · rw [if_neg z]
      have := c3 (k - c) (by omega)
      rw [show c + (k - c) = k by omega] at this
      rw [this]
      unfold shC
      rw [if_neg (by omega)]
      rcases hcc with rfl | rfl
      · rw [if_pos (by omega)]
      · rw [if_neg (by omega), if_pos (by omega)]
  · rw [mR_wR, (lo 0 (by omega)).2]
    have z1 := rmC_0 z
    have z2 := rmC_0 hj
    by_cases y : q < c
    · rw [if_pos y, if_neg (fun w => by omega)]
    · rw [if_neg y, if_pos ⟨rfl, by omega⟩]; exact congrArg some (by omega)
  · exfalso
    unfold rmC at z
    split at z
    all_goals first | omega | (cases z; done)
  · rw [hR a (by omega)]
    have hk : isMk (a - c) := by unfold MoAd at ha; unfold isMk; omega
    have := c6 (a - c) hk (by unfold isMk at hk; omega)
    rw [show c + (a - c) = a by omega] at this
    exact this
  · have e : b = c := by unfold CrAd at hb; omega
    subst e
    have hI : ∀ a, mI (wR M' 0 j0 (some b)) a = mI M' a := fun _ => rfl
    obtain ⟨i1, i2⟩ := c10 (by decide)
    refine ⟨fun j q z => ?_, fun i hi => by rw [hR _ (by omega)]; exact c7 i hi (by omega), fun t => by rw [hR _ (by omega)]; exact c8 (by decide) t, c9, c13 trivial, i1, i2, c11 (by decide), c12 (by decide)⟩
    rw [hR b (by omega)]
    have hq : ∃ k, q = b + k ∧ k < 104 := by
      unfold rmCr at z
      split at z
      all_goals first | (have e := Option.some.inj z; exact ⟨q - b, by omega, by omega⟩) | (cases z; done)
    obtain ⟨k, rfl, hk⟩ := hq
    exact c5 j k z hk
theorem TPI.mom (h : TPI 209 G M) : TPI 212 (moG (ga G (0, 2))) (wR (moI (cN M 209) 209 210) 0 2 (some 209)) := by
  have g1 := h.2.1
  refine h.st (by decide) ?_ (fun k hk => ?_) ?_ (fun a a1 a2 => ⟨?_, ?_⟩) (fun j q z zq => ?_) (fun a j q a0 a1 a2 z => ?_) (fun a ha a1 a2 => ?_) (fun b hb b1 b2 => by unfold CrAd at hb; omega) (fun z z2 => ?_) (fun zb => ?_)
  · show G.1 + 1 + 1 + 1 = 212
    rw [g1]
  · by_cases y : k < 209
    · rw [if_pos y]
      simp only [moG, ga]
      simp [g1, show ¬ k = 209 by omega, show ¬ k = 210 by omega, show ¬ k = 211 by omega]
    · rw [if_neg y]
      simp only [moG, ga]
      rcases (show k = 209 ∨ k = 210 ∨ k = 211 by omega) with rfl | rfl | rfl <;> simp [g1] <;> rfl
  · funext i
    simp [moI, ga, mI_wR, mI_wI, mI_cN]
  · funext i
    simp [moI, ga, mI_wR, mI_wI, mI_cN, show ¬ a = 0 by omega, show ¬ a = 209 by omega, show ¬ a = 210 by omega, show ¬ a = 211 by omega]
  · funext i
    simp [moI, ga, mR_wR, mR_wI, mR_cN, show ¬ a = 0 by omega, show ¬ a = 209 by omega, show ¬ a = 210 by omega, show ¬ a = 211 by omega]
  · have z1 := rmC_0 z
    by_cases y : q < 209
    · rw [if_pos y]
      have : j ≠ 2 := by omega
      simp [moI, ga, mR_wR, mR_wI, mR_cN, this]
    · rw [if_neg y]
      have : j = 2 ∧ q = 209 := by omega
      rw [this.1, this.2]
      simp [moI, ga, mR_wR, mR_wI, mR_cN]
  · unfold rmC at z
    split at z
    all_goals first | omega | (cases z; done) | (cases z; simp [moI, ga, mR_wR, mR_wI, mR_cN])
  · unfold MoAd at ha
    have e : a = 209 := by omega
    subst e
    simp [moI, mR_wR, mR_wI, mR_cN]
  · omega
  · unfold moI; repeat' first | refine RBd.wR ?_ (by decide) | refine RBd.wI ?_ | refine RBd.cN ?_ _ | exact RBd.mono zb (by decide)
theorem TPI.ask (h : TPI 212 G M) : TPI 214 (ga (ga G (0, 0)) (1, 64)) (wR (asM (cN M 212) 212 213) 0 3 (some 212)) := by
  have g1 := h.2.1
  refine h.st (by decide) ?_ (fun k hk => ?_) ?_ (fun a a1 a2 => ⟨?_, ?_⟩) (fun j q z zq => ?_) (fun a j q a0 a1 a2 z => ?_) (fun a ha a1 a2 => ?_) (fun b hb b1 b2 => by unfold CrAd at hb; omega) (fun z z2 => ?_) (fun zb => ?_)
  · show G.1 + 1 + 1 = 214
    rw [g1]
  · by_cases y : k < 212
    · rw [if_pos y]
      simp only [ga]
      simp [g1, show ¬ k = 212 by omega, show ¬ k = 213 by omega]
    · rw [if_neg y]
      simp only [ga]
      rcases (show k = 212 ∨ k = 213 by omega) with rfl | rfl <;> simp [g1] <;> rfl
  · funext i
    simp [asM, ga, mI_wR, mI_wI, mI_cN]
  · funext i
    simp [asM, ga, mI_wR, mI_wI, mI_cN, show ¬ a = 0 by omega, show ¬ a = 212 by omega, show ¬ a = 213 by omega]
  · funext i
    simp [asM, ga, mR_wR, mR_wI, mR_cN, show ¬ a = 0 by omega, show ¬ a = 212 by omega, show ¬ a = 213 by omega]
  · have z1 := rmC_0 z
    by_cases y : q < 212
    · rw [if_pos y]
      have : j ≠ 3 := by omega
      simp [asM, ga, mR_wR, mR_wI, mR_cN, this]
    · rw [if_neg y]
      have : j = 3 ∧ q = 212 := by omega
      rw [this.1, this.2]
      simp [asM, ga, mR_wR, mR_wI, mR_cN]
  · unfold rmC at z
    split at z
    all_goals first | omega | (cases z; done) | (cases z; simp [asM, ga, mR_wR, mR_wI, mR_cN])
  · unfold MoAd at ha
    omega
  · omega
  · unfold asM; repeat' first | refine RBd.wR ?_ (by decide) | refine RBd.wI ?_ | refine RBd.cN ?_ _ | exact RBd.mono zb (by decide)
theorem TPI.rou (h : TPI 214 G M) : TPI 216 (ga (ga G (0, 5)) (1, 8)) (wR (roM (cN M 214) 214 215) 0 4 (some 214)) := by
  have g1 := h.2.1
  refine h.st (by decide) ?_ (fun k hk => ?_) ?_ (fun a a1 a2 => ⟨?_, ?_⟩) (fun j q z zq => ?_) (fun a j q a0 a1 a2 z => ?_) (fun a ha a1 a2 => ?_) (fun b hb b1 b2 => by unfold CrAd at hb; omega) (fun z z2 => ?_) (fun zb => ?_)
  · show G.1 + 1 + 1 = 216
    rw [g1]
  · by_cases y : k < 214
    · rw [if_pos y]
      simp only [ga]
      simp [g1, show ¬ k = 214 by omega, show ¬ k = 215 by omega]
    · rw [if_neg y]
      simp only [ga]
      rcases (show k = 214 ∨ k = 215 by omega) with rfl | rfl <;> simp [g1] <;> rfl
  · funext i
    simp [roM, ga, mI_wR, mI_wI, mI_cN]
  · funext i
    simp [roM, ga, mI_wR, mI_wI, mI_cN, show ¬ a = 0 by omega, show ¬ a = 214 by omega, show ¬ a = 215 by omega]
  · funext i
    simp [roM, ga, mR_wR, mR_wI, mR_cN, show ¬ a = 0 by omega, show ¬ a = 214 by omega, show ¬ a = 215 by omega]
  · have z1 := rmC_0 z
    by_cases y : q < 214
    · rw [if_pos y]
      have : j ≠ 4 := by omega
      simp [roM, ga, mR_wR, mR_wI, mR_cN, this]
    · rw [if_neg y]
      have : j = 4 ∧ q = 214 := by omega
      rw [this.1, this.2]
      simp [roM, ga, mR_wR, mR_wI, mR_cN]
  · unfold rmC at z
    split at z
    all_goals first | omega | (cases z; done) | (cases z; simp [roM, ga, mR_wR, mR_wI, mR_cN])
  · unfold MoAd at ha
    omega
  · omega
  · unfold roM; repeat' first | refine RBd.wR ?_ (by decide) | refine RBd.wI ?_ | refine RBd.cN ?_ _ | exact RBd.mono zb (by decide)
theorem TPI.out (h : TPI 216 G M) : TPI 220 (ga (ga (ga (ga G (0, 3)) (1, 9)) (1, 9)) (1, 9)) (wR (ouM (cN M 216) 216 217) 0 5 (some 216)) := by
  have g1 := h.2.1
  refine h.st (by decide) ?_ (fun k hk => ?_) ?_ (fun a a1 a2 => ⟨?_, ?_⟩) (fun j q z zq => ?_) (fun a j q a0 a1 a2 z => ?_) (fun a ha a1 a2 => ?_) (fun b hb b1 b2 => by unfold CrAd at hb; omega) (fun z z2 => ?_) (fun zb => ?_)
  · show G.1 + 1 + 1 + 1 + 1 = 220
    rw [g1]
  · by_cases y : k < 216
    · rw [if_pos y]
      simp only [ga]
      simp [g1, show ¬ k = 216 by omega, show ¬ k = 217 by omega, show ¬ k = 218 by omega, show ¬ k = 219 by omega]
    · rw [if_neg y]
      simp only [ga]
      rcases (show k = 216 ∨ k = 217 ∨ k = 218 ∨ k = 219 by omega) with rfl | rfl | rfl | rfl <;> simp [g1] <;> rfl
  · funext i
    simp [ouM, ga, mI_wR, mI_wI, mI_cN]
  · funext i
    simp [ouM, ga, mI_wR, mI_wI, mI_cN, show ¬ a = 0 by omega, show ¬ a = 216 by omega, show ¬ a = 217 by omega, show ¬ a = 218 by omega, show ¬ a = 219 by omega]
  · funext i
    simp [ouM, ga, mR_wR, mR_wI, mR_cN, show ¬ a = 0 by omega, show ¬ a = 216 by omega, show ¬ a = 217 by omega, show ¬ a = 218 by omega, show ¬ a = 219 by omega]
  · have z1 := rmC_0 z
    by_cases y : q < 216
    · rw [if_pos y]
      have : j ≠ 5 := by omega
      simp [ouM, ga, mR_wR, mR_wI, mR_cN, this]
    · rw [if_neg y]
      have : j = 5 ∧ q = 216 := by omega
      rw [this.1, this.2]
      simp [ouM, ga, mR_wR, mR_wI, mR_cN]
  · unfold rmC at z
    split at z
    all_goals first | omega | (cases z; done) | (cases z; simp [ouM, ga, mR_wR, mR_wI, mR_cN])
  · unfold MoAd at ha
    omega
  · omega
  · unfold ouM; repeat' first | refine RBd.wR ?_ (by decide) | refine RBd.wI ?_ | refine RBd.cN ?_ _ | exact RBd.mono zb (by decide)
theorem TPI.tap (h : TPI 220 G M) : TPI 225 (ga (ga (ga (ga (ga G (0, 6)) (1, 300)) (1, 301)) (1, 301)) (1, 301)) (wR (taM (cN M 220) 220 221) 0 6 (some 220)) := by
  have g1 := h.2.1
  refine h.st (by decide) ?_ (fun k hk => ?_) ?_ (fun a a1 a2 => ⟨?_, ?_⟩) (fun j q z zq => ?_) (fun a j q a0 a1 a2 z => ?_) (fun a ha a1 a2 => ?_) (fun b hb b1 b2 => by unfold CrAd at hb; omega) (fun z z2 => ?_) (fun zb => ?_)
  · show G.1 + 1 + 1 + 1 + 1 + 1 = 225
    rw [g1]
  · by_cases y : k < 220
    · rw [if_pos y]
      simp only [ga]
      simp [g1, show ¬ k = 220 by omega, show ¬ k = 221 by omega, show ¬ k = 222 by omega, show ¬ k = 223 by omega, show ¬ k = 224 by omega]
    · rw [if_neg y]
      simp only [ga]
      rcases (show k = 220 ∨ k = 221 ∨ k = 222 ∨ k = 223 ∨ k = 224 by omega) with rfl | rfl | rfl | rfl | rfl <;> simp [g1] <;> rfl
  · funext i
    simp [taM, ga, mI_wR, mI_wI, mI_cN]
  · funext i
    simp [taM, ga, mI_wR, mI_wI, mI_cN, show ¬ a = 0 by omega, show ¬ a = 220 by omega, show ¬ a = 221 by omega, show ¬ a = 222 by omega, show ¬ a = 223 by omega, show ¬ a = 224 by omega]
  · funext i
    simp [taM, ga, mR_wR, mR_wI, mR_cN, show ¬ a = 0 by omega, show ¬ a = 220 by omega, show ¬ a = 221 by omega, show ¬ a = 222 by omega, show ¬ a = 223 by omega, show ¬ a = 224 by omega]
  · have z1 := rmC_0 z
    by_cases y : q < 220
    · rw [if_pos y]
      have : j ≠ 6 := by omega
      simp [taM, ga, mR_wR, mR_wI, mR_cN, this]
    · rw [if_neg y]
      have : j = 6 ∧ q = 220 := by omega
      rw [this.1, this.2]
      simp [taM, ga, mR_wR, mR_wI, mR_cN]
  · unfold rmC at z
    split at z
    all_goals first | omega | (cases z; done) | (cases z; simp [taM, ga, mR_wR, mR_wI, mR_cN])
  · unfold MoAd at ha
    omega
  · simp [taM, mI_wR, mI_cN]
  · unfold taM; repeat' first | refine RBd.wR ?_ (by decide) | refine RBd.wI ?_ | refine RBd.cN ?_ _ | exact RBd.mono zb (by decide)
theorem TPI.rea (h : TPI 225 G M) : TPI 231 (ga (ga (ga (ga (ga (ga G (0, 4)) (1, 24)) (1, 24)) (1, 24)) (1, 300)) (1, 300)) (wR (reM (cN M 225) 225 226) 0 7 (some 225)) := by
  have g1 := h.2.1
  refine h.st (by decide) ?_ (fun k hk => ?_) ?_ (fun a a1 a2 => ⟨?_, ?_⟩) (fun j q z zq => ?_) (fun a j q a0 a1 a2 z => ?_) (fun a ha a1 a2 => ?_) (fun b hb b1 b2 => by unfold CrAd at hb; omega) (fun z z2 => ?_) (fun zb => ?_)
  · show G.1 + 1 + 1 + 1 + 1 + 1 + 1 = 231
    rw [g1]
  · by_cases y : k < 225
    · rw [if_pos y]
      simp only [ga]
      simp [g1, show ¬ k = 225 by omega, show ¬ k = 226 by omega, show ¬ k = 227 by omega, show ¬ k = 228 by omega, show ¬ k = 229 by omega, show ¬ k = 230 by omega]
    · rw [if_neg y]
      simp only [ga]
      rcases (show k = 225 ∨ k = 226 ∨ k = 227 ∨ k = 228 ∨ k = 229 ∨ k = 230 by omega) with rfl | rfl | rfl | rfl | rfl | rfl <;> simp [g1] <;> rfl
  · funext i
    simp [reM, ga, mI_wR, mI_wI, mI_cN]
  · funext i
    simp [reM, ga, mI_wR, mI_wI, mI_cN, show ¬ a = 0 by omega, show ¬ a = 225 by omega, show ¬ a = 226 by omega, show ¬ a = 227 by omega, show ¬ a = 228 by omega, show ¬ a = 229 by omega, show ¬ a = 230 by omega]
  · funext i
    simp [reM, ga, mR_wR, mR_wI, mR_cN, show ¬ a = 0 by omega, show ¬ a = 225 by omega, show ¬ a = 226 by omega, show ¬ a = 227 by omega, show ¬ a = 228 by omega, show ¬ a = 229 by omega, show ¬ a = 230 by omega]
  · have z1 := rmC_0 z
    by_cases y : q < 225
    · rw [if_pos y]
      have : j ≠ 7 := by omega
      simp [reM, ga, mR_wR, mR_wI, mR_cN, this]
    · rw [if_neg y]
      have : j = 7 ∧ q = 225 := by omega
      rw [this.1, this.2]
      simp [reM, ga, mR_wR, mR_wI, mR_cN]
  · unfold rmC at z
    split at z
    all_goals first | omega | (cases z; done) | (cases z; simp [reM, ga, mR_wR, mR_wI, mR_cN])
  · unfold MoAd at ha
    omega
  · omega
  · unfold reM; repeat' first | refine RBd.wR ?_ (by decide) | refine RBd.wI ?_ | refine RBd.cN ?_ _ | exact RBd.mono zb (by decide)
theorem TPI.way (h : TPI 231 G M) : TPI 232 (ga G (2, 9)) (wR (cN M 231) 0 8 (some 231)) := by
  have g1 := h.2.1
  refine h.st (by decide) ?_ (fun k hk => ?_) ?_ (fun a a1 a2 => ⟨?_, ?_⟩) (fun j q z zq => ?_) (fun a j q a0 a1 a2 z => ?_) (fun a ha a1 a2 => ?_) (fun b hb b1 b2 => by unfold CrAd at hb; omega) (fun z z2 => ?_) (fun zb => ?_)
  · show G.1 + 1 = 232
    rw [g1]
  · by_cases y : k < 231
    · rw [if_pos y]
      simp only [ga]
      simp [g1, show ¬ k = 231 by omega]
    · rw [if_neg y]
      simp only [ga]
      rcases (show k = 231 by omega) with rfl <;> simp [g1] <;> rfl
  · funext i
    simp [ga, mI_wR, mI_wI, mI_cN]
  · funext i
    simp [ga, mI_wR, mI_wI, mI_cN, show ¬ a = 0 by omega, show ¬ a = 231 by omega]
  · funext i
    simp [ga, mR_wR, mR_wI, mR_cN, show ¬ a = 0 by omega, show ¬ a = 231 by omega]
  · have z1 := rmC_0 z
    by_cases y : q < 231
    · rw [if_pos y]
      have : j ≠ 8 := by omega
      simp [ga, mR_wR, mR_wI, mR_cN, this]
    · rw [if_neg y]
      have : j = 8 ∧ q = 231 := by omega
      rw [this.1, this.2]
      simp [ga, mR_wR, mR_wI, mR_cN]
  · unfold rmC at z
    split at z
    all_goals first | omega | (cases z; done) | (cases z; simp [ga, mR_wR, mR_wI, mR_cN])
  · unfold MoAd at ha
    omega
  · omega
  · repeat' first | refine RBd.wR ?_ (by decide) | refine RBd.wI ?_ | refine RBd.cN ?_ _ | exact RBd.mono zb (by decide)
theorem TPI.cos (h : TPI 232 G M) : TPI 233 (ga G (1, 8)) (wR (cN M 232) 0 9 (some 232)) := by
  have g1 := h.2.1
  refine h.st (by decide) ?_ (fun k hk => ?_) ?_ (fun a a1 a2 => ⟨?_, ?_⟩) (fun j q z zq => ?_) (fun a j q a0 a1 a2 z => ?_) (fun a ha a1 a2 => ?_) (fun b hb b1 b2 => by unfold CrAd at hb; omega) (fun z z2 => ?_) (fun zb => ?_)
  · show G.1 + 1 = 233
    rw [g1]
  · by_cases y : k < 232
    · rw [if_pos y]
      simp only [ga]
      simp [g1, show ¬ k = 232 by omega]
    · rw [if_neg y]
      simp only [ga]
      rcases (show k = 232 by omega) with rfl <;> simp [g1] <;> rfl
  · funext i
    simp [ga, mI_wR, mI_wI, mI_cN]
  · funext i
    simp [ga, mI_wR, mI_wI, mI_cN, show ¬ a = 0 by omega, show ¬ a = 232 by omega]
  · funext i
    simp [ga, mR_wR, mR_wI, mR_cN, show ¬ a = 0 by omega, show ¬ a = 232 by omega]
  · have z1 := rmC_0 z
    by_cases y : q < 232
    · rw [if_pos y]
      have : j ≠ 9 := by omega
      simp [ga, mR_wR, mR_wI, mR_cN, this]
    · rw [if_neg y]
      have : j = 9 ∧ q = 232 := by omega
      rw [this.1, this.2]
      simp [ga, mR_wR, mR_wI, mR_cN]
  · unfold rmC at z
    split at z
    all_goals first | omega | (cases z; done) | (cases z; simp [ga, mR_wR, mR_wI, mR_cN])
  · unfold MoAd at ha
    omega
  · omega
  · repeat' first | refine RBd.wR ?_ (by decide) | refine RBd.wI ?_ | refine RBd.cN ?_ _ | exact RBd.mono zb (by decide)
theorem TPI.see (h : TPI 233 G M) : TPI 234 (ga G (1, 99)) (wR (cN M 233) 0 10 (some 233)) := by
  have g1 := h.2.1
  refine h.st (by decide) ?_ (fun k hk => ?_) ?_ (fun a a1 a2 => ⟨?_, ?_⟩) (fun j q z zq => ?_) (fun a j q a0 a1 a2 z => ?_) (fun a ha a1 a2 => ?_) (fun b hb b1 b2 => by unfold CrAd at hb; omega) (fun z z2 => ?_) (fun zb => ?_)
  · show G.1 + 1 = 234
    rw [g1]
  · by_cases y : k < 233
    · rw [if_pos y]
      simp only [ga]
      simp [g1, show ¬ k = 233 by omega]
    · rw [if_neg y]
      simp only [ga]
      rcases (show k = 233 by omega) with rfl <;> simp [g1] <;> rfl
  · funext i
    simp [ga, mI_wR, mI_wI, mI_cN]
  · funext i
    simp [ga, mI_wR, mI_wI, mI_cN, show ¬ a = 0 by omega, show ¬ a = 233 by omega]
  · funext i
    simp [ga, mR_wR, mR_wI, mR_cN, show ¬ a = 0 by omega, show ¬ a = 233 by omega]
  · have z1 := rmC_0 z
    by_cases y : q < 233
    · rw [if_pos y]
      have : j ≠ 10 := by omega
      simp [ga, mR_wR, mR_wI, mR_cN, this]
    · rw [if_neg y]
      have : j = 10 ∧ q = 233 := by omega
      rw [this.1, this.2]
      simp [ga, mR_wR, mR_wI, mR_cN]
  · unfold rmC at z
    split at z
    all_goals first | omega | (cases z; done) | (cases z; simp [ga, mR_wR, mR_wI, mR_cN])
  · unfold MoAd at ha
    omega
  · omega
  · repeat' first | refine RBd.wR ?_ (by decide) | refine RBd.wI ?_ | refine RBd.cN ?_ _ | exact RBd.mono zb (by decide)
end CTd
