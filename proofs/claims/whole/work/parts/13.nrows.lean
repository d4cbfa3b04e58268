theorem nI_and (a b : Nat) : nI a &&& nI b = nI (a &&& b) := by
  apply Int32.toBitVec_inj.mp
  rw [Int32.toBitVec_and]
  show BitVec.ofNat 32 a &&& BitVec.ofNat 32 b = BitVec.ofNat 32 (a &&& b)
  rw [BitVec.ofNat_and]
theorem nI_or (a b : Nat) : nI a ||| nI b = nI (a ||| b) := by
  apply Int32.toBitVec_inj.mp
  rw [Int32.toBitVec_or]
  show BitVec.ofNat 32 a ||| BitVec.ofNat 32 b = BitVec.ofNat 32 (a ||| b)
  rw [BitVec.ofNat_or]
theorem nI_xor (a b : Nat) : nI a ^^^ nI b = nI (a ^^^ b) := by
  apply Int32.toBitVec_inj.mp
  rw [Int32.toBitVec_xor]
  show BitVec.ofNat 32 a ^^^ BitVec.ofNat 32 b = BitVec.ofNat 32 (a ^^^ b)
  rw [BitVec.ofNat_xor]
theorem nI_sh31 {b : Nat} (h : b < 32) : nI b &&& 31 = nI b := by
  have e : (31 : Int32) = nI 31 := rfl
  rw [e, nI_and]
  have : b &&& 31 = b := by
    have := Nat.and_two_pow_sub_one_eq_mod b 5
    rw [show (2 ^ 5 - 1 : Nat) = 31 from rfl] at this
    rw [this]
    exact Nat.mod_eq_of_lt h
  rw [this]
theorem nI_smod {b : Nat} (h : b < 32) : ((nI b).toBitVec.smod 32).toNat = b := by
  have : ∀ b, b < 32 → ((nI b).toBitVec.smod 32).toNat = b := by decide +kernel
  exact this b h
theorem nI_shl {a b : Nat} (h : b < 32) (hab : a * 2 ^ b < 2 ^ 32) : nI a <<< (nI b &&& 31) = nI (a * 2 ^ b) := by
  rw [nI_sh31 h]
  exact pk_shlN _ b (nI_smod h) hab
theorem nI_shr {a b : Nat} (ha : a < 2 ^ 31) (h : b < 32) : nI a >>> (nI b &&& 31) = nI (a / 2 ^ b) := by
  rw [nI_sh31 h]
  exact pk_shrN ha _ b (nI_smod h)
def pI (P : Prop) [Decidable P] : Int32 := if P then 1 else 0
theorem pI_t {P : Prop} [Decidable P] (h : P) : pI P = 1 := if_pos h
theorem pI_f {P : Prop} [Decidable P] (h : ¬ P) : pI P = 0 := if_neg h
theorem pI_01 (P : Prop) [Decidable P] : pI P = 0 ∨ pI P = 1 := by
  unfold pI
  split
  · exact Or.inr rfl
  · exact Or.inl rfl
theorem pI_congr {P P' : Prop} [Decidable P] [Decidable P'] (h : P ↔ P') : pI P = pI P' := by
  unfold pI
  by_cases hp : P
  · rw [if_pos hp, if_pos (h.mp hp)]
  · rw [if_neg hp, if_neg (fun q => hp (h.mpr q))]
def QI (G : Geo) (P : Int32 → Mem → Prop) : Option Value → Geo → Mem → Prop := fun v G' M' => G' = G ∧ ∃ r, v = some (.int r) ∧ P r M'
def QL (G : Geo) (P : Int64 → Mem → Prop) : Option Value → Geo → Mem → Prop := fun v G' M' => G' = G ∧ ∃ r, v = some (.long r) ∧ P r M'
def QV (G : Geo) (P : Mem → Prop) : Option Value → Geo → Mem → Prop := fun v G' M' => G' = G ∧ v = none ∧ P M'
def QR (G : Geo) (P : Option Nat → Mem → Prop) : Option Value → Geo → Mem → Prop := fun v G' M' => G' = G ∧ ∃ r, v = some (oV r) ∧ P r M'
section ENat
variable {d b bs : Nat} {Y : MI} {pc : Nat} {ls : List (Option Value)} {st : List Value} {G : Geo} {M : Mem} {Q : Option Value → Geo → Mem → Prop}
theorem E_iaddN {x y : Nat} (hd : decode Y.2.1 pc = .ok (.iadd, 1)) (k : E d b bs Y (pc + 1) ls (.int (nI (x + y)) :: st) G M Q) : E d b bs Y pc ls (.int (nI y) :: .int (nI x) :: st) G M Q := E_iadd hd (by rw [nI_add]; exact k)
theorem E_isubN {x y : Nat} (hd : decode Y.2.1 pc = .ok (.isub, 1)) (h : y ≤ x) (k : E d b bs Y (pc + 1) ls (.int (nI (x - y)) :: st) G M Q) : E d b bs Y pc ls (.int (nI y) :: .int (nI x) :: st) G M Q := E_isub hd (by rw [pk_sub h]; exact k)
theorem E_imulN {x y : Nat} (hd : decode Y.2.1 pc = .ok (.imul, 1)) (k : E d b bs Y (pc + 1) ls (.int (nI (x * y)) :: st) G M Q) : E d b bs Y pc ls (.int (nI y) :: .int (nI x) :: st) G M Q := E_imul hd (by rw [pk_mul]; exact k)
theorem E_idivN {x y : Nat} (hd : decode Y.2.1 pc = .ok (.idiv, 1)) (h0 : 0 < y) (hx : x < 2147483648) (hy : y < 2147483648) (k : E d b bs Y (pc + 1) ls (.int (nI (x / y)) :: st) G M Q) : E d b bs Y pc ls (.int (nI y) :: .int (nI x) :: st) G M Q := E_idiv hd (nI_ne0 h0 hy) (by rw [pk_div hx h0 hy]; exact k)
theorem E_iremN {x y : Nat} (hd : decode Y.2.1 pc = .ok (.irem, 1)) (h0 : 0 < y) (hx : x < 2147483648) (hy : y < 2147483648) (k : E d b bs Y (pc + 1) ls (.int (nI (x % y)) :: st) G M Q) : E d b bs Y pc ls (.int (nI y) :: .int (nI x) :: st) G M Q := E_irem hd (nI_ne0 h0 hy) (by rw [pk_rem hx h0 hy]; exact k)
theorem E_ishlN {x y : Nat} (hd : decode Y.2.1 pc = .ok (.ishl, 1)) (hy : y < 32) (hx : x * 2 ^ y < 4294967296) (k : E d b bs Y (pc + 1) ls (.int (nI (x * 2 ^ y)) :: st) G M Q) : E d b bs Y pc ls (.int (nI y) :: .int (nI x) :: st) G M Q := E_ishl hd (by rw [nI_shl hy hx]; exact k)
theorem E_ishl1 {y : Nat} (hd : decode Y.2.1 pc = .ok (.ishl, 1)) (hy : y < 31) (k : E d b bs Y (pc + 1) ls (.int (nI (2 ^ y)) :: st) G M Q) : E d b bs Y pc ls (.int (nI y) :: .int (nI 1) :: st) G M Q := E_ishlN hd (Nat.lt_succ_of_lt hy) (by rw [Nat.one_mul]; exact Nat.lt_of_lt_of_le (Nat.pow_lt_pow_right (by decide) hy) (by decide)) (by rw [Nat.one_mul]; exact k)
theorem E_ishrN {x y : Nat} (hd : decode Y.2.1 pc = .ok (.ishr, 1)) (hx : x < 2147483648) (hy : y < 32) (k : E d b bs Y (pc + 1) ls (.int (nI (x / 2 ^ y)) :: st) G M Q) : E d b bs Y pc ls (.int (nI y) :: .int (nI x) :: st) G M Q := E_ishr hd (by rw [nI_shr hx hy]; exact k)
theorem E_iandN {x y : Nat} (hd : decode Y.2.1 pc = .ok (.iand, 1)) (k : E d b bs Y (pc + 1) ls (.int (nI (x &&& y)) :: st) G M Q) : E d b bs Y pc ls (.int (nI y) :: .int (nI x) :: st) G M Q := E_iand hd (by rw [nI_and]; exact k)
theorem E_iorN {x y : Nat} (hd : decode Y.2.1 pc = .ok (.ior, 1)) (k : E d b bs Y (pc + 1) ls (.int (nI (x ||| y)) :: st) G M Q) : E d b bs Y pc ls (.int (nI y) :: .int (nI x) :: st) G M Q := E_ior hd (by rw [nI_or]; exact k)
theorem E_ixorN {x y : Nat} (hd : decode Y.2.1 pc = .ok (.ixor, 1)) (k : E d b bs Y (pc + 1) ls (.int (nI (x ^^^ y)) :: st) G M Q) : E d b bs Y pc ls (.int (nI y) :: .int (nI x) :: st) G M Q := E_ixor hd (by rw [nI_xor]; exact k)
theorem nb_eq {x y : Nat} (hx : x < 2147483648) (hy : y < 2147483648) {A : Prop} (k : x = y → A) : nI x = nI y → A := fun h => k ((nI_eq hx hy).mp h)
theorem nb_ne {x y : Nat} {A : Prop} (k : x ≠ y → A) : ¬ nI x = nI y → A := fun h => k (fun q => h (congrArg nI q))
theorem nb_lt {x y : Nat} (hx : x < 2147483648) (hy : y < 2147483648) {A : Prop} (k : x < y → A) : nI x < nI y → A := fun h => k ((nI_ltI hx hy).mp h)
theorem nb_nlt {x y : Nat} (hx : x < 2147483648) (hy : y < 2147483648) {A : Prop} (k : y ≤ x → A) : ¬ nI x < nI y → A := fun h => k (Nat.not_lt.mp fun q => h ((nI_ltI hx hy).mpr q))
theorem nb_le {x y : Nat} (hx : x < 2147483648) (hy : y < 2147483648) {A : Prop} (k : x ≤ y → A) : nI x ≤ nI y → A := fun h => k ((nI_leI hx hy).mp h)
theorem nb_nle {x y : Nat} (hx : x < 2147483648) (hy : y < 2147483648) {A : Prop} (k : y < x → A) : ¬ nI x ≤ nI y → A := fun h => k (Nat.not_le.mp fun q => h ((nI_leI hx hy).mpr q))
theorem n0 : (0 : Int32) = nI 0 := rfl
theorem kI {P : Int32 → Mem → Prop} {pc' : Nat} (k : ∀ r M', P r M' → E d b bs Y pc' ls (.int r :: st) G M' Q) : ∀ v G' M', QI G P v G' M' → E d b bs Y pc' ls (v.toList ++ st) G' M' Q := by
  rintro v G' M' ⟨rfl, r, rfl, h⟩
  exact k r M' h
theorem kL {P : Int64 → Mem → Prop} {pc' : Nat} (k : ∀ r M', P r M' → E d b bs Y pc' ls (.long r :: st) G M' Q) : ∀ v G' M', QL G P v G' M' → E d b bs Y pc' ls (v.toList ++ st) G' M' Q := by
  rintro v G' M' ⟨rfl, r, rfl, h⟩
  exact k r M' h
theorem kV {P : Mem → Prop} {pc' : Nat} (k : ∀ M', P M' → E d b bs Y pc' ls st G M' Q) : ∀ v G' M', QV G P v G' M' → E d b bs Y pc' ls (v.toList ++ st) G' M' Q := by
  rintro v G' M' ⟨rfl, rfl, h⟩
  exact k M' h
theorem kR {P : Option Nat → Mem → Prop} {pc' : Nat} (k : ∀ r M', P r M' → E d b bs Y pc' ls (oV r :: st) G M' Q) : ∀ v G' M', QR G P v G' M' → E d b bs Y pc' ls (v.toList ++ st) G' M' Q := by
  rintro v G' M' ⟨rfl, r, rfl, h⟩
  exact k r M' h
theorem E_retI {x : Int32} {P : Int32 → Mem → Prop} (hd : decode Y.2.1 pc = .ok (.ireturn, 1)) (hr : Y.2.2.2 = some .int) (hq : P x M) : E d b bs Y pc ls [.int x] G M (QI G P) := E_iret hd hr ⟨rfl, x, rfl, hq⟩
theorem E_retZ {x : Int32} {P : Int32 → Mem → Prop} (hd : decode Y.2.1 pc = .ok (.ireturn, 1)) (hr : Y.2.2.2 = some .boolean) (hx : x = 0 ∨ x = 1) (hq : P x M) : E d b bs Y pc ls [.int x] G M (QI G P) := E_zret hd hr hx ⟨rfl, x, rfl, hq⟩
theorem E_retL {x : Int64} {P : Int64 → Mem → Prop} (hd : decode Y.2.1 pc = .ok (.lreturn, 1)) (hr : Y.2.2.2 = some .long) (hq : P x M) : E d b bs Y pc ls [.long x] G M (QL G P) := E_lret hd hr ⟨rfl, x, rfl, hq⟩
theorem E_retV {P : Mem → Prop} (hd : decode Y.2.1 pc = .ok (.return_, 1)) (hr : Y.2.2.2 = none) (hq : P M) : E d b bs Y pc ls [] G M (QV G P) := E_vret hd hr ⟨rfl, rfl, hq⟩
theorem E_retR {r : Option Nat} {ty : FieldType} {P : Option Nat → Mem → Prop} (hd : decode Y.2.1 pc = .ok (.areturn, 1)) (hr : Y.2.2.2 = some ty) (hty : isRefTy ty = true) (hq : P r M) : E d b bs Y pc ls [oV r] G M (QR G P) := E_aret hd hr hty ⟨rfl, r, rfl, hq⟩
end ENat
section ECallN
variable {d b bs : Nat} {Y : MI} {pc : Nat} {ls : List (Option Value)} {st : List Value} {G : Geo} {M : Mem} {Q : Option Value → Geo → Mem → Prop}
theorem E_V0 {idx ci a d' : Nat} {Y' : MI} {ls' : List (Option Value)} {Q' : Option Value → Geo → Mem → Prop} (spec : E d' 0 0 Y' 0 ls' [] G M Q') (hd : decode Y.2.1 pc = .ok (.invokevirtual idx, 3)) (hl : Cond.methodLink Y.1.cls idx Y'.1 ∈ TB) (cb : CB Y' 0) (ct : CVt Y') (hs : Sh G a (0, ci)) (hci : ci < NC ∧ clC ci = Y'.1.cls) (hr : rmok d d' Y'.2.2.1)
    (hls : el Y'.2.2.1 (.ref a :: []) = ls') (hlen : ((Value.ref a :: []).flatMap el1).length ≤ Y'.2.2.1) (hroom : (st.map fun v => v.category).sum ≤ 8) (kk : ∀ v G' M', Q' v G' M' → E d b bs Y (pc + 3) ls (v.toList ++ st) G' M' Q) : E d b bs Y pc ls (.ref a :: st) G M Q :=
  E_callV (As := []) hd hl cb ct hs hci rfl hr hls hlen rfl hroom (by omega) (by omega) spec kk
theorem E_S0 {idx d' : Nat} {Y' : MI} {ls' : List (Option Value)} {Q' : Option Value → Geo → Mem → Prop} (spec : E d' 0 0 Y' 0 ls' [] G M Q') (hd : decode Y.2.1 pc = .ok (.invokestatic idx, 3)) (hl : Cond.methodLink Y.1.cls idx Y'.1 ∈ TB) (cb : CB Y' 0) (ct : CSt Y') (hr : rmok d d' Y'.2.2.1)
    (hls : el Y'.2.2.1 [] = ls') (hlen : (([] : List Value).flatMap el1).length ≤ Y'.2.2.1) (hroom : (st.map fun v => v.category).sum ≤ 8) (kk : ∀ v G' M', Q' v G' M' → E d b bs Y (pc + 3) ls (v.toList ++ st) G' M' Q) : E d b bs Y pc ls (st) G M Q :=
  E_callS (As := []) hd hl cb ct rfl hr hls hlen rfl hroom (by omega) (by omega) spec kk
theorem E_SN0 {idx d' : Nat} {host : String} {Y' : MI} {ls' : List (Option Value)} {Q' : Option Value → Geo → Mem → Prop} (spec : E d' 0 0 Y' 0 ls' [] G M Q') (hd : decode Y.2.1 pc = .ok (.invokestatic idx, 3)) (hl : Cond.methodLinkNest Y.1.cls idx Y'.1 host ∈ TBn) (cb : CB Y' 0) (ct : CSt Y') (hr : rmok d d' Y'.2.2.1)
    (hls : el Y'.2.2.1 [] = ls') (hlen : (([] : List Value).flatMap el1).length ≤ Y'.2.2.1) (hroom : (st.map fun v => v.category).sum ≤ 8) (kk : ∀ v G' M', Q' v G' M' → E d b bs Y (pc + 3) ls (v.toList ++ st) G' M' Q) : E d b bs Y pc ls (st) G M Q :=
  E_callSN (As := []) hd hl cb ct rfl hr hls hlen rfl hroom (by omega) (by omega) spec kk
theorem E_V1 {idx ci a d' : Nat} {Y' : MI} {x0 : Value} {ls' : List (Option Value)} {Q' : Option Value → Geo → Mem → Prop} (spec : E d' 0 0 Y' 0 ls' [] G M Q') (hd : decode Y.2.1 pc = .ok (.invokevirtual idx, 3)) (hl : Cond.methodLink Y.1.cls idx Y'.1 ∈ TB) (cb : CB Y' 1) (ct : CVt Y') (hs : Sh G a (0, ci)) (hci : ci < NC ∧ clC ci = Y'.1.cls) (hr : rmok d d' Y'.2.2.1)
    (hls : el Y'.2.2.1 (.ref a :: [x0]) = ls') (hlen : ((Value.ref a :: [x0]).flatMap el1).length ≤ Y'.2.2.1) (hroom : (st.map fun v => v.category).sum ≤ 8) (kk : ∀ v G' M', Q' v G' M' → E d b bs Y (pc + 3) ls (v.toList ++ st) G' M' Q) : E d b bs Y pc ls (x0 :: .ref a :: st) G M Q :=
  E_callV (As := [x0]) hd hl cb ct hs hci rfl hr hls hlen rfl hroom (by omega) (by omega) spec kk
theorem E_S1 {idx d' : Nat} {Y' : MI} {x0 : Value} {ls' : List (Option Value)} {Q' : Option Value → Geo → Mem → Prop} (spec : E d' 0 0 Y' 0 ls' [] G M Q') (hd : decode Y.2.1 pc = .ok (.invokestatic idx, 3)) (hl : Cond.methodLink Y.1.cls idx Y'.1 ∈ TB) (cb : CB Y' 1) (ct : CSt Y') (hr : rmok d d' Y'.2.2.1)
    (hls : el Y'.2.2.1 [x0] = ls') (hlen : (([x0] : List Value).flatMap el1).length ≤ Y'.2.2.1) (hroom : (st.map fun v => v.category).sum ≤ 8) (kk : ∀ v G' M', Q' v G' M' → E d b bs Y (pc + 3) ls (v.toList ++ st) G' M' Q) : E d b bs Y pc ls (x0 :: st) G M Q :=
  E_callS (As := [x0]) hd hl cb ct rfl hr hls hlen rfl hroom (by omega) (by omega) spec kk
theorem E_SN1 {idx d' : Nat} {host : String} {Y' : MI} {x0 : Value} {ls' : List (Option Value)} {Q' : Option Value → Geo → Mem → Prop} (spec : E d' 0 0 Y' 0 ls' [] G M Q') (hd : decode Y.2.1 pc = .ok (.invokestatic idx, 3)) (hl : Cond.methodLinkNest Y.1.cls idx Y'.1 host ∈ TBn) (cb : CB Y' 1) (ct : CSt Y') (hr : rmok d d' Y'.2.2.1)
    (hls : el Y'.2.2.1 [x0] = ls') (hlen : (([x0] : List Value).flatMap el1).length ≤ Y'.2.2.1) (hroom : (st.map fun v => v.category).sum ≤ 8) (kk : ∀ v G' M', Q' v G' M' → E d b bs Y (pc + 3) ls (v.toList ++ st) G' M' Q) : E d b bs Y pc ls (x0 :: st) G M Q :=
  E_callSN (As := [x0]) hd hl cb ct rfl hr hls hlen rfl hroom (by omega) (by omega) spec kk
theorem E_V2 {idx ci a d' : Nat} {Y' : MI} {x0 x1 : Value} {ls' : List (Option Value)} {Q' : Option Value → Geo → Mem → Prop} (spec : E d' 0 0 Y' 0 ls' [] G M Q') (hd : decode Y.2.1 pc = .ok (.invokevirtual idx, 3)) (hl : Cond.methodLink Y.1.cls idx Y'.1 ∈ TB) (cb : CB Y' 2) (ct : CVt Y') (hs : Sh G a (0, ci)) (hci : ci < NC ∧ clC ci = Y'.1.cls) (hr : rmok d d' Y'.2.2.1)
    (hls : el Y'.2.2.1 (.ref a :: [x0, x1]) = ls') (hlen : ((Value.ref a :: [x0, x1]).flatMap el1).length ≤ Y'.2.2.1) (hroom : (st.map fun v => v.category).sum ≤ 8) (kk : ∀ v G' M', Q' v G' M' → E d b bs Y (pc + 3) ls (v.toList ++ st) G' M' Q) : E d b bs Y pc ls (x1 :: x0 :: .ref a :: st) G M Q :=
  E_callV (As := [x0, x1]) hd hl cb ct hs hci rfl hr hls hlen rfl hroom (by omega) (by omega) spec kk
theorem E_S2 {idx d' : Nat} {Y' : MI} {x0 x1 : Value} {ls' : List (Option Value)} {Q' : Option Value → Geo → Mem → Prop} (spec : E d' 0 0 Y' 0 ls' [] G M Q') (hd : decode Y.2.1 pc = .ok (.invokestatic idx, 3)) (hl : Cond.methodLink Y.1.cls idx Y'.1 ∈ TB) (cb : CB Y' 2) (ct : CSt Y') (hr : rmok d d' Y'.2.2.1)
    (hls : el Y'.2.2.1 [x0, x1] = ls') (hlen : (([x0, x1] : List Value).flatMap el1).length ≤ Y'.2.2.1) (hroom : (st.map fun v => v.category).sum ≤ 8) (kk : ∀ v G' M', Q' v G' M' → E d b bs Y (pc + 3) ls (v.toList ++ st) G' M' Q) : E d b bs Y pc ls (x1 :: x0 :: st) G M Q :=
  E_callS (As := [x0, x1]) hd hl cb ct rfl hr hls hlen rfl hroom (by omega) (by omega) spec kk
theorem E_SN2 {idx d' : Nat} {host : String} {Y' : MI} {x0 x1 : Value} {ls' : List (Option Value)} {Q' : Option Value → Geo → Mem → Prop} (spec : E d' 0 0 Y' 0 ls' [] G M Q') (hd : decode Y.2.1 pc = .ok (.invokestatic idx, 3)) (hl : Cond.methodLinkNest Y.1.cls idx Y'.1 host ∈ TBn) (cb : CB Y' 2) (ct : CSt Y') (hr : rmok d d' Y'.2.2.1)
    (hls : el Y'.2.2.1 [x0, x1] = ls') (hlen : (([x0, x1] : List Value).flatMap el1).length ≤ Y'.2.2.1) (hroom : (st.map fun v => v.category).sum ≤ 8) (kk : ∀ v G' M', Q' v G' M' → E d b bs Y (pc + 3) ls (v.toList ++ st) G' M' Q) : E d b bs Y pc ls (x1 :: x0 :: st) G M Q :=
  E_callSN (As := [x0, x1]) hd hl cb ct rfl hr hls hlen rfl hroom (by omega) (by omega) spec kk
theorem E_V3 {idx ci a d' : Nat} {Y' : MI} {x0 x1 x2 : Value} {ls' : List (Option Value)} {Q' : Option Value → Geo → Mem → Prop} (spec : E d' 0 0 Y' 0 ls' [] G M Q') (hd : decode Y.2.1 pc = .ok (.invokevirtual idx, 3)) (hl : Cond.methodLink Y.1.cls idx Y'.1 ∈ TB) (cb : CB Y' 3) (ct : CVt Y') (hs : Sh G a (0, ci)) (hci : ci < NC ∧ clC ci = Y'.1.cls) (hr : rmok d d' Y'.2.2.1)
    (hls : el Y'.2.2.1 (.ref a :: [x0, x1, x2]) = ls') (hlen : ((Value.ref a :: [x0, x1, x2]).flatMap el1).length ≤ Y'.2.2.1) (hroom : (st.map fun v => v.category).sum ≤ 8) (kk : ∀ v G' M', Q' v G' M' → E d b bs Y (pc + 3) ls (v.toList ++ st) G' M' Q) : E d b bs Y pc ls (x2 :: x1 :: x0 :: .ref a :: st) G M Q :=
  E_callV (As := [x0, x1, x2]) hd hl cb ct hs hci rfl hr hls hlen rfl hroom (by omega) (by omega) spec kk
theorem E_S3 {idx d' : Nat} {Y' : MI} {x0 x1 x2 : Value} {ls' : List (Option Value)} {Q' : Option Value → Geo → Mem → Prop} (spec : E d' 0 0 Y' 0 ls' [] G M Q') (hd : decode Y.2.1 pc = .ok (.invokestatic idx, 3)) (hl : Cond.methodLink Y.1.cls idx Y'.1 ∈ TB) (cb : CB Y' 3) (ct : CSt Y') (hr : rmok d d' Y'.2.2.1)
    (hls : el Y'.2.2.1 [x0, x1, x2] = ls') (hlen : (([x0, x1, x2] : List Value).flatMap el1).length ≤ Y'.2.2.1) (hroom : (st.map fun v => v.category).sum ≤ 8) (kk : ∀ v G' M', Q' v G' M' → E d b bs Y (pc + 3) ls (v.toList ++ st) G' M' Q) : E d b bs Y pc ls (x2 :: x1 :: x0 :: st) G M Q :=
  E_callS (As := [x0, x1, x2]) hd hl cb ct rfl hr hls hlen rfl hroom (by omega) (by omega) spec kk
theorem E_SN3 {idx d' : Nat} {host : String} {Y' : MI} {x0 x1 x2 : Value} {ls' : List (Option Value)} {Q' : Option Value → Geo → Mem → Prop} (spec : E d' 0 0 Y' 0 ls' [] G M Q') (hd : decode Y.2.1 pc = .ok (.invokestatic idx, 3)) (hl : Cond.methodLinkNest Y.1.cls idx Y'.1 host ∈ TBn) (cb : CB Y' 3) (ct : CSt Y') (hr : rmok d d' Y'.2.2.1)
    (hls : el Y'.2.2.1 [x0, x1, x2] = ls') (hlen : (([x0, x1, x2] : List Value).flatMap el1).length ≤ Y'.2.2.1) (hroom : (st.map fun v => v.category).sum ≤ 8) (kk : ∀ v G' M', Q' v G' M' → E d b bs Y (pc + 3) ls (v.toList ++ st) G' M' Q) : E d b bs Y pc ls (x2 :: x1 :: x0 :: st) G M Q :=
  E_callSN (As := [x0, x1, x2]) hd hl cb ct rfl hr hls hlen rfl hroom (by omega) (by omega) spec kk
theorem E_V4 {idx ci a d' : Nat} {Y' : MI} {x0 x1 x2 x3 : Value} {ls' : List (Option Value)} {Q' : Option Value → Geo → Mem → Prop} (spec : E d' 0 0 Y' 0 ls' [] G M Q') (hd : decode Y.2.1 pc = .ok (.invokevirtual idx, 3)) (hl : Cond.methodLink Y.1.cls idx Y'.1 ∈ TB) (cb : CB Y' 4) (ct : CVt Y') (hs : Sh G a (0, ci)) (hci : ci < NC ∧ clC ci = Y'.1.cls) (hr : rmok d d' Y'.2.2.1)
    (hls : el Y'.2.2.1 (.ref a :: [x0, x1, x2, x3]) = ls') (hlen : ((Value.ref a :: [x0, x1, x2, x3]).flatMap el1).length ≤ Y'.2.2.1) (hroom : (st.map fun v => v.category).sum ≤ 8) (kk : ∀ v G' M', Q' v G' M' → E d b bs Y (pc + 3) ls (v.toList ++ st) G' M' Q) : E d b bs Y pc ls (x3 :: x2 :: x1 :: x0 :: .ref a :: st) G M Q :=
  E_callV (As := [x0, x1, x2, x3]) hd hl cb ct hs hci rfl hr hls hlen rfl hroom (by omega) (by omega) spec kk
theorem E_S4 {idx d' : Nat} {Y' : MI} {x0 x1 x2 x3 : Value} {ls' : List (Option Value)} {Q' : Option Value → Geo → Mem → Prop} (spec : E d' 0 0 Y' 0 ls' [] G M Q') (hd : decode Y.2.1 pc = .ok (.invokestatic idx, 3)) (hl : Cond.methodLink Y.1.cls idx Y'.1 ∈ TB) (cb : CB Y' 4) (ct : CSt Y') (hr : rmok d d' Y'.2.2.1)
    (hls : el Y'.2.2.1 [x0, x1, x2, x3] = ls') (hlen : (([x0, x1, x2, x3] : List Value).flatMap el1).length ≤ Y'.2.2.1) (hroom : (st.map fun v => v.category).sum ≤ 8) (kk : ∀ v G' M', Q' v G' M' → E d b bs Y (pc + 3) ls (v.toList ++ st) G' M' Q) : E d b bs Y pc ls (x3 :: x2 :: x1 :: x0 :: st) G M Q :=
  E_callS (As := [x0, x1, x2, x3]) hd hl cb ct rfl hr hls hlen rfl hroom (by omega) (by omega) spec kk
theorem E_SN4 {idx d' : Nat} {host : String} {Y' : MI} {x0 x1 x2 x3 : Value} {ls' : List (Option Value)} {Q' : Option Value → Geo → Mem → Prop} (spec : E d' 0 0 Y' 0 ls' [] G M Q') (hd : decode Y.2.1 pc = .ok (.invokestatic idx, 3)) (hl : Cond.methodLinkNest Y.1.cls idx Y'.1 host ∈ TBn) (cb : CB Y' 4) (ct : CSt Y') (hr : rmok d d' Y'.2.2.1)
    (hls : el Y'.2.2.1 [x0, x1, x2, x3] = ls') (hlen : (([x0, x1, x2, x3] : List Value).flatMap el1).length ≤ Y'.2.2.1) (hroom : (st.map fun v => v.category).sum ≤ 8) (kk : ∀ v G' M', Q' v G' M' → E d b bs Y (pc + 3) ls (v.toList ++ st) G' M' Q) : E d b bs Y pc ls (x3 :: x2 :: x1 :: x0 :: st) G M Q :=
  E_callSN (As := [x0, x1, x2, x3]) hd hl cb ct rfl hr hls hlen rfl hroom (by omega) (by omega) spec kk
theorem E_V5 {idx ci a d' : Nat} {Y' : MI} {x0 x1 x2 x3 x4 : Value} {ls' : List (Option Value)} {Q' : Option Value → Geo → Mem → Prop} (spec : E d' 0 0 Y' 0 ls' [] G M Q') (hd : decode Y.2.1 pc = .ok (.invokevirtual idx, 3)) (hl : Cond.methodLink Y.1.cls idx Y'.1 ∈ TB) (cb : CB Y' 5) (ct : CVt Y') (hs : Sh G a (0, ci)) (hci : ci < NC ∧ clC ci = Y'.1.cls) (hr : rmok d d' Y'.2.2.1)
    (hls : el Y'.2.2.1 (.ref a :: [x0, x1, x2, x3, x4]) = ls') (hlen : ((Value.ref a :: [x0, x1, x2, x3, x4]).flatMap el1).length ≤ Y'.2.2.1) (hroom : (st.map fun v => v.category).sum ≤ 8) (kk : ∀ v G' M', Q' v G' M' → E d b bs Y (pc + 3) ls (v.toList ++ st) G' M' Q) : E d b bs Y pc ls (x4 :: x3 :: x2 :: x1 :: x0 :: .ref a :: st) G M Q :=
  E_callV (As := [x0, x1, x2, x3, x4]) hd hl cb ct hs hci rfl hr hls hlen rfl hroom (by omega) (by omega) spec kk
theorem E_S5 {idx d' : Nat} {Y' : MI} {x0 x1 x2 x3 x4 : Value} {ls' : List (Option Value)} {Q' : Option Value → Geo → Mem → Prop} (spec : E d' 0 0 Y' 0 ls' [] G M Q') (hd : decode Y.2.1 pc = .ok (.invokestatic idx, 3)) (hl : Cond.methodLink Y.1.cls idx Y'.1 ∈ TB) (cb : CB Y' 5) (ct : CSt Y') (hr : rmok d d' Y'.2.2.1)
    (hls : el Y'.2.2.1 [x0, x1, x2, x3, x4] = ls') (hlen : (([x0, x1, x2, x3, x4] : List Value).flatMap el1).length ≤ Y'.2.2.1) (hroom : (st.map fun v => v.category).sum ≤ 8) (kk : ∀ v G' M', Q' v G' M' → E d b bs Y (pc + 3) ls (v.toList ++ st) G' M' Q) : E d b bs Y pc ls (x4 :: x3 :: x2 :: x1 :: x0 :: st) G M Q :=
  E_callS (As := [x0, x1, x2, x3, x4]) hd hl cb ct rfl hr hls hlen rfl hroom (by omega) (by omega) spec kk
theorem E_SN5 {idx d' : Nat} {host : String} {Y' : MI} {x0 x1 x2 x3 x4 : Value} {ls' : List (Option Value)} {Q' : Option Value → Geo → Mem → Prop} (spec : E d' 0 0 Y' 0 ls' [] G M Q') (hd : decode Y.2.1 pc = .ok (.invokestatic idx, 3)) (hl : Cond.methodLinkNest Y.1.cls idx Y'.1 host ∈ TBn) (cb : CB Y' 5) (ct : CSt Y') (hr : rmok d d' Y'.2.2.1)
    (hls : el Y'.2.2.1 [x0, x1, x2, x3, x4] = ls') (hlen : (([x0, x1, x2, x3, x4] : List Value).flatMap el1).length ≤ Y'.2.2.1) (hroom : (st.map fun v => v.category).sum ≤ 8) (kk : ∀ v G' M', Q' v G' M' → E d b bs Y (pc + 3) ls (v.toList ++ st) G' M' Q) : E d b bs Y pc ls (x4 :: x3 :: x2 :: x1 :: x0 :: st) G M Q :=
  E_callSN (As := [x0, x1, x2, x3, x4]) hd hl cb ct rfl hr hls hlen rfl hroom (by omega) (by omega) spec kk
end ECallN
