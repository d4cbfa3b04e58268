theorem i2l_nI {a : Nat} (h : a < 2147483648) : (nI a).toInt64 = lN a := nI_l h
theorem lg_eq0 {a b : Nat} (ha : a < 9223372036854775808) (hb : b < 9223372036854775808) : lg_cmp (lN a) (lN b) = 0 ↔ a = b := by
  rw [lg_cmp_eq]
  exact pk_lEQ ha hb
section ELong
variable {d b bs : Nat} {Y : MI} {pc : Nat} {ls : List (Option Value)} {st : List Value} {G : Geo} {M : Mem} {Q : Option Value → Geo → Mem → Prop}
theorem E_isM2 {x y : Nat} (k : E d b bs Y pc ls (.long (lN y) :: .long (lN x) :: st) G M Q) : E d b bs Y pc ls (.long (lN y) :: .long (lN x) :: st) G M Q := k
theorem E_i2lN {x : Nat} (hd : decode Y.2.1 pc = .ok (.i2l, 1)) (hx : x < 2147483648) (k : E d b bs Y (pc + 1) ls (.long (lN x) :: st) G M Q) : E d b bs Y pc ls (.int (nI x) :: st) G M Q := E_i2l hd (by rw [i2l_nI hx]; exact k)
theorem E_laddN {x y : Nat} (hd : decode Y.2.1 pc = .ok (.ladd, 1)) (k : E d b bs Y (pc + 1) ls (.long (lN (x + y)) :: st) G M Q) : E d b bs Y pc ls (.long (lN y) :: .long (lN x) :: st) G M Q := E_ladd hd (by rw [lN_add]; exact k)
theorem E_lmulN {x y : Nat} (hd : decode Y.2.1 pc = .ok (.lmul, 1)) (k : E d b bs Y (pc + 1) ls (.long (lN (x * y)) :: st) G M Q) : E d b bs Y pc ls (.long (lN y) :: .long (lN x) :: st) G M Q := E_lmul hd (by rw [lN_mul]; exact k)
theorem E_lsubN {x y : Nat} (hd : decode Y.2.1 pc = .ok (.lsub, 1)) (h : y ≤ x) (k : E d b bs Y (pc + 1) ls (.long (lN (x - y)) :: st) G M Q) : E d b bs Y pc ls (.long (lN y) :: .long (lN x) :: st) G M Q := E_lsub hd (by rw [lN_sub h]; exact k)
theorem lN_ne0 {y : Nat} (h0 : 0 < y) (hy : y < 9223372036854775808) : ¬ lN y = 0 := fun q => by
  have := (pk_lEQ (a := y) (b := 0) hy (by decide)).mp q
  omega
theorem E_ldivN {x y : Nat} (hd : decode Y.2.1 pc = .ok (.ldiv, 1)) (h0 : 0 < y) (hx : x < 9223372036854775808) (hy : y < 9223372036854775808) (k : E d b bs Y (pc + 1) ls (.long (lN (x / y)) :: st) G M Q) : E d b bs Y pc ls (.long (lN y) :: .long (lN x) :: st) G M Q := E_ldiv hd (lN_ne0 h0 hy) (by rw [pk_lDiv hx h0 hy]; exact k)
theorem E_lremN {x y : Nat} (hd : decode Y.2.1 pc = .ok (.lrem, 1)) (h0 : 0 < y) (hx : x < 9223372036854775808) (hy : y < 9223372036854775808) (k : E d b bs Y (pc + 1) ls (.long (lN (x % y)) :: st) G M Q) : E d b bs Y pc ls (.long (lN y) :: .long (lN x) :: st) G M Q := E_lrem hd (lN_ne0 h0 hy) (by rw [pk_lRem hx h0 hy]; exact k)
end ELong
def wE (w : Nat) : Int32 := match w with
  | 0 => -1
  | n + 1 => nI n
def setLean (m : Mo) (p l : Nat) : Mo := (fun i => if i = p then l else m.lean i, m.2)
def mvT (c : Cr) (p f : Nat) (l : Nat) : Bool := isYes c (setLean c.now p l) (ruler c) p f != isYes c c.now (ruler c) p f
def moveA (T : Nat → Bool) (own : Nat) : Nat → Nat → Nat
  | 0, _ => 0
  | k + 1, b => if b ≤ own ∧ T (own - b) = true then own - b + 1 else if own + b ≤ 9 ∧ T (own + b) = true then own + b + 1 else moveA T own k (b + 1)
def moveN (c : Cr) (p f : Nat) : Nat := moveA (mvT c p f) (c.now.lean p) 9 1
def ans_move (c : Cr) (x y : Int32) : Int32 := if inN x c.now.people ∧ inN y (c.now.people + 1) then wE (moveN c (tN x) (tN y)) else -1
def cst (c : Cr) (f : Nat) (yn : Bool) (p : Nat) : Nat := if isYes c c.now (ruler c) p f = yn ∧ moveN c p f ≠ 0 then ap (moveN c p f - 1) (c.now.lean p) else 0
def priceP (g : Nat → Nat) (b : Nat) : Nat → List Nat
  | 0 => []
  | p + 1 => priceP g b p ++ (if g p = b then [b] else [])
def priceB (g : Nat → Nat) (m : Nat) : Nat → List Nat
  | 0 => []
  | b + 1 => priceB g m b ++ priceP g (b + 1) m
def sumT (L : List Nat) : Nat → Nat
  | 0 => 0
  | n + 1 => sumT L n + L.getD n 0
def cheapN (c : Cr) (f : Nat) : Int32 :=
  if (priceB (cst c f (decide (f < cm c f))) c.now.people 9).length < ap (cm c f) f then -1 else nI (sumT (priceB (cst c f (decide (f < cm c f))) c.now.people 9) (ap (cm c f) f))
def ans_cheapest (c : Cr) (x : Int32) : Int32 := if inN x (c.now.people + 1) then cheapN c (tN x) else -1
def tenN (c : Cr) (odds p : Nat) : Nat := if (yesN c c.now.figure).testBit p = true then 10 - odds else odds
def rowN (g : Nat → Nat) : Nat → Nat → Nat
  | 0, i => if i = 0 then 1 else 0
  | p + 1, 0 => rowN g p 0 * (10 - g p)
  | p + 1, i + 1 => rowN g p (i + 1) * (10 - g p) + rowN g p i * g p
def sumN (g : Nat → Nat) : Nat → Nat
  | 0 => 0
  | n + 1 => sumN g n + g n
def lowest (up all : Nat) (z : Int32) : Int64 := lN ((if z = 0 then up else all) / Nat.gcd up all)
def ans_sure (c : Cr) (x y z : Int32) : Int64 := if inN x 9 ∧ inN y 11 then lowest (rowN (tenN c (tN y)) c.now.people (tN x)) (10 ^ c.now.people) z else -1
def ans_mean (c : Cr) (y z : Int32) : Int64 := if inN y 11 then lowest (sumN (tenN c (tN y)) c.now.people) 10 z else -1
def sweepA (c : Cr) : Nat → Nat → Nat
  | 0, s => s
  | n + 1, s => if (sweepA c n s).testBit n = true then sweepA c n s ||| c.hears n else sweepA c n s
def sweep (c : Cr) (s : Nat) : Nat := sweepA c c.now.people s
def clo (c : Cr) (p : Nat) : Nat := itn (sweep c) c.now.people (c.hears p)
def ans_reach (c : Cr) (x : Int32) : Int32 := if inN x c.now.people then nI (clo c (tN x)) else -1
def firstA (c : Cr) (p : Nat) : Nat → Bool
  | 0 => true
  | q + 1 => firstA c p q && !((clo c p).testBit q && (clo c q).testBit p)
def ans_circles (c : Cr) : Int32 := nI (cnt (fun p => firstA c p p) c.now.people)
def earsN (c : Cr) (p : Nat) : Nat := cnt (fun q => (c.hears q).testBit p) c.now.people
def loudA (c : Cr) : Nat → Nat
  | 0 => 0
  | p + 1 => if (if loudA c p = 0 then 0 else earsN c (loudA c p - 1)) < earsN c p then p + 1 else loudA c p
def ans_loud (c : Cr) : Int32 := wE (loudA c c.now.people)
