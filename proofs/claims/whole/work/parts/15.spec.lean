def pcn : Nat → Nat → Nat
  | 0, _ => 0
  | n + 1, s => s % 2 + pcn n (s / 2)
def pc9 (s : Nat) : Nat := pcn 10 s
def bset (P : Nat → Bool) : Nat → Nat
  | 0 => 0
  | n + 1 => bset P n + (if P n = true then 2 ^ n else 0)
abbrev Mo : Type := (Nat → Nat) × List (Nat × Nat × Nat) × Nat × Nat × Nat × Nat × Nat
def Mo.lean (m : Mo) : Nat → Nat := m.1
def Mo.book (m : Mo) : List (Nat × Nat × Nat) := m.2.1
def Mo.people (m : Mo) : Nat := m.2.2.1
def Mo.answers (m : Mo) : Nat := m.2.2.2.1
def Mo.figure (m : Mo) : Nat := m.2.2.2.2.1
def Mo.round (m : Mo) : Nat := m.2.2.2.2.2.1
def Mo.x (m : Mo) : Nat := m.2.2.2.2.2.2
abbrev Cd : Type := List (Nat × Nat)
abbrev Tx : Type := List (Nat × Nat × Nat) × Option (Cd × Cd) × Option (Cd × Cd)
def Tx.clauses (t : Tx) : List (Nat × Nat × Nat) := t.1
def Tx.says (t : Tx) : Option (Cd × Cd) := t.2.1
def Tx.sways (t : Tx) : Option (Cd × Cd) := t.2.2
abbrev Cr : Type := Mo × (Nat → Nat) × (Nat → Nat) × (Nat → Nat) × List Mo × List Tx × Option Nat × List (Nat × Nat) × List (Nat × Nat) × (Nat → Nat)
def Cr.now (c : Cr) : Mo := c.1
def Cr.sort (c : Cr) : Nat → Nat := c.2.1
def Cr.begun (c : Cr) : Nat → Nat := c.2.2.1
def Cr.hears (c : Cr) : Nat → Nat := c.2.2.2.1
def Cr.steps (c : Cr) : List Mo := c.2.2.2.2.1
def Cr.texts (c : Cr) : List Tx := c.2.2.2.2.2.1
def Cr.ruling (c : Cr) : Option Nat := c.2.2.2.2.2.2.1
def Cr.parties (c : Cr) : List (Nat × Nat) := c.2.2.2.2.2.2.2.1
def Cr.saids (c : Cr) : List (Nat × Nat) := c.2.2.2.2.2.2.2.2.1
def Cr.villages (c : Cr) : Nat → Nat := c.2.2.2.2.2.2.2.2.2
def Cr.setNow (c : Cr) (m : Mo) : Cr := (m, c.2)
abbrev St : Type := Cr × Cr × List Nat × Int32 × Int32
def St.cr (s : St) : Cr := s.1
def St.img (s : St) : Cr := s.2.1
def St.tape (s : St) : List Nat := s.2.2.1
def St.fault (s : St) : Int32 := s.2.2.2.1
def St.place (s : St) : Int32 := s.2.2.2.2
def St.setCr (s : St) (c : Cr) : St := (c, s.2)
def enO (r : Option Nat) : Int32 := match r with
  | none => -1
  | some t => nI t
def clip (v : Int) : Int := if v > 1000000 then 1000000 else if v < -1000000 then -1000000 else v
def clampZ (v lo hi : Int) : Int := if v < lo then lo else if v > hi then hi else v
def oneBy (m : Mo) (o : Nat) (v : Int) : Int :=
  if o = 5 then -v else if v < 0 ∨ (m.people : Int) ≤ v then 0 else if o = 2 then (m.lean v.toNat : Int) else if m.answers.testBit v.toNat = true then 1 else 0
def twoBy (o : Nat) (x y : Int) : Int :=
  if o = 6 then clip (x + y) else if o = 7 then clip (x - y) else if o = 8 then clip (x * y) else if y = 0 then 0 else clip (x.tdiv y)
def askBy (o : Nat) (x y : Int) : Bool :=
  if o = 10 then decide (x < y) else if o = 11 then decide (x ≤ y) else if o = 12 then decide (x > y) else if o = 13 then decide (x ≥ y) else if o = 14 then decide (x = y) else decide (x ≠ y)
def evR1 (nm : Nat → Int) (m : Mo) (o v : Nat) (S : List Int × List Bool) : List Int × List Bool :=
  if o ≤ 1 then ((if o = 0 then (v : Int) else nm v) :: S.1, S.2)
  else if o = 3 then ((if S.2.headD false = true then S.1.tail.headD 0 else S.1.headD 0) :: S.1.tail.tail, S.2.tail)
  else if o ≤ 5 then (oneBy m o (S.1.headD 0) :: S.1.tail, S.2)
  else if o < 10 then (twoBy o (S.1.tail.headD 0) (S.1.headD 0) :: S.1.tail.tail, S.2)
  else if o < 20 then (S.1.tail.tail, askBy o (S.1.tail.headD 0) (S.1.headD 0) :: S.2)
  else if o = 20 then (S.1, (!S.2.headD false) :: S.2.tail)
  else (S.1, (if o = 21 then (S.2.tail.headD false && S.2.headD false) else (S.2.tail.headD false || S.2.headD false)) :: S.2.tail.tail)
def evR (nm : Nat → Int) (m : Mo) : Cd → List Int × List Bool → List Int × List Bool
  | [], S => S
  | (o, v) :: l, S => evR nm m l (evR1 nm m o v S)
def worthR (code : Cd) (nm : Nat → Int) (m : Mo) : Int := (evR nm m code ([], [])).1.headD 0
def nmOf (c : Cr) (m : Mo) (p f y : Nat) : Nat → Int := fun k => match k with
  | 0 => m.round
  | 1 => p
  | 2 => m.lean p
  | 3 => c.sort p
  | 4 => m.people
  | 5 => pc9 (c.hears p &&& m.answers)
  | 6 => f
  | _ => y
def bySort (c : Cr) (m : Mo) (p f : Nat) : Bool := match c.sort p with
  | 0 => decide (4 < m.lean p)
  | 1 => decide (m.people ≤ 2 * f)
  | 2 => decide (2 * f < m.people)
  | _ => decide (f ≤ m.lean p + 2 ∧ m.lean p ≤ f + 2)
def isYes (c : Cr) (m : Mo) (t : Option Tx) (p f : Nat) : Bool := match t.bind Tx.says with
  | none => bySort c m p f
  | some q => decide (0 < worthR q.1 (nmOf c m p f 0) m)
def ruler (c : Cr) : Option Tx := c.ruling.bind fun t => c.texts[t]?
def sway (c : Cr) (m : Mo) (p f y : Nat) : Int := match (ruler c).bind Tx.sways with
  | none => 0
  | some q => clampZ (worthR q.1 (nmOf c m p f y) m) (-2) 2
def yesTo (c : Cr) (m : Mo) (t : Option Tx) (f : Nat) : Nat := bset (fun p => isYes c m t p f) m.people
def nx (x : Nat) : Nat := (x * 709 + 577) % 31033
def nxs : Nat → Nat → Nat
  | 0, x => x
  | n + 1, x => nx (nxs n x)
def answered (c : Cr) (m : Mo) (f : Nat) : Nat := bset (fun p => (isYes c m (ruler c) p f) != (decide (nxs p m.x % 20 = 0))) m.people
def push30 {α : Type} (l : List α) (e : α) : List α := if l.length = 30 then l.tail ++ [e] else l ++ [e]
def passM (c : Cr) (m : Mo) (f : Nat) : Mo :=
  (fun p => (clampZ ((m.lean p : Int) + sway c m p f (if (answered c m f).testBit p = true then 1 else 0)) 0 9).toNat,
   push30 m.book (m.round, f, pc9 (answered c m f)), m.people, answered c m f, pc9 (answered c m f), m.round + 1, nxs m.people m.x)
def keepS (c : Cr) : Cr := (c.now, c.sort, c.begun, c.hears, push30 c.steps c.now, c.2.2.2.2.2)
def Mok (m : Mo) : Prop := m.people ≤ 8 ∧ (∀ p, m.lean p ≤ 9) ∧ m.answers < 2 ^ m.people ∧ m.figure = pc9 m.answers ∧ m.round ≤ 9999 ∧ m.x < 31033 ∧ m.book.length ≤ 30 ∧ ∀ e ∈ m.book, e.1 ≤ 9999 ∧ e.2.1 ≤ 8 ∧ e.2.2 ≤ 8
