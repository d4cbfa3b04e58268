section MPp
def mpR (o : Nat) : Nat := if 40 ≤ o then 0 else if o = 22 then 1 else if o = 21 then 2 else if o = 20 then 3 else if 10 ≤ o then 4 else if 8 ≤ o then 6 else if 6 ≤ o then 5 else 7
def mpS (n : Nat) : List Nat → Cd → List Nat × Cd
  | [], c => ([], c)
  | o :: p, c => if n ≤ mpR o then mpS n p (c ++ [(o, 0)]) else (o :: p, c)
def mpN : List Nat → Nat
  | [] => 0
  | o :: p => mpN p + (if 40 ≤ o ∨ mpR o = 7 ∨ o = 20 then 1 else 0)
def mpL : List Nat → List Nat
  | [] => []
  | o :: p => if 40 ≤ o then o :: p else mpL p
def mpO (p : List Nat) : Nat := (mpL p).headD 0
def mpC : List Nat → Bool
  | [] => false
  | o :: p => if 4 < mpR o then mpC p else decide (mpR o = 4)
def mpH : List Nat → Nat
  | [] => 0
  | o :: _ => mpR o
def mpA (p : List Nat) : Prop := mpO p = 41 ∧ mpH p ≤ 3
def mpB (p : List Nat) (s : Nat) : Nat := if 32 ≤ s ∧ s ≤ 35 then s - 26 else if mpO p ≠ 41 then 0 else if mpC p = false then (if 26 ≤ s ∧ s ≤ 31 then cmO s else 0) else if s = 17 then 21 else if s = 16 then 22 else 0
def mpT (o : Nat) (p : List Nat) (s : Nat) : Nat := if o = 40 then (if s = 37 then 1 else 0) else if o = 41 then (if s = 13 ∧ mpC p = true then 43 else 0) else if o = 42 then (if s = 14 then 44 else 0) else if o = 43 then (if s = 15 then 1 else 0) else 0
abbrev MpG : Type := Nat × List Nat × Bool × Cd
def mpW (k : Nat) (p : List Nat) (c : Cd) (o : Nat) : Nat × MpG := if mpN p = 8 then (4, k, p, false, c) else (0, k + 1, o :: p, false, c)
section SV
variable (S V : Nat → Nat) (sw : Nat)
def mpX (k : Nat) : Nat × Nat := if S k = 39 then (0, V k) else (1, nmI (S k))
def mpI (k : Nat) (p : List Nat) (c : Cd) : Nat × MpG :=
  if S k = 39 ∧ 9999 < V k then (3, k, p, false, c) else if S k = 25 ∧ sw ≠ 1 then (6, k, p, false, c)
  else if S k = 39 ∨ ((19 ≤ S k ∧ S k ≤ 25) ∨ S k = 3) then (0, k + 1, (mpS 7 p (c ++ [mpX S V k])).1, true, (mpS 7 p (c ++ [mpX S V k])).2)
  else if S k = 36 then mpW k p c 40 else if S k = 33 then mpW k p c 5 else if S k = 10 then mpW k p c 2 else if S k = 11 then mpW k p c 4 else if S k = 12 then mpW k p c 41
  else if S k = 18 ∧ mpO p = 41 ∧ mpH p ≤ 3 then mpW k p c 20 else (2, k, p, false, c)
def mpJ (o : Nat) : Nat := if mpR o = 4 then 5 else mpR o
def mpD (k : Nat) (p : List Nat) (c : Cd) : Nat × MpG :=
  if mpB p (S k) ≠ 0 then (0, k + 1, mpB p (S k) :: (mpS (mpJ (mpB p (S k))) p c).1, false, (mpS (mpJ (mpB p (S k))) p c).2)
  else if mpT (mpO p) p (S k) = 0 then (if mpO p ≠ 0 then (2, k, p, true, c) else (1, k, (mpS 1 p c).1, true, (mpS 1 p c).2))
  else if 1 < mpT (mpO p) p (S k) then (0, k + 1, (mpT (mpO p) p (S k) - 1) :: (mpS 1 p c).1.tail, false, (mpS 1 p c).2)
  else (0, k + 1, (mpS 7 (mpS 1 p c).1.tail ((mpS 1 p c).2 ++ (if mpO p = 43 then [(3, 0)] else []))).1, true, (mpS 7 (mpS 1 p c).1.tail ((mpS 1 p c).2 ++ (if mpO p = 43 then [(3, 0)] else []))).2)
def mpM (g : MpG) : Nat × MpG := if g.2.2.1 = true then mpD S g.1 g.2.1 g.2.2.2 else mpI S V sw g.1 g.2.1 g.2.2.2
def mpRun : Nat → MpG → Option (Nat × Nat × Cd)
  | 0, _ => none
  | n + 1, g => if 150 < g.2.1.length then none else if (mpM S V sw g).1 = 0 then mpRun n (mpM S V sw g).2 else some ((mpM S V sw g).1 - 1, (mpM S V sw g).2.1, (mpM S V sw g).2.2.2.2)
def Mpx (T : Nat × Nat × Cd) (g : MpG) : Prop := ∃ n c, mpRun S V sw n g = some (T.1, T.2.1, c) ∧ (T.1 = 0 → c = T.2.2)
end SV
def Mlg (n m : Nat) (p : List Nat) (c : Cd) (p' : List Nat) (c' : Cd) : Prop := ∃ q : List Nat, p' = q ++ p ∧ q.length ≤ m ∧ (∀ o ∈ q, n ≤ mpR o) ∧ c' ++ q.map (fun o => (o, 0)) = c
variable {S V : Nat → Nat} {sw : Nat} {p p' : List Nat} {c c' : Cd} {T : Nat × Nat × Cd} {n m k : Nat}
theorem Mpx.go {g g' : MpG} (hp : g.2.1.length ≤ 150) (h : mpM S V sw g = (0, g')) (K : Mpx S V sw T g') : Mpx S V sw T g := by
  obtain ⟨n, c, h1, h2⟩ := K
  refine ⟨n + 1, c, ?_, h2⟩
  rw [mpRun, if_neg (by omega), h, if_pos rfl]
  exact h1
theorem Mpx.fl {g g' : MpG} {f : Nat} (hp : g.2.1.length ≤ 150) (h : mpM S V sw g = (f + 1, g')) (h0 : f ≠ 0) (h1 : T.1 = f ∧ T.2.1 = g'.1) : Mpx S V sw T g := by
  refine ⟨1, g'.2.2.2, ?_, fun q => absurd (h1.1.symm.trans q) h0⟩
  rw [mpRun, if_neg (by omega), h, if_neg (Nat.succ_ne_zero f), h1.1, h1.2]
  rfl
theorem Mpx.en {g g' : MpG} (hp : g.2.1.length ≤ 150) (h : mpM S V sw g = (1, g')) (h1 : T = (0, g'.1, g'.2.2.2)) : Mpx S V sw T g := by
  refine ⟨1, g'.2.2.2, ?_, fun _ => by rw [h1]⟩
  rw [mpRun, if_neg (by omega), h, if_neg (Nat.succ_ne_zero 0), h1]
  rfl
theorem mpS_ctx (h : mpH p < n) : mpS n p c = (p, c) := by
  cases p with
  | nil => rfl
  | cons o p => rw [mpS, if_neg (by have : mpR o < n := h; omega)]
theorem mpS_7 {o : Nat} (h : mpR o = 7) : mpS 7 (o :: p) c = mpS 7 p (c ++ [(o, 0)]) := by rw [mpS, if_pos (by omega)]
theorem mpR_lt {o : Nat} (h : 1 ≤ mpR o) : o < 40 := by
  unfold mpR at h
  by_cases q : 40 ≤ o
  · rw [if_pos q] at h; omega
  · omega
theorem Mlg.rf : Mlg n m p c p c := ⟨[], rfl, Nat.zero_le _, fun o h => absurd h List.not_mem_nil, by rw [List.map_nil, List.append_nil]⟩
theorem Mlg.wk {n' m' : Nat} (h : Mlg n m p c p' c') (hn : n' ≤ n) (hm : m ≤ m') : Mlg n' m' p c p' c' := by
  obtain ⟨q, a, b, d, e⟩ := h
  exact ⟨q, a, by omega, fun o ho => by have := d o ho; omega, e⟩
theorem Mlg.stl {r : Nat} (h : Mlg n m p c p' c') (hr : r ≤ n) : mpS r p' c' = mpS r p c := by
  obtain ⟨q, rfl, -, d, rfl⟩ := h
  induction q generalizing c' with
  | nil => rw [List.map_nil, List.append_nil]; rfl
  | cons o q ih =>
    have h1 := d o List.mem_cons_self
    rw [List.cons_append, mpS, if_pos (by omega), ih (fun x hx => d x (List.mem_cons_of_mem _ hx)), List.map_cons, List.append_assoc]
    rfl
theorem Mlg.push {o r : Nat} (h : Mlg n m (o :: p) c p' c') (h1 : r ≤ mpR o) (h2 : r ≤ n) : Mlg r (m + 1) p (c ++ [(o, 0)]) p' c' := by
  obtain ⟨q, rfl, b, d, rfl⟩ := h
  refine ⟨q ++ [o], by rw [List.append_assoc]; rfl, by rw [List.length_append]; show q.length + 1 ≤ m + 1; omega, fun x hx => ?_, ?_⟩
  · rcases List.mem_append.mp hx with h | h
    · have := d x h; omega
    · rw [List.mem_singleton.mp h]; exact h1
  · rw [List.map_append, ← List.append_assoc]; rfl
theorem Mlg.len (h : Mlg n m p c p' c') : p'.length ≤ p.length + m := by
  obtain ⟨q, rfl, b, -, -⟩ := h
  rw [List.length_append]
  omega
theorem Mlg.opO (h : Mlg n m p c p' c') (hn : 1 ≤ n) : mpO p' = mpO p := by
  obtain ⟨q, rfl, -, d, -⟩ := h
  have e : mpL (q ++ p) = mpL p := by
    induction q with
    | nil => rfl
    | cons o q ih =>
      have h1 := mpR_lt (show 1 ≤ mpR o by have := d o List.mem_cons_self; omega)
      rw [List.cons_append, mpL, if_neg (by omega)]
      exact ih (fun x hx => d x (List.mem_cons_of_mem _ hx))
  unfold mpO
  rw [e]
theorem Mlg.isC (h : Mlg n m p c p' c') (hn : 5 ≤ n) : mpC p' = mpC p := by
  obtain ⟨q, rfl, -, d, -⟩ := h
  induction q with
  | nil => rfl
  | cons o q ih =>
    have h1 := d o List.mem_cons_self
    rw [List.cons_append, mpC, if_pos (by omega)]
    exact ih (fun x hx => d x (List.mem_cons_of_mem _ hx))
def Nz (S : Nat → Nat) (k : Nat) : Prop := ∀ j, j < k → S j ≠ 40
theorem Nz.s (h : Nz S k) (hs : S k ≠ 40) : Nz S (k + 1) := fun j hj => by
  by_cases e : j = k
  · rw [e]; exact hs
  · exact h j (by omega)
theorem Nz.gd {r : Res} (h : Nz S k) (g : Gd S k r) : Nz S r.k := fun j hj => by
  by_cases e : j < k
  · exact h j e
  · exact g.2.2.1 j (by omega) hj
def MOK (S V : Nat → Nat) (sw : Nat) (f : Nat → Nat → Res) (C : Nat → List Nat → Prop) (En : List Nat → Prop) (n m : Nat) (J : Nat → Prop) : Prop :=
  ∀ k b p c T, Nz S k → C k p → ((f k b).f = 0 → ∀ p' c', Mlg n m p (c ++ (f k b).cm) p' c' → En p' → J (S (f k b).k) → Mpx S V sw T ((f k b).k, p', true, c')) → ((f k b).f ≠ 0 → T.1 = (f k b).f ∧ T.2.1 = (f k b).k) → Mpx S V sw T (k, p, false, c)
theorem chn_nz {J : Nat → Bool} {om : Nat → Nat} {f : Nat → Nat → Res} {b : Nat} {r : Res} (h : r.f ≠ 0) : ∀ x, chn S J om f b x r = r := fun x => by
  cases x with
  | zero => rfl
  | succ x => rw [chn, if_neg (fun q => h q.1)]
theorem addR_cm {r q : Res} {o s : Nat} (h : q.f = 0) : (addR r q o s).f = 0 ∧ (addR r q o s).k = q.k ∧ (addR r q o s).cm = r.cm ++ q.cm ++ [(o, 0)] := by rw [addR_ok h]; exact ⟨rfl, rfl, rfl⟩
theorem mok_loop {f : Nat → Nat → Res} {J : Nat → Bool} {om : Nat → Nat} {C CF : Nat → List Nat → Prop} {En : List Nat → Prop} {JF : Nat → Prop} {r : Nat} (hf : MOK S V sw f CF En n m JF) (hG : GdF S f) (hN : ∀ k, Nz S k → k ≤ 300) (hr : r ≤ n)
    (hJ : ∀ s, J s = true → s ≠ 40 ∧ om s ≠ 0 ∧ mpJ (om s) = r ∧ r ≤ mpR (om s)) (hC : ∀ k p, C k p → mpH p < r ∧ p.length + (m + 1) ≤ 150 ∧ (∀ s, J s = true → ∀ k', CF k' (om s :: p)) ∧ ∀ s, J s = true → ∀ c p' c', Mlg r (m + 1) p c p' c' → En p' → mpB p' s = om s)
    {k b : Nat} {p : List Nat} {c : Cd} (hCk : C k p) (hNk : Nz S k) : ∀ x (r0 : Res) p' c', r0.f = 0 → Gd S k r0 → 300 < x + r0.k → Mlg r (m + 1) p (c ++ r0.cm) p' c' → En p' → JF (S r0.k) →
      ((chn S J om f b x r0).f = 0 → ∀ p2 c2, Mlg r (m + 1) p (c ++ (chn S J om f b x r0).cm) p2 c2 → En p2 → (JF (S (chn S J om f b x r0).k) ∧ J (S (chn S J om f b x r0).k) = false) → Mpx S V sw T ((chn S J om f b x r0).k, p2, true, c2)) →
      ((chn S J om f b x r0).f ≠ 0 → T.1 = (chn S J om f b x r0).f ∧ T.2.1 = (chn S J om f b x r0).k) → Mpx S V sw T (r0.k, p', true, c') := by
  obtain ⟨c1, c2, c3, c4⟩ := hC k p hCk
  intro x
  induction x with
  | zero =>
    intro r0 p' c' h0 hg hx _ _ _ _ _
    have := hN _ (hNk.gd hg)
    omega
  | succ x ih =>
    intro r0 p' c' h0 hg hx hl he hj K F
    by_cases q : J (S r0.k) = true
    · obtain ⟨j1, j2, j3, j4⟩ := hJ _ q
      rw [chn, if_pos ⟨h0, q⟩] at K F
      have hb := c4 _ q _ _ _ hl he
      have hs : mpM S V sw (r0.k, p', true, c') = (0, r0.k + 1, om (S r0.k) :: p, false, c ++ r0.cm) := by
        show mpD S r0.k p' c' = _
        unfold mpD
        rw [hb, if_pos j2, j3, hl.stl (Nat.le_refl r), mpS_ctx c1]
      have hl2 := hl.len
      refine Mpx.go (by show p'.length ≤ 150; omega) hs ?_
      have hN1 := (hNk.gd hg).s j1
      have hgf := hG (r0.k + 1) (b + r0.cc.length)
      have hk := hg.2.2.2 h0
      refine hf (r0.k + 1) (b + r0.cc.length) _ _ T hN1 (c3 _ q _) ?_ ?_
      · intro q0 p2 cc2 hl3 he2 hj2
        obtain ⟨a1, a2, a3⟩ := addR_cm (r := r0) (o := om (S r0.k)) (s := S r0.k) q0
        have hgd := hg.add (o := om (S r0.k)) (s := S r0.k) h0 j1 hgf
        have hlt := hgf.2.2.2 q0
        generalize addR r0 (f (r0.k + 1) (b + r0.cc.length)) (om (S r0.k)) (S r0.k) = r1 at *
        have := ih r1 p2 cc2 a1 hgd (by rw [a2]; omega) (by rw [a3, ← List.append_assoc, ← List.append_assoc]; exact hl3.push j4 hr) he2 (by rw [a2]; exact hj2) K F
        rw [a2] at this
        exact this
      · intro q0
        have e : addR r0 (f (r0.k + 1) (b + r0.cc.length)) (om (S r0.k)) (S r0.k) = f (r0.k + 1) (b + r0.cc.length) := by unfold addR; rw [if_neg q0]
        rw [e, chn_nz q0] at F
        exact F q0
    · rw [chn, if_neg (fun z => q z.2)] at K F
      exact K h0 p' c' hl he ⟨hj, by cases h : J (S r0.k) with | false => rfl | true => exact absurd h q⟩
theorem MOK.chn {f : Nat → Nat → Res} {J : Nat → Bool} {om : Nat → Nat} {C CF : Nat → List Nat → Prop} {En : List Nat → Prop} {JF : Nat → Prop} {r : Nat} (hf : MOK S V sw f CF En n m JF) (hG : GdF S f) (hN : ∀ k, Nz S k → k ≤ 300) (hr : r ≤ n)
    (hJ : ∀ s, J s = true → s ≠ 40 ∧ om s ≠ 0 ∧ mpJ (om s) = r ∧ r ≤ mpR (om s)) (hC : ∀ k p, C k p → mpH p < r ∧ p.length + (m + 1) ≤ 150 ∧ (∀ s, J s = true → ∀ k', CF k' (om s :: p)) ∧ ∀ s, J s = true → ∀ c p' c', Mlg r (m + 1) p c p' c' → En p' → mpB p' s = om s)
    (hI : ∀ k p, C k p → CF k p) : MOK S V sw (fun k b => chn S J om f b 300 (f k b)) C En r (m + 1) (fun s => JF s ∧ J s = false) := by
  intro k b p c T hz hCk K F
  refine hf k b p c T hz (hI k p hCk) ?_ ?_
  · intro q0 p' c' hl he hj
    have hg := hG k b
    exact mok_loop hf hG hN hr hJ hC hCk hz 300 (f k b) p' c' q0 hg (by have := hg.2.2.2 q0; omega) (hl.wk hr (Nat.le_succ m)) he hj K F
  · intro q0
    have e := chn_nz (S := S) (J := J) (om := om) (f := f) (b := b) q0 300
    have F := F
    rw [show (fun k b => Jvm.Pilot.CTruePollLaw_law_r8010_968f2b.chn S J om f b 300 (f k b)) k b = f k b from e] at F
    exact F q0
end MPp
