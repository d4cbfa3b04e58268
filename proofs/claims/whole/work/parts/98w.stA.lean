section STT
variable {σ : St} {G G' : Geo} {M M' : Mem} {c' : Cr}
def SC (σ : St) (G : Geo) (M : Mem) : Prop := GC G ∧ RC M ∧ HC σ.cr 1 G M ∧ HC σ.img 105 G M ∧ TO 1 G M ∧ TO 105 G M ∧ TapeC σ.tape M ∧ mI M 0 11 = σ.fault ∧ mI M 0 12 = σ.place
def SM (σ : St) (M : Mem) : Prop := HM σ.cr M ∧ RepA σ.img (mI M 2) ∧ TapeM σ.tape M ∧ NW M ∧ mI M 0 5 = σ.fault ∧ mI M 0 6 = σ.place ∧ mI M 0 23 = nI 1
def SI (σ : St) : Prop := Wf σ.img ∧ (∃ more, σ.cr.texts = σ.img.texts ++ more) ∧ ∀ x ∈ σ.cr.texts, TxB x
def St.setTape (σ : St) (l : List Nat) : St := (σ.cr, σ.img, l, σ.fault, σ.place)
theorem SC.cm0 (h : SC σ G M) : CM σ.cr G M := ⟨h.1, h.2.1, h.2.2.1⟩
theorem TO.cg {b : Nat} (h : TO b G M) (e : mR M' (b + 8) = mR M (b + 8)) : TO b G M' := fun t ht => by rw [e]; exact h t ht
theorem TapeC.cg {l : List Nat} (h : TapeC l M) (e0 : mI M' 220 = mI M 220) (e1 : mI M' 221 = mI M 221) : TapeC l M' := ⟨h.1, by rw [e0]; exact h.2.1, fun i hi => by rw [e1]; exact h.2.2.1 i hi, h.2.2.2⟩
theorem TapeM.cg {l : List Nat} (h : TapeM l M) (e0 : mI M' 0 = mI M 0) (e1 : mI M' 4 = mI M 4) : TapeM l M' := ⟨h.1, by rw [e0]; exact h.2.1, fun i hi => by rw [e1]; exact h.2.2.1 i hi, h.2.2.2⟩
theorem NW.cg (h : NW M) (e0 : mI M' 0 = mI M 0) (e1 : mL M' 0 = mL M 0) : NW M' := by
  obtain ⟨N, W, a, b, c, d⟩ := h
  exact ⟨N, W, a, b, by rw [e0]; exact c, by rw [e1]; exact d⟩
theorem SC.cq (h : SC σ G M) (g : Sc CQ M M') : SC σ G M' := by
  obtain ⟨h1, h2, h3, h4, h5, h6, h7, h8, h9⟩ := h
  have hq : ∀ a, CQ a → 209 ≤ a ∧ a < 234 := fun a q => by unfold CQ at q; omega
  have eR : ∀ a, a ≠ 212 → mR M' a = mR M a := fun a ha => funext fun j => g.1 a j (fun z => absurd z ha)
  exact ⟨h1, h2.sc g, h3.sc (Or.inl rfl) g hq, h4.sc (Or.inr rfl) g hq, h5.cg (eR _ (by decide)), h6.cg (eR _ (by decide)), h7.cg (g.2 220 (by unfold CQ; omega)).1 (g.2 221 (by unfold CQ; omega)).1, by rw [(g.2 0 (by unfold CQ; omega)).1]; exact h8, by rw [(g.2 0 (by unfold CQ; omega)).1]; exact h9⟩
theorem SC.cw (h : SC σ G M) (hc : CM c' G M') (g : Sc CW M M') : SC (σ.setCr c') G M' := by
  obtain ⟨h1, h2, h3, h4, h5, h6, h7, h8, h9⟩ := h
  have eR : ∀ a, a ≠ 212 → mR M' a = mR M a := fun a ha => funext fun j => g.1 a j (fun z => absurd z ha)
  have eI : ∀ a, (a = 0 ∨ (105 ≤ a ∧ a < 209) ∨ a = 220 ∨ a = 221 ∨ 234 ≤ a) → mI M' a = mI M a := fun a ha => (g.2 a (fun q => by unfold CW CQ at q; omega)).1
  exact ⟨hc.1, hc.2.1, hc.2.2, h4.cg fun k hk => ⟨eI k (by omega), eR k (by omega)⟩, h5.cg (eR _ (by decide)), h6.cg (eR _ (by decide)), h7.cg (eI 220 (by omega)) (eI 221 (by omega)), by rw [eI 0 (by omega)]; exact h8, by rw [eI 0 (by omega)]; exact h9⟩
theorem SC.tp {l' : List Nat} (h : SC σ G M) (hR : RC M') (hT : TapeC l' M') (g : Sc STp M M') : SC (σ.setTape l') G M' := by
  obtain ⟨h1, h2, h3, h4, h5, h6, h7, h8, h9⟩ := h
  have hq : ∀ a, STp a → 209 ≤ a ∧ a < 234 := fun a q => by unfold STp at q; omega
  have eR : ∀ a, a ≠ 212 → mR M' a = mR M a := fun a ha => funext fun j => g.1 a j (fun z => absurd z ha)
  exact ⟨h1, hR, h3.sc (Or.inl rfl) g hq, h4.sc (Or.inr rfl) g hq, h5.cg (eR _ (by decide)), h6.cg (eR _ (by decide)), hT, by rw [(g.2 0 (by unfold STp; omega)).1]; exact h8, by rw [(g.2 0 (by unfold STp; omega)).1]; exact h9⟩
theorem SM.sp {P : Nat → Prop} (h : SM σ M) (hM : HM c' M') (g : Sx P M M') (hP : ∀ a, P a → a = 1 ∨ 6 ≤ a) : SM (σ.setCr c') M' := by
  obtain ⟨h1, h2, h3, h4, h5, h6, h7⟩ := h
  have e : ∀ a, (a = 0 ∨ a = 2 ∨ a = 4) → mI M' a = mI M a ∧ mL M' a = mL M a := fun a ha => g.2 a (fun q => by have := hP a q; omega)
  exact ⟨hM, by rw [(e 2 (by omega)).1]; exact h2, h3.cg (e 0 (by omega)).1 (e 4 (by omega)).1, h4.cg (e 0 (by omega)).1 (e 0 (by omega)).2, by rw [(e 0 (by omega)).1]; exact h5, by rw [(e 0 (by omega)).1]; exact h6, by rw [(e 0 (by omega)).1]; exact h7⟩
theorem SM.s1 (h : SM σ M) (hM : HM c' M') (g : Sx S1 M M') : SM (σ.setCr c') M' := h.sp hM g (fun a q => by unfold S1 SQ at q; omega)
theorem SM.sq (h : SM σ M) (g : Sx SQ M M') : SM σ M' := h.sp (h.1.sx g) g (fun a q => Or.inr q)
theorem SM.sy (h : SM σ M) (g : Sx SY M M') : SM σ M' := h.sq (g.wk fun _ => SY.q)
theorem SM.tp {l' : List Nat} (h : SM σ M) (hR : MR M') (hT : TapeM l' M') (g : X04 M M') : SM (σ.setTape l') M' := by
  obtain ⟨h1, h2, h3, h4, h5, h6, h7⟩ := h
  obtain ⟨g1, g2, g3⟩ := g
  have e : ∀ a, (a = 1 ∨ a = 2 ∨ a = 3) → mI M' a = mI M a := fun a ha => (g1.2 a (fun q => by unfold S04 at q; omega)).1
  obtain ⟨N, W, n1, n2, n3, n4⟩ := h4
  exact ⟨⟨hR, by rw [e 1 (by omega)]; exact h1.A, by rw [e 3 (by omega)]; exact h1.T, h1.w⟩, by rw [e 2 (by omega)]; exact h2, hT, ⟨N, W, n1, n2, (g2 10 (by decide)).trans n3, by rw [g3]; exact n4⟩, (g2 5 (by decide)).trans h5, (g2 6 (by decide)).trans h6, (g2 23 (by decide)).trans h7⟩
theorem SI.cr (h : SI σ) (e : c'.texts = σ.cr.texts) : SI (σ.setCr c') := ⟨h.1, by show ∃ more, c'.texts = σ.img.texts ++ more; rw [e]; exact h.2.1, fun x hx => h.2.2 x (by rw [← e]; exact hx)⟩
theorem SI.tp {l' : List Nat} (h : SI σ) : SI (σ.setTape l') := h
theorem SM.R (h : SM σ M) : MR M := h.1.R
theorem if_texts {P : Prop} [Decidable P] {a b c : Cr} (ha : a.texts = c.texts) (hb : b.texts = c.texts) : (if P then a else b).texts = c.texts := by split; exact ha; exact hb
theorem playA_texts (x : Tx) : ∀ j k c, (playA x j k c).1.texts = c.texts := by
  intro j
  induction j with
  | zero => intro k c; rfl
  | succ j ih =>
    intro k c
    rw [playA]
    split
    · exact (ih _ _).trans (playC_texts _ _)
    · exact playC_texts _ _
theorem happ_texts (c : Cr) (x : Nat) : (happ c x).texts = c.texts := by
  unfold happ
  repeat' split
  all_goals rfl
theorem setNow_texts (c : Cr) (m : Mo) : (c.setNow m).texts = c.texts := rfl
theorem yearA_texts : ∀ n c, (yearA n c).texts = c.texts := by
  intro n
  induction n with
  | zero => intro c; rfl
  | succ n ih =>
    intro c
    rw [yearA]
    rw [ih, happ_texts, setNow_texts]
theorem cT_of (h : SC σ G M) (hI : SI σ) (x y : Int32) : E 4 0 0 Y_TP_of 0 [some (.ref 0), some (.int x), some (.int y), none] [] G M (QI G fun r M' => r = ans_of σ.cr x y ∧ SC σ G M') :=
  E_mono (sp_TP_of h.cm0 x y) (fun _ _ _ y => by obtain ⟨a, r, b, e, z⟩ := y; exact ⟨a, r, b, e, h.cq z⟩)
theorem mT_of (h : SM σ M) (hI : SI σ) (x y : Int32) : E 4 0 0 Y_TM_of 0 [some (.ref 0), some (.int x), some (.int y)] [] GM M (QI GM fun r M' => r = ans_of σ.cr x y ∧ SM σ M') :=
  E_mono (sp_TM_of h.1 x y) (fun _ _ _ y => by obtain ⟨a, r, b, e, z⟩ := y; exact ⟨a, r, b, e, h.sy z⟩)
theorem cT_says (h : SC σ G M) (hI : SI σ) (x y : Int32) : E 4 0 0 Y_TP_says 0 [some (.ref 0), some (.int x), some (.int y)] [] G M (QI G fun r M' => r = ans_says σ.cr x y ∧ SC σ G M') :=
  E_mono (sp_TP_says h.cm0 x y) (fun _ _ _ y => by obtain ⟨a, r, b, e, z⟩ := y; exact ⟨a, r, b, e, h.cq z⟩)
theorem mT_says (h : SM σ M) (hI : SI σ) (x y : Int32) : E 5 0 0 Y_TM_says 0 [some (.ref 0), some (.int x), some (.int y)] [] GM M (QI GM fun r M' => r = ans_says σ.cr x y ∧ SM σ M') :=
  E_mono (sp_TM_says h.1 x y) (fun _ _ _ y => by obtain ⟨a, r, b, e, z⟩ := y; exact ⟨a, r, b, e, h.sy z⟩)
theorem cT_is (h : SC σ G M) (hI : SI σ) (x : Int32) : E 2 0 0 Y_TP_is 0 [some (.ref 0), some (.int x), none] [] G M (QI G fun r M' => r = ans_is σ.cr x ∧ SC σ G M') :=
  E_mono (sp_TP_is h.cm0 x) (fun _ _ _ y => by obtain ⟨a, r, b, e, z⟩ := y; exact ⟨a, r, b, e, h.cq z⟩)
theorem mT_is (h : SM σ M) (hI : SI σ) (x : Int32) : E 1 0 0 Y_TM_is 0 [some (.ref 0), some (.int x), none, none] [] GM M (QI GM fun r M' => r = ans_is σ.cr x ∧ SM σ M') :=
  E_mono (sp_TM_is h.1 x) (fun _ _ _ y => by obtain ⟨a, r, b, e, z⟩ := y; exact ⟨a, r, b, e, by rw [z]; exact h⟩)
theorem cT_book (h : SC σ G M) (hI : SI σ) (x y : Int32) : E 2 0 0 Y_TP_book 0 [some (.ref 0), some (.int x), some (.int y), none] [] G M (QI G fun r M' => r = ans_book σ.cr x y ∧ SC σ G M') :=
  E_mono (sp_TP_book h.cm0 x y) (fun _ _ _ y => by obtain ⟨a, r, b, e, z⟩ := y; exact ⟨a, r, b, e, h.cq z⟩)
theorem mT_book (h : SM σ M) (hI : SI σ) (x y : Int32) : E 1 0 0 Y_TM_book 0 [some (.ref 0), some (.int x), some (.int y)] [] GM M (QI GM fun r M' => r = ans_book σ.cr x y ∧ SM σ M') :=
  E_mono (sp_TM_book h.1 x y) (fun _ _ _ y => by obtain ⟨a, r, b, e, z⟩ := y; exact ⟨a, r, b, e, by rw [z]; exact h⟩)
theorem cT_comes (h : SC σ G M) (hI : SI σ) (x : Int32) : E 6 0 0 Y_TP_comes 0 [some (.ref 0), some (.int x)] [] G M (QI G fun r M' => r = ans_comes σ.cr x ∧ SC σ G M') :=
  E_mono (sp_TP_comes h.cm0 x) (fun _ _ _ y => by obtain ⟨a, r, b, e, z⟩ := y; exact ⟨a, r, b, e, h.cq z⟩)
theorem mT_comes (h : SM σ M) (hI : SI σ) (x : Int32) : E 7 0 0 Y_TM_comes 0 [some (.ref 0), some (.int x)] [] GM M (QI GM fun r M' => r = ans_comes σ.cr x ∧ SM σ M') :=
  E_mono (sp_TM_comes h.1 x) (fun _ _ _ y => by obtain ⟨a, r, b, e, z⟩ := y; exact ⟨a, r, b, e, h.sy z⟩)
theorem cT_trues (h : SC σ G M) (hI : SI σ)  : E 6 0 0 Y_TP_trues 0 [some (.ref 0)] [] G M (QI G fun r M' => r = ans_trues σ.cr ∧ SC σ G M') :=
  E_mono (sp_TP_trues h.cm0 ) (fun _ _ _ y => by obtain ⟨a, r, b, e, z⟩ := y; exact ⟨a, r, b, e, h.cq z⟩)
theorem mT_trues (h : SM σ M) (hI : SI σ)  : E 7 0 0 Y_TM_trues 0 [some (.ref 0), none, none] [] GM M (QI GM fun r M' => r = ans_trues σ.cr ∧ SM σ M') :=
  E_mono (sp_TM_trues h.1 ) (fun _ _ _ y => by obtain ⟨a, r, b, e, z⟩ := y; exact ⟨a, r, b, e, h.sy z⟩)
theorem cT_firm (h : SC σ G M) (hI : SI σ)  : E 6 0 0 Y_TP_firm 0 [some (.ref 0)] [] G M (QI G fun r M' => r = ans_firm σ.cr ∧ SC σ G M') :=
  E_mono (sp_TP_firm h.cm0 ) (fun _ _ _ y => by obtain ⟨a, r, b, e, z⟩ := y; exact ⟨a, r, b, e, h.cq z⟩)
theorem mT_firm (h : SM σ M) (hI : SI σ)  : E 8 0 0 Y_TM_firm 0 [some (.ref 0), none, none] [] GM M (QI GM fun r M' => r = ans_firm σ.cr ∧ SM σ M') :=
  E_mono (sp_TM_firm h.1 ) (fun _ _ _ y => by obtain ⟨a, r, b, e, z⟩ := y; exact ⟨a, r, b, e, h.sy z⟩)
theorem cT_ends (h : SC σ G M) (hI : SI σ) (x z : Int32) : E 6 0 0 Y_TP_ends 0 [some (.ref 0), some (.int x), some (.int z)] [] G M (QI G fun r M' => r = ans_ends σ.cr x z ∧ SC σ G M') :=
  E_mono (sp_TP_ends h.cm0 x z) (fun _ _ _ y => by obtain ⟨a, r, b, e, z⟩ := y; exact ⟨a, r, b, e, h.cq z⟩)
theorem mT_ends (h : SM σ M) (hI : SI σ) (x z : Int32) : E 8 0 0 Y_TM_ends 0 [some (.ref 0), some (.int x), some (.int z), none] [] GM M (QI GM fun r M' => r = ans_ends σ.cr x z ∧ SM σ M') :=
  E_mono (sp_TM_ends h.1 x z) (fun _ _ _ y => by obtain ⟨a, r, b, e, z⟩ := y; exact ⟨a, r, b, e, h.sq z⟩)
theorem cT_till (h : SC σ G M) (hI : SI σ) (x : Int32) : E 6 0 0 Y_TP_till 0 [some (.ref 0), some (.int x)] [] G M (QI G fun r M' => r = ans_till σ.cr x ∧ SC σ G M') :=
  E_mono (sp_TP_till h.cm0 x) (fun _ _ _ y => by obtain ⟨a, r, b, e, z⟩ := y; exact ⟨a, r, b, e, h.cq z⟩)
theorem mT_till (h : SM σ M) (hI : SI σ) (x : Int32) : E 8 0 0 Y_TM_till 0 [some (.ref 0), some (.int x)] [] GM M (QI GM fun r M' => r = ans_till σ.cr x ∧ SM σ M') :=
  E_mono (sp_TM_till h.1 x) (fun _ _ _ y => by obtain ⟨a, r, b, e, z⟩ := y; exact ⟨a, r, b, e, h.sq z⟩)
theorem cT_leads (h : SC σ G M) (hI : SI σ) (x : Int32) : E 6 0 0 Y_TP_leads 0 [some (.ref 0), some (.int x)] [] G M (QI G fun r M' => r = ans_leads σ.cr x ∧ SC σ G M') :=
  E_mono (sp_TP_leads h.cm0 x) (fun _ _ _ y => by obtain ⟨a, r, b, e, z⟩ := y; exact ⟨a, r, b, e, h.cq z⟩)
theorem mT_leads (h : SM σ M) (hI : SI σ) (x : Int32) : E 8 0 0 Y_TM_leads 0 [some (.ref 0), some (.int x), none, none, none] [] GM M (QI GM fun r M' => r = ans_leads σ.cr x ∧ SM σ M') :=
  E_mono (sp_TM_leads h.1 x) (fun _ _ _ y => by obtain ⟨a, r, b, e, z⟩ := y; exact ⟨a, r, b, e, h.sq z⟩)
theorem cT_rings (h : SC σ G M) (hI : SI σ)  : E 6 0 0 Y_TP_rings 0 [some (.ref 0)] [] G M (QI G fun r M' => r = ans_rings σ.cr ∧ SC σ G M') :=
  E_mono (sp_TP_rings h.cm0 ) (fun _ _ _ y => by obtain ⟨a, r, b, e, z⟩ := y; exact ⟨a, r, b, e, h.cq z⟩)
theorem mT_rings (h : SM σ M) (hI : SI σ)  : E 8 0 0 Y_TM_rings 0 [some (.ref 0), none, none] [] GM M (QI GM fun r M' => r = ans_rings σ.cr ∧ SM σ M') :=
  E_mono (sp_TM_rings h.1 ) (fun _ _ _ y => by obtain ⟨a, r, b, e, z⟩ := y; exact ⟨a, r, b, e, h.sq z⟩)
theorem cT_nearest (h : SC σ G M) (hI : SI σ)  : E 6 0 0 Y_TP_nearest 0 [some (.ref 0)] [] G M (QI G fun r M' => r = ans_nearest σ.cr ∧ SC σ G M') :=
  E_mono (sp_TP_nearest h.cm0 ) (fun _ _ _ y => by obtain ⟨a, r, b, e, z⟩ := y; exact ⟨a, r, b, e, h.cq z⟩)
theorem mT_nearest (h : SM σ M) (hI : SI σ)  : E 8 0 0 Y_TM_nearest 0 [some (.ref 0), none, none] [] GM M (QI GM fun r M' => r = ans_nearest σ.cr ∧ SM σ M') :=
  E_mono (sp_TM_nearest h.1 ) (fun _ _ _ y => by obtain ⟨a, r, b, e, z⟩ := y; exact ⟨a, r, b, e, h.sq z⟩)
theorem cT_path (h : SC σ G M) (hI : SI σ) (x y z : Int32) : E 6 0 0 Y_TP_path 0 [some (.ref 0), some (.int x), some (.int y), some (.int z)] [] G M (QI G fun r M' => r = ans_path σ.cr x y z ∧ SC σ G M') :=
  E_mono (sp_TP_path h.cm0 x y z) (fun _ _ _ y => by obtain ⟨a, r, b, e, z⟩ := y; exact ⟨a, r, b, e, h.cq z⟩)
theorem mT_path (h : SM σ M) (hI : SI σ) (x y z : Int32) : E 8 0 0 Y_TM_path 0 [some (.ref 0), some (.int x), some (.int y), some (.int z), none, none, none, none, none] [] GM M (QI GM fun r M' => r = ans_path σ.cr x y z ∧ SM σ M') :=
  E_mono (sp_TM_path h.1 x y z) (fun _ _ _ y => by obtain ⟨a, r, b, e, z⟩ := y; exact ⟨a, r, b, e, h.sq z⟩)
theorem cT_win (h : SC σ G M) (hI : SI σ) (x z : Int32) : E 6 0 0 Y_TP_win 0 [some (.ref 0), some (.int x), some (.int z), none] [] G M (QI G fun r M' => r = ans_win σ.cr x z ∧ SC σ G M') :=
  E_mono (sp_TP_win h.cm0 x z) (fun _ _ _ y => by obtain ⟨a, r, b, e, z⟩ := y; exact ⟨a, r, b, e, h.cq z⟩)
theorem mT_win (h : SM σ M) (hI : SI σ) (x z : Int32) : E 6 0 0 Y_TM_win 0 [some (.ref 0), some (.int x), some (.int z), none, none, none] [] GM M (QI GM fun r M' => r = ans_win σ.cr x z ∧ SM σ M') :=
  E_mono (sp_TM_win h.1 x z) (fun _ _ _ y => by obtain ⟨a, r, b, e, z⟩ := y; exact ⟨a, r, b, e, h.sq z⟩)
theorem cT_two (h : SC σ G M) (hI : SI σ) (x y z : Int32) : E 6 0 0 Y_TP_two 0 [some (.ref 0), some (.int x), some (.int y), some (.int z)] [] G M (QI G fun r M' => r = ans_two σ.cr x y z ∧ SC σ G M') :=
  E_mono (sp_TP_two h.cm0 x y z) (fun _ _ _ y => by obtain ⟨a, r, b, e, z⟩ := y; exact ⟨a, r, b, e, h.cq z⟩)
theorem mT_two (h : SM σ M) (hI : SI σ) (x y z : Int32) : E 6 0 0 Y_TM_two 0 [some (.ref 0), some (.int x), some (.int y), some (.int z), none, none, none, none, none, none, none] [] GM M (QI GM fun r M' => r = ans_two σ.cr x y z ∧ SM σ M') :=
  E_mono (sp_TM_two h.1 x y z) (fun _ _ _ y => by obtain ⟨a, r, b, e, z⟩ := y; exact ⟨a, r, b, e, h.sq z⟩)
theorem cT_split (h : SC σ G M) (hI : SI σ) (x y : Int32) : E 6 0 0 Y_TP_split 0 [some (.ref 0), some (.int x), some (.int y)] [] G M (QI G fun r M' => r = ans_split σ.cr x y ∧ SC σ G M') :=
  E_mono (sp_TP_split h.cm0 x y) (fun _ _ _ y => by obtain ⟨a, r, b, e, z⟩ := y; exact ⟨a, r, b, e, h.cq z⟩)
theorem mT_split (h : SM σ M) (hI : SI σ) (x y : Int32) : E 6 0 0 Y_TM_split 0 [some (.ref 0), some (.int x), some (.int y), none, none, none] [] GM M (QI GM fun r M' => r = ans_split σ.cr x y ∧ SM σ M') :=
  E_mono (sp_TM_split h.1 x y) (fun _ _ _ y => by obtain ⟨a, r, b, e, z⟩ := y; exact ⟨a, r, b, e, h.sq z⟩)
theorem cT_mind (h : SC σ G M) (hI : SI σ) (x y : Int32) : E 6 0 0 Y_TP_mind 0 [some (.ref 0), some (.int x), some (.int y)] [] G M (QI G fun r M' => r = ans_mind σ.cr x y ∧ SC σ G M') :=
  E_mono (sp_TP_mind h.cm0 x y) (fun _ _ _ y => by obtain ⟨a, r, b, e, z⟩ := y; exact ⟨a, r, b, e, h.cq z⟩)
theorem mT_mind (h : SM σ M) (hI : SI σ) (x y : Int32) : E 6 0 0 Y_TM_mind 0 [some (.ref 0), some (.int x), some (.int y)] [] GM M (QI GM fun r M' => r = ans_mind σ.cr x y ∧ SM σ M') :=
  E_mono (sp_TM_mind h.1 x y) (fun _ _ _ y => by obtain ⟨a, r, b, e, z⟩ := y; exact ⟨a, r, b, e, h.sq z⟩)
theorem cT_unasked (h : SC σ G M) (hI : SI σ) (z : Int32) : E 6 0 0 Y_TP_unasked 0 [some (.ref 0), some (.int z)] [] G M (QI G fun r M' => r = ans_unasked σ.cr z ∧ SC σ G M') :=
  E_mono (sp_TP_unasked h.cm0 z) (fun _ _ _ y => by obtain ⟨a, r, b, e, z⟩ := y; exact ⟨a, r, b, e, h.cq z⟩)
theorem mT_unasked (h : SM σ M) (hI : SI σ) (z : Int32) : E 7 0 0 Y_TM_unasked 0 [some (.ref 0), some (.int z)] [] GM M (QI GM fun r M' => r = ans_unasked σ.cr z ∧ SM σ M') :=
  E_mono (sp_TM_unasked h.1 z) (fun _ _ _ y => by obtain ⟨a, r, b, e, z⟩ := y; exact ⟨a, r, b, e, h.sq z⟩)
theorem cT_alike (h : SC σ G M) (hI : SI σ) (x y : Int32) : E 6 0 0 Y_TP_alike 0 [some (.ref 0), some (.int x), some (.int y)] [] G M (QI G fun r M' => r = ans_alike σ.cr x y ∧ SC σ G M') :=
  E_mono (sp_TP_alike h.cm0 x y) (fun _ _ _ y => by obtain ⟨a, r, b, e, z⟩ := y; exact ⟨a, r, b, e, h.cq z⟩)
theorem mT_alike (h : SM σ M) (hI : SI σ) (x y : Int32) : E 6 0 0 Y_TM_alike 0 [some (.ref 0), some (.int x), some (.int y)] [] GM M (QI GM fun r M' => r = ans_alike σ.cr x y ∧ SM σ M') :=
  E_mono (sp_TM_alike h.1 x y) (fun _ _ _ y => by obtain ⟨a, r, b, e, z⟩ := y; exact ⟨a, r, b, e, h.sq z⟩)
theorem cT_pair (h : SC σ G M) (hI : SI σ) (z : Int32) : E 6 0 0 Y_TP_pair 0 [some (.ref 0), some (.int z)] [] G M (QI G fun r M' => r = ans_pair σ.cr z ∧ SC σ G M') :=
  E_mono (sp_TP_pair h.cm0 z) (fun _ _ _ y => by obtain ⟨a, r, b, e, z⟩ := y; exact ⟨a, r, b, e, h.cq z⟩)
theorem mT_pair (h : SM σ M) (hI : SI σ) (z : Int32) : E 6 0 0 Y_TM_pair 0 [some (.ref 0), some (.int z), none, none, none, none] [] GM M (QI GM fun r M' => r = ans_pair σ.cr z ∧ SM σ M') :=
  E_mono (sp_TM_pair h.1 z) (fun _ _ _ y => by obtain ⟨a, r, b, e, z⟩ := y; exact ⟨a, r, b, e, h.sq z⟩)
theorem cT_move (h : SC σ G M) (hI : SI σ) (x y : Int32) : E 5 0 0 Y_TP_move 0 [some (.ref 0), some (.int x), some (.int y)] [] G M (QI G fun r M' => r = ans_move σ.cr x y ∧ SC σ G M') :=
  E_mono (sp_TP_move h.cm0 x y) (fun _ _ _ y => by obtain ⟨a, r, b, e, z⟩ := y; exact ⟨a, r, b, e, h.cq z⟩)
theorem mT_move (h : SM σ M) (hI : SI σ) (x y : Int32) : E 7 0 0 Y_TM_move 0 [some (.ref 0), some (.int x), some (.int y)] [] GM M (QI GM fun r M' => r = ans_move σ.cr x y ∧ SM σ M') :=
  E_mono (sp_TM_move h.1 x y) (fun _ _ _ y => by obtain ⟨a, r, b, e, z⟩ := y; exact ⟨a, r, b, e, h.sq z⟩)
theorem cT_cheapest (h : SC σ G M) (hI : SI σ) (x : Int32) : E 7 0 0 Y_TP_cheapest 0 [some (.ref 0), some (.int x)] [] G M (QI G fun r M' => r = ans_cheapest σ.cr x ∧ SC σ G M') :=
  E_mono (sp_TP_cheapest h.cm0 x) (fun _ _ _ y => by obtain ⟨a, r, b, e, z⟩ := y; exact ⟨a, r, b, e, h.cq z⟩)
theorem mT_cheapest (h : SM σ M) (hI : SI σ) (x : Int32) : E 8 0 0 Y_TM_cheapest 0 [some (.ref 0), some (.int x), none, none, none, none] [] GM M (QI GM fun r M' => r = ans_cheapest σ.cr x ∧ SM σ M') :=
  E_mono (sp_TM_cheapest h.1 x) (fun _ _ _ y => by obtain ⟨a, r, b, e, z⟩ := y; exact ⟨a, r, b, e, h.sq z⟩)
theorem cT_sure (h : SC σ G M) (hI : SI σ) (x y z : Int32) : E 7 0 0 Y_TP_sure 0 [some (.ref 0), some (.int x), some (.int y), some (.int z)] [] G M (QL G fun r M' => r = ans_sure σ.cr x y z ∧ SC σ G M') :=
  E_mono (sp_TP_sure h.cm0 x y z) (fun _ _ _ y => by obtain ⟨a, r, b, e, z⟩ := y; exact ⟨a, r, b, e, h.cq z⟩)
theorem mT_sure (h : SM σ M) (hI : SI σ) (x y z : Int32) : E 6 0 0 Y_TM_sure 0 [some (.ref 0), some (.int x), some (.int y), some (.int z), none, none, none, none, none, none] [] GM M (QL GM fun r M' => r = ans_sure σ.cr x y z ∧ SM σ M') :=
  E_mono (sp_TM_sure h.1 x y z) (fun _ _ _ y => by obtain ⟨a, r, b, e, z⟩ := y; exact ⟨a, r, b, e, h.sq z⟩)
theorem cT_mean (h : SC σ G M) (hI : SI σ) (y z : Int32) : E 6 0 0 Y_TP_mean 0 [some (.ref 0), some (.int y), some (.int z), none, none] [] G M (QL G fun r M' => r = ans_mean σ.cr y z ∧ SC σ G M') :=
  E_mono (sp_TP_mean h.cm0 y z) (fun _ _ _ y => by obtain ⟨a, r, b, e, z⟩ := y; exact ⟨a, r, b, e, h.cq z⟩)
theorem mT_mean (h : SM σ M) (hI : SI σ) (y z : Int32) : E 6 0 0 Y_TM_mean 0 [some (.ref 0), some (.int y), some (.int z), none, none, none, none] [] GM M (QL GM fun r M' => r = ans_mean σ.cr y z ∧ SM σ M') :=
  E_mono (sp_TM_mean h.1 y z) (fun _ _ _ y => by obtain ⟨a, r, b, e, z⟩ := y; exact ⟨a, r, b, e, h.sq z⟩)
theorem cT_reach (h : SC σ G M) (hI : SI σ) (x : Int32) : E 2 0 0 Y_TP_reach 0 [some (.ref 0), some (.int x)] [] G M (QI G fun r M' => r = ans_reach σ.cr x ∧ SC σ G M') :=
  E_mono (sp_TP_reach h.cm0 x) (fun _ _ _ y => by obtain ⟨a, r, b, e, z⟩ := y; exact ⟨a, r, b, e, h.cq z⟩)
theorem mT_reach (h : SM σ M) (hI : SI σ) (x : Int32) : E 2 0 0 Y_TM_reach 0 [some (.ref 0), some (.int x)] [] GM M (QI GM fun r M' => r = ans_reach σ.cr x ∧ SM σ M') :=
  E_mono (sp_TM_reach h.1 x) (fun _ _ _ y => by obtain ⟨a, r, b, e, z⟩ := y; exact ⟨a, r, b, e, h.sq z⟩)
theorem cT_circles (h : SC σ G M) (hI : SI σ)  : E 4 0 0 Y_TP_circles 0 [some (.ref 0)] [] G M (QI G fun r M' => r = ans_circles σ.cr ∧ SC σ G M') :=
  E_mono (sp_TP_circles h.cm0 ) (fun _ _ _ y => by obtain ⟨a, r, b, e, z⟩ := y; exact ⟨a, r, b, e, h.cq z⟩)
theorem mT_circles (h : SM σ M) (hI : SI σ)  : E 2 0 0 Y_TM_circles 0 [some (.ref 0), none, none, none, none] [] GM M (QI GM fun r M' => r = ans_circles σ.cr ∧ SM σ M') :=
  E_mono (sp_TM_circles h.1 ) (fun _ _ _ y => by obtain ⟨a, r, b, e, z⟩ := y; exact ⟨a, r, b, e, by rw [z]; exact h⟩)
theorem cT_loud (h : SC σ G M) (hI : SI σ)  : E 3 0 0 Y_TP_loud 0 [some (.ref 0)] [] G M (QI G fun r M' => r = ans_loud σ.cr ∧ SC σ G M') :=
  E_mono (sp_TP_loud h.cm0 ) (fun _ _ _ y => by obtain ⟨a, r, b, e, z⟩ := y; exact ⟨a, r, b, e, h.cq z⟩)
theorem mT_loud (h : SM σ M) (hI : SI σ)  : E 1 0 0 Y_TM_loud 0 [some (.ref 0), none, none] [] GM M (QI GM fun r M' => r = ans_loud σ.cr ∧ SM σ M') :=
  E_mono (sp_TM_loud h.1 ) (fun _ _ _ y => by obtain ⟨a, r, b, e, z⟩ := y; exact ⟨a, r, b, e, by rw [z]; exact h⟩)
theorem cT_part (h : SC σ G M) (hI : SI σ)  : E 6 0 0 Y_TP_part 0 [some (.ref 0), none, none, none, none] [] G M (QI G fun r M' => r = ans_part σ.cr ∧ SC σ G M') :=
  E_mono (sp_TP_part h.cm0 ) (fun _ _ _ y => by obtain ⟨a, r, b, e, z⟩ := y; exact ⟨a, r, b, e, h.cq z⟩)
theorem mT_part (h : SM σ M) (hI : SI σ)  : E 6 0 0 Y_TM_part 0 [some (.ref 0), none, none] [] GM M (QI GM fun r M' => r = ans_part σ.cr ∧ SM σ M') :=
  E_mono (sp_TM_part h.1 ) (fun _ _ _ y => by obtain ⟨a, r, b, e, z⟩ := y; exact ⟨a, r, b, e, h.sy z⟩)
theorem cT_game (h : SC σ G M) (hI : SI σ) (x : Int32) : E 6 0 0 Y_TP_game 0 [some (.ref 0), some (.int x)] [] G M (QI G fun r M' => r = ans_game σ.cr x ∧ SC σ G M') :=
  E_mono (sp_TP_game h.cm0 x) (fun _ _ _ y => by obtain ⟨a, r, b, e, z⟩ := y; exact ⟨a, r, b, e, h.cq z⟩)
theorem mT_game (h : SM σ M) (hI : SI σ) (x : Int32) : E 9 0 0 Y_TM_game 0 [some (.ref 0), some (.int x)] [] GM M (QI GM fun r M' => r = ans_game σ.cr x ∧ SM σ M') :=
  E_mono (sp_TM_game h.1 x) (fun _ _ _ y => by obtain ⟨a, r, b, e, z⟩ := y; exact ⟨a, r, b, e, h.sq z⟩)
theorem cT_choice (h : SC σ G M) (hI : SI σ) (x : Int32) : E 6 0 0 Y_TP_choice 0 [some (.ref 0), some (.int x)] [] G M (QI G fun r M' => r = ans_choice σ.cr x ∧ SC σ G M') :=
  E_mono (sp_TP_choice h.cm0 x) (fun _ _ _ y => by obtain ⟨a, r, b, e, z⟩ := y; exact ⟨a, r, b, e, h.cq z⟩)
theorem mT_choice (h : SM σ M) (hI : SI σ) (x : Int32) : E 9 0 0 Y_TM_choice 0 [some (.ref 0), some (.int x), none] [] GM M (QI GM fun r M' => r = ans_choice σ.cr x ∧ SM σ M') :=
  E_mono (sp_TM_choice h.1 x) (fun _ _ _ y => by obtain ⟨a, r, b, e, z⟩ := y; exact ⟨a, r, b, e, h.sq z⟩)
theorem cT_lives (h : SC σ G M) (hI : SI σ) (x : Int32) : E 2 0 0 Y_TP_lives 0 [some (.ref 0), some (.int x)] [] G M (QI G fun r M' => r = ans_lives σ.cr x ∧ SC σ G M') :=
  E_mono (sp_TP_lives h.cm0 x) (fun _ _ _ y => by obtain ⟨a, r, b, e, z⟩ := y; exact ⟨a, r, b, e, h.cq z⟩)
theorem mT_lives (h : SM σ M) (hI : SI σ) (x : Int32) : E 2 0 0 Y_TM_lives 0 [some (.ref 0), some (.int x)] [] GM M (QI GM fun r M' => r = ans_lives σ.cr x ∧ SM σ M') :=
  E_mono (sp_TM_lives h.1 x) (fun _ _ _ y => by obtain ⟨a, r, b, e, z⟩ := y; exact ⟨a, r, b, e, by rw [z]; exact h⟩)
theorem cT_most (h : SC σ G M) (hI : SI σ)  : E 2 0 0 Y_TP_most 0 [some (.ref 0), none, none] [] G M (QI G fun r M' => r = ans_most σ.cr ∧ SC σ G M') :=
  E_mono (sp_TP_most h.cm0 ) (fun _ _ _ y => by obtain ⟨a, r, b, e, z⟩ := y; exact ⟨a, r, b, e, h.cq z⟩)
theorem mT_most (h : SM σ M) (hI : SI σ)  : E 2 0 0 Y_TM_most 0 [some (.ref 0), none, none] [] GM M (QI GM fun r M' => r = ans_most σ.cr ∧ SM σ M') :=
  E_mono (sp_TM_most h.1 ) (fun _ _ _ y => by obtain ⟨a, r, b, e, z⟩ := y; exact ⟨a, r, b, e, by rw [z]; exact h⟩)
theorem cT_fewest (h : SC σ G M) (hI : SI σ) (z : Int32) : E 2 0 0 Y_TP_fewest 0 [some (.ref 0), some (.int z), none, none] [] G M (QI G fun r M' => r = ans_fewest σ.cr z ∧ SC σ G M') :=
  E_mono (sp_TP_fewest h.cm0 z) (fun _ _ _ y => by obtain ⟨a, r, b, e, z⟩ := y; exact ⟨a, r, b, e, h.cq z⟩)
theorem mT_fewest (h : SM σ M) (hI : SI σ) (z : Int32) : E 1 0 0 Y_TM_fewest 0 [some (.ref 0), some (.int z), none, none] [] GM M (QI GM fun r M' => r = ans_fewest σ.cr z ∧ SM σ M') :=
  E_mono (sp_TM_fewest h.1 z) (fun _ _ _ y => by obtain ⟨a, r, b, e, z⟩ := y; exact ⟨a, r, b, e, by rw [z]; exact h⟩)
theorem cT_window (h : SC σ G M) (hI : SI σ) (x y : Int32) : E 2 0 0 Y_TP_window 0 [some (.ref 0), some (.int x), some (.int y)] [] G M (QI G fun r M' => r = ans_window σ.cr x y ∧ SC σ G M') :=
  E_mono (sp_TP_window h.cm0 x y) (fun _ _ _ y => by obtain ⟨a, r, b, e, z⟩ := y; exact ⟨a, r, b, e, h.cq z⟩)
theorem mT_window (h : SM σ M) (hI : SI σ) (x y : Int32) : E 1 0 0 Y_TM_window 0 [some (.ref 0), some (.int x), some (.int y)] [] GM M (QI GM fun r M' => r = ans_window σ.cr x y ∧ SM σ M') :=
  E_mono (sp_TM_window h.1 x y) (fun _ _ _ y => by obtain ⟨a, r, b, e, z⟩ := y; exact ⟨a, r, b, e, by rw [z]; exact h⟩)
theorem cT_busiest (h : SC σ G M) (hI : SI σ) (x : Int32) : E 2 0 0 Y_TP_busiest 0 [some (.ref 0), some (.int x), none, none] [] G M (QI G fun r M' => r = ans_busiest σ.cr x ∧ SC σ G M') :=
  E_mono (sp_TP_busiest h.cm0 x) (fun _ _ _ y => by obtain ⟨a, r, b, e, z⟩ := y; exact ⟨a, r, b, e, h.cq z⟩)
theorem mT_busiest (h : SM σ M) (hI : SI σ) (x : Int32) : E 1 0 0 Y_TM_busiest 0 [some (.ref 0), some (.int x), none, none] [] GM M (QI GM fun r M' => r = ans_busiest σ.cr x ∧ SM σ M') :=
  E_mono (sp_TM_busiest h.1 x) (fun _ _ _ y => by obtain ⟨a, r, b, e, z⟩ := y; exact ⟨a, r, b, e, by rw [z]; exact h⟩)
theorem cT_whose (h : SC σ G M) (hI : SI σ)  : E 6 0 0 Y_TP_whose 0 [some (.ref 0), none, none] [] G M (QI G fun r M' => r = ans_whose σ.cr ∧ SC σ G M') :=
  E_mono (sp_TP_whose h.cm0 ) (fun _ _ _ y => by obtain ⟨a, r, b, e, z⟩ := y; exact ⟨a, r, b, e, h.cq z⟩)
theorem mT_whose (h : SM σ M) (hI : SI σ)  : E 5 0 0 Y_TM_whose 0 [some (.ref 0), none, none, none, none] [] GM M (QI GM fun r M' => r = ans_whose σ.cr ∧ SM σ M') :=
  E_mono (sp_TM_whose h.1 ) (fun _ _ _ y => by obtain ⟨a, r, b, e, z⟩ := y; exact ⟨a, r, b, e, h.sy z⟩)
theorem cT_honest (h : SC σ G M) (hI : SI σ)  : E 6 0 0 Y_TP_honest 0 [some (.ref 0), none, none] [] G M (QI G fun r M' => r = ans_honest σ.cr ∧ SC σ G M') :=
  E_mono (sp_TP_honest h.cm0 ) (fun _ _ _ y => by obtain ⟨a, r, b, e, z⟩ := y; exact ⟨a, r, b, e, h.cq z⟩)
theorem mT_honest (h : SM σ M) (hI : SI σ)  : E 7 0 0 Y_TM_honest 0 [some (.ref 0)] [] GM M (QI GM fun r M' => r = ans_honest σ.cr ∧ SM σ M') :=
  E_mono (sp_TM_honest h.1 ) (fun _ _ _ y => by obtain ⟨a, r, b, e, z⟩ := y; exact ⟨a, r, b, e, h.sq z⟩)
theorem cT_changes (h : SC σ G M) (hI : SI σ)  : E 2 0 0 Y_TP_changes 0 [some (.ref 0), none, none, none] [] G M (QI G fun r M' => r = ans_changes σ.cr ∧ SC σ G M') :=
  E_mono (sp_TP_changes h.cm0 ) (fun _ _ _ y => by obtain ⟨a, r, b, e, z⟩ := y; exact ⟨a, r, b, e, h.cq z⟩)
theorem mT_changes (h : SM σ M) (hI : SI σ)  : E 1 0 0 Y_TM_changes 0 [some (.ref 0), none, none] [] GM M (QI GM fun r M' => r = ans_changes σ.cr ∧ SM σ M') :=
  E_mono (sp_TM_changes h.1 ) (fun _ _ _ y => by obtain ⟨a, r, b, e, z⟩ := y; exact ⟨a, r, b, e, by rw [z]; exact h⟩)
theorem cT_ledger (h : SC σ G M) (hI : SI σ) (x : Int32) : E 2 0 0 Y_TP_ledger 0 [some (.ref 0), some (.int x), none, none, none] [] G M (QI G fun r M' => r = ans_ledger σ.cr x ∧ SC σ G M') :=
  E_mono (sp_TP_ledger h.cm0 x) (fun _ _ _ y => by obtain ⟨a, r, b, e, z⟩ := y; exact ⟨a, r, b, e, h.cq z⟩)
theorem mT_ledger (h : SM σ M) (hI : SI σ) (x : Int32) : E 1 0 0 Y_TM_ledger 0 [some (.ref 0), some (.int x), none, none] [] GM M (QI GM fun r M' => r = ans_ledger σ.cr x ∧ SM σ M') :=
  E_mono (sp_TM_ledger h.1 x) (fun _ _ _ y => by obtain ⟨a, r, b, e, z⟩ := y; exact ⟨a, r, b, e, by rw [z]; exact h⟩)
theorem cT_person (h : SC σ G M) (hI : SI σ) (x y : Int32) : E 2 0 0 Y_TP_person 0 [some (.ref 0), some (.int x), some (.int y)] [] G M (QI G fun r M' => r = ans_person σ.cr x y ∧ SC (σ.setCr (st_person σ.cr x y)) G M') :=
  E_mono (sp_TP_person h.cm0 x y) (fun _ _ _ y => by obtain ⟨a, r, b, e, z⟩ := y; exact ⟨a, r, b, e, h.cw z.1 z.2⟩)
theorem mT_person (h : SM σ M) (hI : SI σ) (x y : Int32) : E 1 0 0 Y_TM_person 0 [some (.ref 0), some (.int x), some (.int y), none] [] GM M (QI GM fun r M' => r = ans_person σ.cr x y ∧ SM (σ.setCr (st_person σ.cr x y)) M') :=
  E_mono (sp_TM_person h.1 x y) (fun _ _ _ y => by obtain ⟨a, r, b, e, z⟩ := y; exact ⟨a, r, b, e, h.s1 z.1 z.2⟩)
theorem iT_person (h : SI σ) (x y : Int32) : SI (σ.setCr (st_person σ.cr x y)) := h.cr (by unfold st_person; exact if_texts rfl rfl)
theorem cT_hear (h : SC σ G M) (hI : SI σ) (x y : Int32) : E 2 0 0 Y_TP_hear 0 [some (.ref 0), some (.int x), some (.int y)] [] G M (QI G fun r M' => r = ans_hear σ.cr x y ∧ SC (σ.setCr (st_hear σ.cr x y)) G M') :=
  E_mono (sp_TP_hear h.cm0 x y) (fun _ _ _ y => by obtain ⟨a, r, b, e, z⟩ := y; exact ⟨a, r, b, e, h.cw z.1 z.2⟩)
theorem mT_hear (h : SM σ M) (hI : SI σ) (x y : Int32) : E 2 0 0 Y_TM_hear 0 [some (.ref 0), some (.int x), some (.int y)] [] GM M (QI GM fun r M' => r = ans_hear σ.cr x y ∧ SM (σ.setCr (st_hear σ.cr x y)) M') :=
  E_mono (sp_TM_hear h.1 x y) (fun _ _ _ y => by obtain ⟨a, r, b, e, z⟩ := y; exact ⟨a, r, b, e, h.s1 z.1 z.2⟩)
theorem iT_hear (h : SI σ) (x y : Int32) : SI (σ.setCr (st_hear σ.cr x y)) := h.cr (by unfold st_hear; exact if_texts rfl rfl)
theorem cT_by (h : SC σ G M) (hI : SI σ) (x : Int32) : E 1 0 0 Y_TP_by 0 [some (.ref 0), some (.int x)] [] G M (QI G fun r M' => r = ans_by σ.cr x ∧ SC (σ.setCr (st_by σ.cr x)) G M') :=
  E_mono (sp_TP_by h.cm0 x) (fun _ _ _ y => by obtain ⟨a, r, b, e, z⟩ := y; exact ⟨a, r, b, e, h.cw z.1 z.2⟩)
theorem mT_by (h : SM σ M) (hI : SI σ) (x : Int32) : E 1 0 0 Y_TM_by 0 [some (.ref 0), some (.int x)] [] GM M (QI GM fun r M' => r = ans_by σ.cr x ∧ SM (σ.setCr (st_by σ.cr x)) M') :=
  E_mono (sp_TM_by h.1 x) (fun _ _ _ y => by obtain ⟨a, r, b, e, z⟩ := y; exact ⟨a, r, b, e, h.s1 z.1 z.2⟩)
theorem iT_by (h : SI σ) (x : Int32) : SI (σ.setCr (st_by σ.cr x)) := h.cr (by unfold st_by; exact if_texts rfl (if_texts rfl rfl))
theorem cT_nudge (h : SC σ G M) (hI : SI σ) (x y : Int32) : E 5 0 0 Y_TP_nudge 0 [some (.ref 0), some (.int x), some (.int y)] [] G M (QI G fun r M' => r = pI (nudP σ.cr x y) ∧ SC (σ.setCr (st_nudge σ.cr x y)) G M') :=
  E_mono (sp_TP_nudge h.cm0 x y) (fun _ _ _ y => by obtain ⟨a, r, b, e, z⟩ := y; exact ⟨a, r, b, e, h.cw z.1 z.2⟩)
theorem mT_nudge (h : SM σ M) (hI : SI σ) (x y : Int32) : E 3 0 0 Y_TM_nudge 0 [some (.ref 0), some (.int x), some (.int y)] [] GM M (QI GM fun r M' => r = pI (nudP σ.cr x y) ∧ SM (σ.setCr (st_nudge σ.cr x y)) M') :=
  E_mono (sp_TM_nudge h.1 x y) (fun _ _ _ y => by obtain ⟨a, r, b, e, z⟩ := y; exact ⟨a, r, b, e, h.s1 z.1 z.2⟩)
theorem iT_nudge (h : SI σ) (x y : Int32) : SI (σ.setCr (st_nudge σ.cr x y)) := h.cr (by unfold st_nudge; exact if_texts rfl rfl)
theorem cT_undo (h : SC σ G M) (hI : SI σ)  : E 3 0 0 Y_TP_undo 0 [some (.ref 0)] [] G M (QI G fun r M' => r = ans_undo σ.cr ∧ SC (σ.setCr (st_undo σ.cr)) G M') :=
  E_mono (sp_TP_undo h.cm0 ) (fun _ _ _ y => by obtain ⟨a, r, b, e, z⟩ := y; exact ⟨a, r, b, e, h.cw z.1 z.2⟩)
theorem mT_undo (h : SM σ M) (hI : SI σ)  : E 0 0 0 Y_TM_undo 0 [some (.ref 0), none, none] [] GM M (QI GM fun r M' => r = ans_undo σ.cr ∧ SM (σ.setCr (st_undo σ.cr)) M') :=
  E_mono (sp_TM_undo h.1 ) (fun _ _ _ y => by obtain ⟨a, r, b, e, z⟩ := y; exact ⟨a, r, b, e, h.s1 z.1 z.2⟩)
theorem iT_undo (h : SI σ)  : SI (σ.setCr (st_undo σ.cr)) := h.cr (by unfold st_undo; exact if_texts rfl rfl)
theorem cT_party (h : SC σ G M) (hI : SI σ) (x y : Int32) : E 2 0 0 Y_TP_party 0 [some (.ref 0), some (.int x), some (.int y)] [] G M (QI G fun r M' => r = ans_party σ.cr x y ∧ SC (σ.setCr (st_party σ.cr x y)) G M') :=
  E_mono (sp_TP_party h.cm0 x y) (fun _ _ _ y => by obtain ⟨a, r, b, e, z⟩ := y; exact ⟨a, r, b, e, h.cw z.1 z.2⟩)
theorem mT_party (h : SM σ M) (hI : SI σ) (x y : Int32) : E 1 0 0 Y_TM_party 0 [some (.ref 0), some (.int x), some (.int y)] [] GM M (QI GM fun r M' => r = ans_party σ.cr x y ∧ SM (σ.setCr (st_party σ.cr x y)) M') :=
  E_mono (sp_TM_party h.1 x y) (fun _ _ _ y => by obtain ⟨a, r, b, e, z⟩ := y; exact ⟨a, r, b, e, h.s1 z.1 z.2⟩)
theorem iT_party (h : SI σ) (x y : Int32) : SI (σ.setCr (st_party σ.cr x y)) := h.cr (by unfold st_party; exact if_texts rfl (if_texts rfl rfl))
theorem cT_said (h : SC σ G M) (hI : SI σ) (x y : Int32) : E 2 0 0 Y_TP_said 0 [some (.ref 0), some (.int x), some (.int y)] [] G M (QI G fun r M' => r = ans_said σ.cr x y ∧ SC (σ.setCr (st_said σ.cr x y)) G M') :=
  E_mono (sp_TP_said h.cm0 x y) (fun _ _ _ y => by obtain ⟨a, r, b, e, z⟩ := y; exact ⟨a, r, b, e, h.cw z.1 z.2⟩)
theorem mT_said (h : SM σ M) (hI : SI σ) (x y : Int32) : E 1 0 0 Y_TM_said 0 [some (.ref 0), some (.int x), some (.int y)] [] GM M (QI GM fun r M' => r = ans_said σ.cr x y ∧ SM (σ.setCr (st_said σ.cr x y)) M') :=
  E_mono (sp_TM_said h.1 x y) (fun _ _ _ y => by obtain ⟨a, r, b, e, z⟩ := y; exact ⟨a, r, b, e, h.s1 z.1 z.2⟩)
theorem iT_said (h : SI σ) (x y : Int32) : SI (σ.setCr (st_said σ.cr x y)) := h.cr (by unfold st_said; exact if_texts rfl (if_texts rfl rfl))
theorem cT_village (h : SC σ G M) (hI : SI σ) (x y : Int32) : E 1 0 0 Y_TP_village 0 [some (.ref 0), some (.int x), some (.int y)] [] G M (QI G fun r M' => r = pI (inN x 10 ∧ inN y 100) ∧ SC (σ.setCr (st_village σ.cr x y)) G M') :=
  E_mono (sp_TP_village h.cm0 x y) (fun _ _ _ y => by obtain ⟨a, r, b, e, z⟩ := y; exact ⟨a, r, b, e, h.cw z.1 z.2⟩)
theorem mT_village (h : SM σ M) (hI : SI σ) (x y : Int32) : E 1 0 0 Y_TM_village 0 [some (.ref 0), some (.int x), some (.int y)] [] GM M (QI GM fun r M' => r = pI (inN x 10 ∧ inN y 100) ∧ SM (σ.setCr (st_village σ.cr x y)) M') :=
  E_mono (sp_TM_village h.1 x y) (fun _ _ _ y => by obtain ⟨a, r, b, e, z⟩ := y; exact ⟨a, r, b, e, h.s1 z.1 z.2⟩)
theorem iT_village (h : SI σ) (x y : Int32) : SI (σ.setCr (st_village σ.cr x y)) := h.cr (by unfold st_village; exact if_texts rfl rfl)
theorem cT_tell (h : SC σ G M) (hI : SI σ) (x : Int32) : E 6 0 0 Y_TP_tell 0 [some (.ref 0), some (.int x)] [] G M (QI G fun r M' => r = ans_tell σ.cr x ∧ SC (σ.setCr (st_tell σ.cr x)) G M') :=
  E_mono (sp_TP_tell h.cm0 x) (fun _ _ _ y => by obtain ⟨a, r, b, e, z⟩ := y; exact ⟨a, r, b, e, h.cw z.1 z.2⟩)
theorem mT_tell (h : SM σ M) (hI : SI σ) (x : Int32) : E 6 0 0 Y_TM_tell 0 [some (.ref 0), some (.int x)] [] GM M (QI GM fun r M' => r = ans_tell σ.cr x ∧ SM (σ.setCr (st_tell σ.cr x)) M') :=
  E_mono (sp_TM_tell h.1 h.2.2.2.2.2.2 x) (fun _ _ _ y => by obtain ⟨a, r, b, e, z⟩ := y; exact ⟨a, r, b, e, h.s1 z.1 z.2⟩)
theorem iT_tell (h : SI σ) (x : Int32) : SI (σ.setCr (st_tell σ.cr x)) := h.cr (by unfold st_tell; exact if_texts rfl rfl)
theorem cT_day (h : SC σ G M) (hI : SI σ) (x : Int32) : E 6 0 0 Y_TP_day 0 [some (.ref 0), some (.int x)] [] G M (QI G fun r M' => r = ans_day σ.cr x ∧ SC (σ.setCr (st_day σ.cr x)) G M') :=
  E_mono (sp_TP_day h.cm0 x) (fun _ _ _ y => by obtain ⟨a, r, b, e, z⟩ := y; exact ⟨a, r, b, e, h.cw z.1 z.2⟩)
theorem mT_day (h : SM σ M) (hI : SI σ) (x : Int32) : E 8 0 0 Y_TM_day 0 [some (.ref 0), some (.int x)] [] GM M (QI GM fun r M' => r = ans_day σ.cr x ∧ SM (σ.setCr (st_day σ.cr x)) M') :=
  E_mono (sp_TM_day h.1 h.2.2.2.2.2.2 x) (fun _ _ _ y => by obtain ⟨a, r, b, e, z⟩ := y; exact ⟨a, r, b, e, h.s1 z.1 z.2⟩)
theorem iT_day (h : SI σ) (x : Int32) : SI (σ.setCr (st_day σ.cr x)) := h.cr (by unfold st_day; exact if_texts (passN_texts _ _) rfl)
theorem cT_years (h : SC σ G M) (hI : SI σ) (x y : Int32) : E 7 0 0 Y_TP_years 0 [some (.ref 0), some (.int x), some (.int y)] [] G M (QI G fun r M' => r = ans_years σ.cr x y ∧ SC (σ.setCr (st_years σ.cr x y)) G M') :=
  E_mono (sp_TP_years h.cm0 x y) (fun _ _ _ y => by obtain ⟨a, r, b, e, z⟩ := y; exact ⟨a, r, b, e, h.cw z.1 z.2⟩)
theorem mT_years (h : SM σ M) (hI : SI σ) (x y : Int32) : E 7 0 0 Y_TM_years 0 [some (.ref 0), some (.int x), some (.int y), none, none] [] GM M (QI GM fun r M' => r = ans_years σ.cr x y ∧ SM (σ.setCr (st_years σ.cr x y)) M') :=
  E_mono (sp_TM_years h.1 h.2.2.2.2.2.2 x y) (fun _ _ _ y => by obtain ⟨a, r, b, e, z⟩ := y; exact ⟨a, r, b, e, h.s1 z.1 z.2⟩)
theorem iT_years (h : SI σ) (x y : Int32) : SI (σ.setCr (st_years σ.cr x y)) := h.cr (by unfold st_years; exact if_texts ((yearA_texts _ _).trans (setNow_texts _ _)) rfl)
theorem cT_played (h : SC σ G M) (hI : SI σ) (x : Int32) : E 7 0 0 Y_TP_played 0 [some (.ref 0), some (.int x), none, none] [] G M (QI G fun r M' => r = ans_played σ.cr x ∧ SC (σ.setCr (st_played σ.cr x)) G M') :=
  E_mono (sp_TP_played h.cm0 hI.2.2 x) (fun _ _ _ y => by obtain ⟨a, r, b, e, z⟩ := y; exact ⟨a, r, b, e, h.cw z.1 z.2⟩)
theorem mT_played (h : SM σ M) (hI : SI σ) (x : Int32) : E 9 0 0 Y_TM_played 0 [some (.ref 0), some (.int x), none] [] GM M (QI GM fun r M' => r = ans_played σ.cr x ∧ SM (σ.setCr (st_played σ.cr x)) M') :=
  E_mono (sp_TM_played h.1 h.2.2.2.2.2.2 hI.2.2 x) (fun _ _ _ y => by obtain ⟨a, r, b, e, z⟩ := y; exact ⟨a, r, b, e, h.s1 z.1 z.2⟩)
theorem iT_played (h : SI σ) (x : Int32) : SI (σ.setCr (st_played σ.cr x)) := h.cr (by unfold st_played; exact if_texts (playA_texts _ _ _ _) rfl)
theorem cT_foretold (h : SC σ G M) (hI : SI σ) (x y : Int32) : E 6 0 0 Y_TP_foretold 0 [some (.ref 0), some (.int x), some (.int y)] [] G M (QI G fun r M' => r = ans_foretold σ.cr x y ∧ SC (σ.setCr σ.cr) G M') :=
  E_mono (sp_TP_foretold h.cm0 x y) (fun _ _ _ y => by obtain ⟨a, r, b, e, z⟩ := y; exact ⟨a, r, b, e, h.cw z.1 z.2⟩)
theorem mT_foretold (h : SM σ M) (hI : SI σ) (x y : Int32) : E 6 0 0 Y_TM_foretold 0 [some (.ref 0), some (.int x), some (.int y), none, none] [] GM M (QI GM fun r M' => r = ans_foretold σ.cr x y ∧ SM (σ.setCr σ.cr) M') :=
  E_mono (sp_TM_foretold h.1 h.2.2.2.2.2.2 x y) (fun _ _ _ y => by obtain ⟨a, r, b, e, z⟩ := y; exact ⟨a, r, b, e, h.s1 z.1 z.2⟩)
theorem iT_foretold (h : SI σ) (x y : Int32) : SI (σ.setCr σ.cr) := h.cr rfl
theorem cT_feed (h : SC σ G M) (hI : SI σ) (a b c d e : Int32) : E 2 0 0 Y_TP_feed 0 [some (.ref 0), some (.int a), some (.int b), some (.int c), some (.int d), some (.int e)] [] G M (QI G fun r M' => r = ans_feed σ.tape ∧ SC (σ.setTape (st_feed σ.tape a b c d e)) G M') :=
  E_mono (sp_TP_feed h.1 h.2.1 h.2.2.2.2.2.2.1 a b c d e) (fun _ _ _ y => by obtain ⟨a, r, b, e, z1, z2, z3⟩ := y; exact ⟨a, r, b, e, h.tp z1 z2 z3⟩)
theorem mT_feed (h : SM σ M) (hI : SI σ) (a b c d e : Int32) : E 1 0 0 Y_TM_feed 0 [some (.ref 0), some (.int a), some (.int b), some (.int c), some (.int d), some (.int e)] [] GM M (QI GM fun r M' => r = ans_feed σ.tape ∧ SM (σ.setTape (st_feed σ.tape a b c d e)) M') :=
  E_mono (sp_TM_feed h.R h.2.2.1 a b c d e) (fun _ _ _ y => by obtain ⟨a, r, b, e, z1, z2, z3⟩ := y; exact ⟨a, r, b, e, h.tp z1 z2 z3⟩)
theorem iT_feed (h : SI σ) (a b c d e : Int32) : SI (σ.setTape (st_feed σ.tape a b c d e)) := h
theorem cT_end (h : SC σ G M) (hI : SI σ) (x : Int32) : E 0 0 0 Y_TP_end 0 [some (.ref 0), some (.int x)] [] G M (QI G fun r M' => r = ans_end σ.tape x ∧ SC (σ.setTape (st_end σ.tape x)) G M') :=
  E_mono (sp_TP_end h.1 h.2.1 h.2.2.2.2.2.2.1 x) (fun _ _ _ y => by obtain ⟨a, r, b, e, z1, z2, z3⟩ := y; exact ⟨a, r, b, e, h.tp z1 z2 z3⟩)
theorem mT_end (h : SM σ M) (hI : SI σ) (x : Int32) : E 1 0 0 Y_TM_end 0 [some (.ref 0), some (.int x)] [] GM M (QI GM fun r M' => r = ans_end σ.tape x ∧ SM (σ.setTape (st_end σ.tape x)) M') :=
  E_mono (sp_TM_end h.R h.2.2.1 x) (fun _ _ _ y => by obtain ⟨a, r, b, e, z1, z2, z3⟩ := y; exact ⟨a, r, b, e, h.tp z1 z2 z3⟩)
theorem iT_end (h : SI σ) (x : Int32) : SI (σ.setTape (st_end σ.tape x)) := h
theorem cT_fault (h : SC σ G M) (hI : SI σ) (x : Int32) : E 0 0 0 Y_TP_fault 0 [some (.ref 0), some (.int x)] [] G M (QI G fun r M' => r = ans_fault σ.fault σ.place x ∧ SC σ G M') :=
  E_mono (sp_TP_fault h.1 h.2.2.2.2.2.2.2.1 h.2.2.2.2.2.2.2.2 x) (fun _ _ _ y => by obtain ⟨a, r, b, e, z⟩ := y; exact ⟨a, r, b, e, by rw [z]; exact h⟩)
theorem mT_fault (h : SM σ M) (hI : SI σ) (x : Int32) : E 0 0 0 Y_TM_fault 0 [some (.ref 0), some (.int x)] [] GM M (QI GM fun r M' => r = ans_fault σ.fault σ.place x ∧ SM σ M') :=
  E_mono (sp_TM_fault h.2.2.2.2.1 h.2.2.2.2.2.1 x) (fun _ _ _ y => by obtain ⟨a, r, b, e, z⟩ := y; exact ⟨a, r, b, e, by rw [z]; exact h⟩)
theorem cT_decimal (h : SC σ G M) (hI : SI σ) (x y z : Int32) : E 1 0 0 Y_TP_decimal 0 [some (.ref 0), some (.int x), some (.int y), some (.int z), none, none] [] G M (QI G fun r M' => r = ans_decimal x y z ∧ SC σ G M') :=
  E_mono (sp_TP_decimal h.1 x y z) (fun _ _ _ y => by obtain ⟨a, r, b, e, z⟩ := y; exact ⟨a, r, b, e, by rw [z]; exact h⟩)
theorem mT_decimal (h : SM σ M) (hI : SI σ) (x y z : Int32) : E 2 0 0 Y_TM_decimal 0 [some (.ref 0), some (.int x), some (.int y), some (.int z)] [] GM M (QI GM fun r M' => r = ans_decimal x y z ∧ SM σ M') :=
  E_mono (sp_TM_decimal x y z) (fun _ _ _ y => by obtain ⟨a, r, b, e, z⟩ := y; exact ⟨a, r, b, e, by rw [z]; exact h⟩)
theorem cT_decimals (h : SC σ G M) (hI : SI σ) (x y z : Int32) : E 1 0 0 Y_TP_decimals 0 [some (.ref 0), some (.int x), some (.int y), some (.int z), none, none, none] [] G M (QI G fun r M' => r = ans_decimals x y z ∧ SC σ G M') :=
  E_mono (sp_TP_decimals h.1 h.2.1 x y z) (fun _ _ _ y => by obtain ⟨a, r, b, e, z⟩ := y; exact ⟨a, r, b, e, h.cq z⟩)
theorem mT_decimals (h : SM σ M) (hI : SI σ) (x y z : Int32) : E 2 0 0 Y_TM_decimals 0 [some (.ref 0), some (.int x), some (.int y), some (.int z), none, none, none] [] GM M (QI GM fun r M' => r = ans_decimals x y z ∧ SM σ M') :=
  E_mono (sp_TM_decimals x y z) (fun _ _ _ y => by obtain ⟨a, r, b, e, z⟩ := y; exact ⟨a, r, b, e, by rw [z]; exact h⟩)
theorem cT_about (h : SC σ G M) (hI : SI σ) (x : Int32) : E 0 0 0 Y_TP_about 0 [some (.ref 0), some (.int x)] [] G M (QI G fun r M' => r = ans_about σ.cr σ.tape.length x ∧ SC σ G M') :=
  E_mono (sp_TP_about h.cm0 h.2.2.2.2.2.2.1.2.1 x) (fun _ _ _ y => by obtain ⟨a, r, b, e, z⟩ := y; exact ⟨a, r, b, e, h.cq z⟩)
theorem mT_about (h : SM σ M) (hI : SI σ) (x : Int32) : E 1 0 0 Y_TM_about 0 [some (.ref 0), some (.int x)] [] GM M (QI GM fun r M' => r = ans_about σ.cr σ.tape.length x ∧ SM σ M') :=
  E_mono (sp_TM_about h.1 h.2.2.1.2.1 x) (fun _ _ _ y => by obtain ⟨a, r, b, e, z⟩ := y; exact ⟨a, r, b, e, by rw [z]; exact h⟩)
def imS (σ : St) : St := (σ.cr, σ.cr, σ.tape, σ.fault, σ.place)
def bkS (σ : St) : St := (σ.img, σ.img, σ.tape, σ.fault, σ.place)
theorem iT_image (h : SI σ) (hw : Wf σ.cr) : SI (imS σ) := ⟨hw, ⟨[], (List.append_nil _).symm⟩, h.2.2⟩
theorem iT_back (h : SI σ) : SI (bkS σ) := ⟨h.1, ⟨[], (List.append_nil _).symm⟩, fun x hx => by
  obtain ⟨more, e⟩ := h.2.1
  exact h.2.2 x (by rw [e]; exact List.mem_append_left _ hx)⟩
theorem cT_image (h : SC σ G M) (hI : SI σ) : E 4 0 0 Y_TP_image 0 [some (.ref 0)] [] G M (QI G fun r M' => r = nI σ.cr.now.round ∧ SC (imS σ) G M') :=
  E_mono (sp_TP_image h.1 h.2.1 h.2.2.1 h.2.2.2.2.1) (fun _ _ _ y => by
    obtain ⟨a, r, b, e, z1, z2, z3, z4, z5⟩ := y
    obtain ⟨h1, h2, h3, h4, h5, h6, h7, h8, h9⟩ := h
    exact ⟨a, r, b, e, h1, z1, z5, z4, h5.cg (z3.1 _ (by decide) (by decide)), z2, h7.cg (z3.2 220 (by omega)).1 (z3.2 221 (by omega)).1, by rw [(z3.2 0 (by omega)).1]; exact h8, by rw [(z3.2 0 (by omega)).1]; exact h9⟩)
theorem cT_back (h : SC σ G M) (hI : SI σ) : E 4 0 0 Y_TP_back 0 [some (.ref 0)] [] G M (QI G fun r M' => r = nI σ.img.now.round ∧ SC (bkS σ) G M') :=
  E_mono (sp_TP_back h.1 h.2.1 h.2.2.2.1 h.2.2.2.2.2.1) (fun _ _ _ y => by
    obtain ⟨a, r, b, e, z1, z2, z3, z4, z5⟩ := y
    obtain ⟨h1, h2, h3, h4, h5, h6, h7, h8, h9⟩ := h
    exact ⟨a, r, b, e, h1, z1, z4, z5, z2, h6.cg (z3.1 _ (by decide) (by decide)), h7.cg (z3.2 220 (by omega)).1 (z3.2 221 (by omega)).1, by rw [(z3.2 0 (by omega)).1]; exact h8, by rw [(z3.2 0 (by omega)).1]; exact h9⟩)
theorem mT_image (h : SM σ M) (hI : SI σ) : E 1 0 0 Y_TM_image 0 [some (.ref 0)] [] GM M (QI GM fun r M' => r = nI σ.cr.now.round ∧ SM (imS σ) M') :=
  E_mono (sp_TM_image h.1) (fun _ _ _ y => by
    obtain ⟨a, r, b, e, z1, z2⟩ := y
    obtain ⟨h1, h2, h3, h4, h5, h6, h7⟩ := h
    have n : ∀ a, a ≠ 2 → mI _ a = mI M a ∧ mL _ a = mL M a := fun a ha => z2.2 a ha
    exact ⟨a, r, b, e, ⟨h1.R.sx z2, by rw [(n 1 (by decide)).1]; exact h1.A, by rw [(n 3 (by decide)).1]; exact h1.T, h1.w⟩, z1, h3.cg (n 0 (by decide)).1 (n 4 (by decide)).1, h4.cg (n 0 (by decide)).1 (n 0 (by decide)).2, by rw [(n 0 (by decide)).1]; exact h5, by rw [(n 0 (by decide)).1]; exact h6, by rw [(n 0 (by decide)).1]; exact h7⟩)
theorem SM.imgT (h : SM σ M) (hI : SI σ) : RepT σ.img.texts (mI M 3) := fun t ht => by
  obtain ⟨more, e⟩ := hI.2.1
  have := h.1.T t (by rw [e, List.length_append]; omega)
  rw [e, List.getD_eq_getElem?_getD, List.getElem?_append_left ht, ← List.getD_eq_getElem?_getD] at this
  exact this
theorem mT_back (h : SM σ M) (hI : SI σ) : E 1 0 0 Y_TM_back 0 [some (.ref 0)] [] GM M (QI GM fun r M' => r = nI σ.img.now.round ∧ SM (bkS σ) M') :=
  E_mono (sp_TM_back h.1 h.2.1 hI.1 (h.imgT hI)) (fun _ _ _ y => by
    obtain ⟨a, r, b, e, z1, z2⟩ := y
    obtain ⟨h1, h2, h3, h4, h5, h6, h7⟩ := h
    have n : ∀ a, a ≠ 1 → mI _ a = mI M a ∧ mL _ a = mL M a := fun a ha => z2.2 a ha
    exact ⟨a, r, b, e, z1, by rw [(n 2 (by decide)).1]; exact h2, h3.cg (n 0 (by decide)).1 (n 4 (by decide)).1, h4.cg (n 0 (by decide)).1 (n 0 (by decide)).2, by rw [(n 0 (by decide)).1]; exact h5, by rw [(n 0 (by decide)).1]; exact h6, by rw [(n 0 (by decide)).1]; exact h7⟩)
def txS (σ : St) : St := if σ.cr.texts.length = 4 then σ else (st_text σ.cr σ.tape, σ.img, [], nI (prs σ.tape).f, fp_text σ.tape)
theorem iT_text (h : SI σ) : SI (txS σ) := by
  unfold txS
  by_cases q : σ.cr.texts.length = 4
  · rw [if_pos q]; exact h
  · rw [if_neg q]
    obtain ⟨h1, ⟨more, h2⟩, h3⟩ := h
    have es : (st_text σ.cr σ.tape).texts = if (prs σ.tape).f ≠ 0 then σ.cr.texts else σ.cr.texts ++ [(prs σ.tape).t] := by
      unfold st_text
      rw [if_neg q]
      split <;> rfl
    refine ⟨h1, ?_, fun x hx => ?_⟩
    · show ∃ more, (st_text σ.cr σ.tape).texts = σ.img.texts ++ more
      rw [es]
      split
      · exact ⟨more, h2⟩
      · exact ⟨more ++ [(prs σ.tape).t], by rw [h2, List.append_assoc]⟩
    · have hx : x ∈ (st_text σ.cr σ.tape).texts := hx
      rw [es] at hx
      by_cases z : (prs σ.tape).f ≠ 0
      · rw [if_pos z] at hx; exact h3 x hx
      · rw [if_neg z] at hx
        rcases List.mem_append.mp hx with y | y
        · exact h3 x y
        · rw [List.mem_singleton.mp y]; exact (TOK.prs (Decidable.not_not.mp z)).2
theorem cT_text (h : SC σ G M) (hI : SI σ) (hlt : G.1 + 6 < 1000000) : E 219 6 1509 Y_TP_text 0 [some (.ref 0), none] [] G M (fun v G' M' => v = some (.int (ans_text σ.cr σ.tape)) ∧ G'.1 ≤ G.1 + 6 ∧ SC (txS σ) G' M') :=
  E_mono (sp_TP_text h.cm0 h.2.2.2.2.2.2.1 h.2.2.2.2.1 hlt) (fun v G' M' y => by
    obtain ⟨e, z1, z2⟩ := y
    by_cases q : σ.cr.texts.length = 4
    · obtain ⟨rfl, rfl⟩ := z1 q
      exact ⟨e, Nat.le_add_right _ _, by unfold txS; rw [if_pos q]; exact h⟩
    · obtain ⟨a1, a2, a3, a4, a5, a6, a7, a8, a9, a10⟩ := z2 q
      obtain ⟨h1, h2, h3, h4, h5, h6, h7, h8, h9⟩ := h
      have hg := h1.1
      refine ⟨e, a3, ?_⟩
      unfold txS
      rw [if_neg q]
      refine ⟨a1, a4, a5, h4.ext a2 fun k hk => ?_, a6, fun t ht => ?_, a7, a8, a9⟩
      · have := a10 k (by omega) (by omega) (by omega) (by omega) (by omega)
        exact ⟨this.1, this.2.2 (by omega)⟩
      · have := (a10 (105 + 8) (by omega) (by omega) (by omega) (by omega) (by omega)).2.2 (by omega)
        rw [this]
        rcases h6 t ht with y | ⟨q', y1, y2⟩
        · exact Or.inl y
        · exact Or.inr ⟨q', y1, a2.sh y2⟩)
theorem mT_text (h : SM σ M) (hI : SI σ) : E 12 0 0 Y_TM_text 0 [some (.ref 0)] [] GM M (QI GM fun r M' => r = ans_text σ.cr σ.tape ∧ SM (txS σ) M') :=
  E_mono (sp_TM_text h.1 h.2.2.1 h.2.2.2.1) (fun _ _ M' y => by
    obtain ⟨a, r, b, e, z1, z2⟩ := y
    refine ⟨a, r, b, e, ?_⟩
    unfold txS
    by_cases q : σ.cr.texts.length = 4
    · rw [if_pos q, z1 q]; exact h
    · obtain ⟨a1, a2, a3, a4, a5, a6, a7, a8, a9⟩ := z2 q
      obtain ⟨h1, h2, h3, h4, h5, h6, h7⟩ := h
      rw [if_neg q]
      exact ⟨a1, by rw [a7]; exact h2, a4, a5, a2, a3, a6.trans h7⟩)
end STT
