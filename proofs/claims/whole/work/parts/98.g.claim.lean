/-! the class: claim, paper -/
/-- the class's addresses: below the count, the two rows apart -/
def DAx (D : DK) (A : DA) (h : kx_Mem) : Prop := 154 ≤ h.2.2.2.2 ∧ LSr D.2.2.1.1 A.2.2.1 A.2.2.2.1 h ∧ LSr D.2.2.2.1 A.2.2.2.2.1 A.2.2.2.2.2 h ∧ (∀ c, c < D.2.2.1.1 → A.1 c < h.2.2.2.2) ∧ (∀ k, k < D.2.2.2.1 → A.2.1 k < h.2.2.2.2) ∧ (A.2.2.1 = A.2.2.2.2.1 → A.2.2.1 = 1000201)
theorem LSr.gw {n ea cap : Nat} {P L Z : Nat → Nat → Prop} {h h' : kx_Mem} (k : LSr n ea cap h) (hf : kx_Gw P L Z h h') : LSr n ea cap h' := by
  rcases k with ⟨k1, k2, k3, k4⟩ | k
  · exact Or.inl ⟨k1, k2, Nat.lt_of_lt_of_le k3 hf.1, by rw [(hf.2 ea (Or.inl k3)).1]; exact k4⟩
  · exact Or.inr k
theorem DAx.gw {D : DK} {A : DA} {P L Z : Nat → Nat → Prop} {h h' : kx_Mem} (k : DAx D A h) (hf : kx_Gw P L Z h h') : DAx D A h' := by
  obtain ⟨k1, k2, k3, k4, k5, k6⟩ := k
  have := hf.1
  exact ⟨by omega, k2.gw hf, k3.gw hf, fun c hc => by have := k4 c hc; omega, fun c hc => by have := k5 c hc; omega, k6⟩
/-- every object of the docket stays -/
theorem DKc.gw {D : DK} {A : DA} {P L Z : Nat → Nat → Prop} {h h' : kx_Mem} (hp : DKc D A h) (hx : DAx D A h) (hf : kx_Gw P L Z h h') (hP : ∀ a j, (a = 14 ∨ (17 ≤ a ∧ a ≤ 21) ∨ (34 ≤ a ∧ a ≤ 37) ∨ a = 40 ∨ a = 41 ∨ 154 ≤ a) → ¬ P a j ∧ ¬ L a j ∧ ¬ Z a j) : DKc D A h' := by
  obtain ⟨x1, x2, x3, x4, x5, x6⟩ := hx
  have e : ∀ a j, a < h.2.2.2.2 → (a = 14 ∨ (17 ≤ a ∧ a ≤ 21) ∨ (34 ≤ a ∧ a ≤ 37) ∨ a = 40 ∨ a = 41 ∨ 154 ≤ a) → h'.1 a j = h.1 a j := fun a j ha q => ((hf.2 a (Or.inl ha)).2 j).1 (hP a j q).1
  have el : ∀ a j, a < h.2.2.2.2 → 154 ≤ a → h'.2.1 a j = h.2.1 a j := fun a j ha q => ((hf.2 a (Or.inl ha)).2 j).2.1 (hP a j (by omega)).2.1
  have er : ∀ a j, a < h.2.2.2.2 → (a = 40 ∨ a = 41 ∨ 154 ≤ a) → h'.2.2.1 a j = h.2.2.1 a j := fun a j ha q => ((hf.2 a (Or.inl ha)).2 j).2.2 (hP a j (by omega)).2.2
  have ek : ∀ a, a < h.2.2.2.2 → h'.2.2.2.1 a = h.2.2.2.1 a := fun a ha => (hf.2 a (Or.inl ha)).1
  have ls : ∀ o n ea cap ad, (o = 40 ∨ o = 41) → LSr n ea cap h → LSc o n ea cap ad h → LSc o n ea cap ad h' := by
    intro o n ea cap ad ho hr ⟨c1, c2, c3, c4, c5, c6⟩
    refine ⟨by rw [e o 2 (by omega) (by omega)]; exact c1, by rw [er o 1 (by omega) (by omega)]; exact c2, ?_, c4, c5, fun c hc => ?_⟩
    · rcases hr with hr | hr
      · exact Or.inl (by rw [ek ea hr.2.2.1]; exact hr.2.2.2)
      · exact Or.inr hr
    · rcases hr with hr | hr
      · rw [er ea c hr.2.2.1 (by omega)]; exact c6 c hc
      · omega
  obtain ⟨⟨p1, p2, p3⟩, ⟨t1, t2⟩, lc, lf, ⟨s1, s2⟩, g1⟩ := hp
  refine ⟨⟨by rw [e 14 0 (by omega) (by omega)]; exact p1, by rw [e 14 3 (by omega) (by omega)]; exact p2, fun k hk => ?_⟩, ⟨by rw [e 34 0 (by omega) (by omega)]; exact t1, fun k hk => ?_⟩, ls 40 _ _ _ _ (by decide) x2 lc, ls 41 _ _ _ _ (by decide) x3 lf, ⟨s1, fun c hc => ?_⟩, fun k hk => ?_⟩
  · rw [e 17 k (by omega) (by omega), e 18 k (by omega) (by omega), e 19 k (by omega) (by omega), e 20 k (by omega) (by omega), e 21 k (by omega) (by omega)]
    exact p3 k hk
  · rw [e 35 k (by omega) (by omega), e 36 k (by omega) (by omega), e 37 k (by omega) (by omega)]
    exact t2 k hk
  · obtain ⟨y1, y2, y3, y4, y5⟩ := s2 c hc
    have hl := x4 c hc
    exact ⟨y1, y2, by rw [ek _ hl]; exact y3, fun j q1 q2 => by rw [e _ j hl (by omega)]; exact y4 j q1 q2, by rw [el _ _ hl y1]; exact y5⟩
  · obtain ⟨y1, y2, y3, y4, y5, y6, y7, y8⟩ := g1 k hk
    have hl := x5 k hk
    exact ⟨y1, y2, by rw [ek _ hl]; exact y3, by rw [er _ _ hl (by omega)]; exact y4, by rw [el _ _ hl y1]; exact y5, by rw [e _ _ hl (by omega)]; exact y6, by rw [e _ _ hl (by omega)]; exact y7, by rw [e _ _ hl (by omega)]; exact y8⟩
/-- the parts that adding to a list does not touch -/
theorem AdQ.keep {o n ea y : Nat} {ad : Nat → Nat} {D : DK} {h h' : kx_Mem} (hN : 154 ≤ h.2.2.2.2) (hea : 154 ≤ ea) (ho : o = 40 ∨ o = 41) (k : AdQ o n ea y ad h h') (hp : PSc D.1 h ∧ TSc D.2.1 h) : PSc D.1 h' ∧ TSc D.2.1 h' := by
  obtain ⟨ea1, cap1, k1, k2, k3, k4, k5, k6⟩ := k
  have e : ∀ a j, a < 38 → h'.1 a j = h.1 a j := fun a j ha => ((k6 a (Or.inl (by omega))).2 j).1 (by omega)
  obtain ⟨⟨p1, p2, p3⟩, ⟨t1, t2⟩⟩ := hp
  refine ⟨⟨by rw [e 14 0 (by omega)]; exact p1, by rw [e 14 3 (by omega)]; exact p2, fun k hk => ?_⟩, ⟨by rw [e 34 0 (by omega)]; exact t1, fun k hk => ?_⟩⟩
  · rw [e 17 k (by omega), e 18 k (by omega), e 19 k (by omega), e 20 k (by omega), e 21 k (by omega)]
    exact p3 k hk
  · rw [e 35 k (by omega), e 36 k (by omega), e 37 k (by omega)]
    exact t2 k hk
theorem AdQ.other {o o2 n ea y n2 ea2 cap cap2 : Nat} {ad ad2 : Nat → Nat} {h h' : kx_Mem} (hN : 154 ≤ h.2.2.2.2) (hM : h.2.2.2.2 < 1000000) (hr : LSr n ea cap h) (hr2 : LSr n2 ea2 cap2 h) (ho : o < 154) (ho2 : o2 < 154) (hne : o2 ≠ o) (hap : ea = ea2 → ea = 1000201) (k : AdQ o n ea y ad h h') (hl : LSc o2 n2 ea2 cap2 ad2 h) : LSc o2 n2 ea2 cap2 ad2 h' := by
  have he := hr.ge
  obtain ⟨ea1, cap1, k1, k2, k3, k4, k5, k6⟩ := k
  obtain ⟨c1, c2, c3, c4, c5, c6⟩ := hl
  refine ⟨by rw [((k6 o2 (Or.inl (by omega))).2 2).1 (by omega)]; exact c1, by rw [((k6 o2 (Or.inl (by omega))).2 1).2.2 (by omega) (by omega)]; exact c2, ?_, c4, c5, fun c hc => ?_⟩
  · rcases hr2 with hr2 | hr2
    · exact Or.inl (by rw [(k6 ea2 (Or.inl hr2.2.2.1)).1]; exact hr2.2.2.2)
    · exact Or.inr hr2
  · rcases hr2 with hr2 | hr2
    · rw [((k6 ea2 (Or.inl hr2.2.2.1)).2 c).2.2 (by omega) (fun z => by have := hap z.1.symm; omega)]; exact c6 c hc
    · omega
theorem AdQ.claims {o n ea y : Nat} {ad ca : Nat → Nat} {s : CSt} {h h' : kx_Mem} (ho : o < 154) (k : AdQ o n ea y ad h h') (hx : ∀ c, c < s.1 → ca c < h.2.2.2.2) (hp : CSc s ca h) : CSc s ca h' := by
  obtain ⟨ea1, cap1, k1, k2, k3, k4, k5, k6⟩ := k
  refine ⟨hp.1, fun c hc => ?_⟩
  obtain ⟨y1, y2, y3, y4, y5⟩ := hp.2 c hc
  have hl := k6 (ca c) (Or.inl (hx c hc))
  exact ⟨y1, y2, by rw [hl.1]; exact y3, fun j q1 q2 => by rw [(hl.2 j).1 (by omega)]; exact y4 j q1 q2, by rw [(hl.2 6).2.1]; exact y5⟩
theorem AdQ.papers {o n ea y cap : Nat} {ad ca pa : Nat → Nat} {s : FSt} {h h' : kx_Mem} (ho : o < 154) (hM : h.2.2.2.2 < 1000000) (hr : LSr n ea cap h) (k : AdQ o n ea y ad h h') (hx : ∀ c, c < s.1 → pa c < h.2.2.2.2) (hp : FSc s ca pa h) : FSc s ca pa h' := by
  obtain ⟨ea1, cap1, k1, k2, k3, k4, k5, k6⟩ := k
  intro c hc
  obtain ⟨y1, y2, y3, y4, y5, y6, y7, y8⟩ := hp c hc
  have hxc := hx c hc
  have hl := k6 (pa c) (Or.inl hxc)
  have hne : pa c ≠ ea := by
    intro z
    rcases hr with hr | hr
    · rw [z, hr.2.2.2] at y3
      cases y3
    · omega
  exact ⟨y1, y2, by rw [hl.1]; exact y3, by rw [(hl.2 0).2.2 (by omega) (by omega)]; exact y4, by rw [(hl.2 1).2.1]; exact y5, by rw [(hl.2 2).1 (by omega)]; exact y6, by rw [(hl.2 3).1 (by omega)]; exact y7, by rw [(hl.2 4).1 (by omega)]; exact y8⟩
theorem AdQ.row {o n ea y : Nat} {ad : Nat → Nat} {h h' : kx_Mem} (k : AdQ o n ea y ad h h') : ∃ ea' cap', LSc o (n + 1) ea' cap' (upF ad n y) h' ∧ LSr (n + 1) ea' cap' h' ∧ (ea' = ea ∨ ea' = h.2.2.2.2) := by
  obtain ⟨ea1, cap1, k1, k2, k3, -⟩ := k
  exact ⟨ea1, cap1, k1, k2, k3⟩
theorem LSr.lt {n ea cap : Nat} {h : kx_Mem} (k : LSr n ea cap h) (hM : h.2.2.2.2 < 1000000) : ea ≠ h.2.2.2.2 := by rcases k with k | k <;> omega
theorem DKc.addC {D : DK} {A : DA} {h h' : kx_Mem} {a b c e m t w y : Nat} (ho : DKok D) (hp : DKc D A h) (hx : DAx D A h) (hM : h.2.2.2.2 < 1000000) (hy1 : 154 ≤ y) (hy2 : y < h.2.2.2.2) (hyk : h.2.2.2.1 y = (2, 0)) (hyn : ∀ q, q < D.2.2.1.1 → A.1 q ≠ y) (hf : ∀ j, j ≠ 6 → h.1 y j = newF a b c e m t j) (hw : h.2.1 y 6 = lN w) (k : AdQ 40 D.2.2.1.1 A.2.2.1 y A.1 h h') : ∃ A', DKc (addC D a b c e m t w) A' h' ∧ DAx (addC D a b c e m t w) A' h' := by
  obtain ⟨x1, x2, x3, x4, x5, x6⟩ := hx
  obtain ⟨hP, hT, lc, lf, hcs, hfs⟩ := hp
  obtain ⟨hP', hT'⟩ := k.keep (D := D) x1 x2.ge (Or.inl rfl) ⟨hP, hT⟩
  have lf' := k.other x1 hM x2 x3 (by decide) (by decide) (by decide) x6 lf
  have cs' := k.claims (by decide) x4 hcs
  have fs' := k.papers (by decide) hM x2 x5 hfs
  have hg := k.gw (Or.inl rfl) x2.ge
  obtain ⟨ea1, cap1, k1, k2, k3⟩ := k.row
  have hyf := k
  obtain ⟨-, -, -, -, -, -, -, k6⟩ := hyf
  have hyl := k6 y (Or.inl hy2)
  refine ⟨(upF A.1 D.2.2.1.1 y, A.2.1, ea1, cap1, A.2.2.2.2), ⟨hP', hT', k1, lf', ⟨?_, fun q hq => ?_⟩, fun q hq => ?_⟩, ⟨Nat.le_trans x1 hg.1, k2, x3.gw hg, fun q hq => ?_, fun q hq => Nat.lt_of_lt_of_le (x5 q hq) hg.1, fun z => ?_⟩⟩
  · intro q q' hq hq' z
    have hq : q < D.2.2.1.1 + 1 := hq
    have hq' : q' < D.2.2.1.1 + 1 := hq'
    have z : upF A.1 D.2.2.1.1 y q = upF A.1 D.2.2.1.1 y q' := z
    unfold upF at z
    by_cases e1 : q = D.2.2.1.1
    · by_cases e2 : q' = D.2.2.1.1
      · omega
      · rw [if_pos e1, if_neg e2] at z
        exact absurd z.symm (hyn q' (by omega))
    · by_cases e2 : q' = D.2.2.1.1
      · rw [if_neg e1, if_pos e2] at z
        exact absurd z (hyn q (by omega))
      · rw [if_neg e1, if_neg e2] at z
        exact cs'.1 q q' (by omega) (by omega) z
  · have hq : q < D.2.2.1.1 + 1 := hq
    show 154 ≤ upF A.1 D.2.2.1.1 y q ∧ upF A.1 D.2.2.1.1 y q < 1000000 ∧ h'.2.2.2.1 (upF A.1 D.2.2.1.1 y q) = (2, 0) ∧ (∀ j, j < 17 → j ≠ 6 → h'.1 (upF A.1 D.2.2.1.1 y q) j = if q = D.2.2.1.1 then newF a b c e m t j else D.2.2.1.2.1 q j) ∧ h'.2.1 (upF A.1 D.2.2.1.1 y q) 6 = lN (if q = D.2.2.1.1 then w else D.2.2.1.2.2 q)
    unfold upF
    by_cases e1 : q = D.2.2.1.1
    · simp only [if_pos e1]
      exact ⟨hy1, by omega, by rw [hyl.1]; exact hyk, fun j _ q2 => by rw [(hyl.2 j).1 (by omega)]; exact hf j q2, by rw [(hyl.2 6).2.1]; exact hw⟩
    · simp only [if_neg e1]
      exact cs'.2 q (by omega)
  · obtain ⟨y1, y2, y3, y4, y5⟩ := fs' q hq
    refine ⟨y1, y2, y3, ?_, y5⟩
    show h'.2.2.1 (A.2.1 q) 0 = some (upF A.1 D.2.2.1.1 y (D.2.2.2.2.1 q))
    have := (ho.2.2.2.2 q hq).1
    unfold upF
    rw [if_neg (by omega)]; exact y4
  · have hq : q < D.2.2.1.1 + 1 := hq
    show upF A.1 D.2.2.1.1 y q < _
    have := hg.1
    unfold upF
    by_cases e1 : q = D.2.2.1.1
    · rw [if_pos e1]; omega
    · rw [if_neg e1]; have := x4 q (by omega); omega
  · have z : ea1 = A.2.2.2.2.1 := z
    show ea1 = 1000201
    rcases k3 with k3 | k3
    · rw [k3]; exact x6 (k3.symm.trans z)
    · exact absurd (z.symm.trans k3) (x3.lt hM)
theorem DKc.addP {D : DK} {A : DA} {h h' : kx_Mem} {c w i dy t y : Nat} (hc : c < D.2.2.1.1) (hp : DKc D A h) (hx : DAx D A h) (hM : h.2.2.2.2 < 1000000) (hy1 : 154 ≤ y) (hy2 : y < h.2.2.2.2) (hyk : h.2.2.2.1 y = (5, 0)) (f0 : h.2.2.1 y 0 = some (A.1 c)) (f1 : h.2.1 y 1 = lN w) (f2 : h.1 y 2 = nI i - 1) (f3 : h.1 y 3 = nI dy) (f4 : h.1 y 4 = nI t) (k : AdQ 41 D.2.2.2.1 A.2.2.2.2.1 y A.2.1 h h') : ∃ A', DKc (addP D c w i dy t) A' h' ∧ DAx (addP D c w i dy t) A' h' := by
  obtain ⟨x1, x2, x3, x4, x5, x6⟩ := hx
  obtain ⟨hP, hT, lc, lf, hcs, hfs⟩ := hp
  obtain ⟨hP', hT'⟩ := k.keep (D := D) x1 x3.ge (Or.inr rfl) ⟨hP, hT⟩
  have lc' := k.other x1 hM x3 x2 (by decide) (by decide) (by decide) (fun z => z.trans (x6 z.symm)) lc
  have cs' := k.claims (by decide) x4 hcs
  have fs' := k.papers (by decide) hM x3 x5 hfs
  have hg := k.gw (Or.inr rfl) x3.ge
  obtain ⟨ea1, cap1, k1, k2, k3⟩ := k.row
  have hyf := k
  obtain ⟨-, -, -, -, -, -, -, k6⟩ := hyf
  have hyl := k6 y (Or.inl hy2)
  have hne : y ≠ A.2.2.2.2.1 := by
    intro z
    rcases x3 with hr | hr
    · rw [z, hr.2.2.2] at hyk
      cases hyk
    · omega
  refine ⟨(A.1, upF A.2.1 D.2.2.2.1 y, A.2.2.1, A.2.2.2.1, ea1, cap1), ⟨hP', hT', lc', k1, cs', fun q hq => ?_⟩, ⟨Nat.le_trans x1 hg.1, x2.gw hg, k2, fun q hq => Nat.lt_of_lt_of_le (x4 q hq) hg.1, fun q hq => ?_, fun z => ?_⟩⟩
  · have hq : q < D.2.2.2.1 + 1 := hq
    show 154 ≤ upF A.2.1 D.2.2.2.1 y q ∧ upF A.2.1 D.2.2.2.1 y q < 1000000 ∧ h'.2.2.2.1 (upF A.2.1 D.2.2.2.1 y q) = (5, 0) ∧ h'.2.2.1 (upF A.2.1 D.2.2.2.1 y q) 0 = some (A.1 (upF D.2.2.2.2.1 D.2.2.2.1 c q)) ∧ h'.2.1 (upF A.2.1 D.2.2.2.1 y q) 1 = lN (upF D.2.2.2.2.2.1 D.2.2.2.1 w q) ∧ h'.1 (upF A.2.1 D.2.2.2.1 y q) 2 = nI (upF D.2.2.2.2.2.2.1 D.2.2.2.1 i q) - 1 ∧ h'.1 (upF A.2.1 D.2.2.2.1 y q) 3 = nI (upF D.2.2.2.2.2.2.2.1 D.2.2.2.1 dy q) ∧ h'.1 (upF A.2.1 D.2.2.2.1 y q) 4 = nI (upF D.2.2.2.2.2.2.2.2 D.2.2.2.1 t q)
    unfold upF
    by_cases e1 : q = D.2.2.2.1
    · simp only [if_pos e1]
      exact ⟨hy1, by omega, by rw [hyl.1]; exact hyk, by rw [(hyl.2 0).2.2 (by omega) (by omega)]; exact f0, by rw [(hyl.2 1).2.1]; exact f1, by rw [(hyl.2 2).1 (by omega)]; exact f2, by rw [(hyl.2 3).1 (by omega)]; exact f3, by rw [(hyl.2 4).1 (by omega)]; exact f4⟩
    · simp only [if_neg e1]
      exact fs' q (by omega)
  · have hq : q < D.2.2.2.1 + 1 := hq
    show upF A.2.1 D.2.2.2.1 y q < _
    have := hg.1
    unfold upF
    by_cases e1 : q = D.2.2.2.1
    · rw [if_pos e1]; omega
    · rw [if_neg e1]; have := x5 q (by omega); omega
  · have z : A.2.2.1 = ea1 := z
    show A.2.2.1 = 1000201
    rcases k3 with k3 | k3
    · exact x6 (z.trans k3)
    · exact absurd (z.trans k3) (x2.lt hM)
/-- what the class's claim and paper leave -/
def CcQ (X : Int32 × DK) (h : kx_Mem) (v : Option Value) (h' : kx_Mem) : Prop := v = some (.int X.1) ∧ h'.1 1 1 = nI 0 ∧ (∃ A', DKc X.2 A' h' ∧ DAx X.2 A' h') ∧ kx_Gw FcP FtL FcZ h h' ∧ h'.2.2.2.2 ≤ h.2.2.2.2 + 2
