/-! calls that tell, on both sides: people, rates, things, the clock, sides, the tape, the version in force, umpires, the fund -/
section PK
variable {P L Z : Nat → Nat → Prop} {h h' : kx_Mem}
theorem pcK {D : DK} {A : DA} (hp : DKc D A h) (hx : DAx D A h) (hf : kx_Gw P L Z h h') (hP : ∀ a j, (a = 40 ∨ a = 41 ∨ 154 ≤ a) → ¬ P a j ∧ ¬ L a j ∧ ¬ Z a j) : LSc 40 D.2.2.1.1 A.2.2.1 A.2.2.2.1 A.1 h' ∧ LSc 41 D.2.2.2.1 A.2.2.2.2.1 A.2.2.2.2.2 A.2.1 h' ∧ CSc D.2.2.1 A.1 h' ∧ FSc D.2.2.2 A.1 A.2.1 h' := by
  obtain ⟨x1, x2, x3, x4, x5, x6⟩ := hx
  have e : ∀ a j, a < h.2.2.2.2 → (a = 40 ∨ a = 41 ∨ 154 ≤ a) → h'.1 a j = h.1 a j := fun a j ha q => ((hf.2 a (Or.inl ha)).2 j).1 (hP a j q).1
  have el : ∀ a j, a < h.2.2.2.2 → 154 ≤ a → h'.2.1 a j = h.2.1 a j := fun a j ha q => ((hf.2 a (Or.inl ha)).2 j).2.1 (hP a j (by omega)).2.1
  have er : ∀ a j, a < h.2.2.2.2 → (a = 40 ∨ a = 41 ∨ 154 ≤ a) → h'.2.2.1 a j = h.2.2.1 a j := fun a j ha q => ((hf.2 a (Or.inl ha)).2 j).2.2 (hP a j (by omega)).2.2
  have ek : ∀ a, a < h.2.2.2.2 → h'.2.2.2.1 a = h.2.2.2.1 a := fun a ha => (hf.2 a (Or.inl ha)).1
  have ls : ∀ o n ea cap ad, (o = 40 ∨ o = 41) → LSr n ea cap h → LSc o n ea cap ad h → LSc o n ea cap ad h' := by
    intro o n ea cap ad ho hr ⟨c1, c2, c3, c4, c5, c6⟩
    refine ⟨by rw [e o 2 (by omega) (by omega)]; exact c1, by rw [er o 1 (by omega) (by omega)]; exact c2, ?_, c4, c5, fun c hc => ?_⟩
    · rcases hr with hr | hr
      · exact Or.inl (by rw [ek ea hr.2.2.1]; exact hr.2.2.2)
      · exact Or.inr hr
    · rcases hr with hr | hr
      · rw [er ea c hr.2.2.1 (by omega)]; exact c6 c hc
      · omega
  obtain ⟨-, -, lc, lf, ⟨s1, s2⟩, g1⟩ := hp
  refine ⟨ls 40 _ _ _ _ (by decide) x2 lc, ls 41 _ _ _ _ (by decide) x3 lf, ⟨s1, fun c hc => ?_⟩, fun k hk => ?_⟩
  · obtain ⟨y1, y2, y3, y4, y5⟩ := s2 c hc
    have hl := x4 c hc
    exact ⟨y1, y2, by rw [ek _ hl]; exact y3, fun j q1 q2 => by rw [e _ j hl (by omega)]; exact y4 j q1 q2, by rw [el _ _ hl y1]; exact y5⟩
  · obtain ⟨y1, y2, y3, y4, y5, y6, y7, y8⟩ := g1 k hk
    have hl := x5 k hk
    exact ⟨y1, y2, by rw [ek _ hl]; exact y3, by rw [er _ _ hl (by omega)]; exact y4, by rw [el _ _ hl y1]; exact y5, by rw [e _ _ hl (by omega)]; exact y6, by rw [e _ _ hl (by omega)]; exact y7, by rw [e _ _ hl (by omega)]; exact y8⟩
theorem pcPS {s : PS} (hp : PSc s h) (k : kx_Gw P L Z h h') (hN : 154 ≤ h.2.2.2.2) (hP : ∀ a j, (a = 14 ∨ (17 ≤ a ∧ a ≤ 21)) → ¬ P a j) : PSc s h' := ⟨(k.p hN (by decide) (hP 14 0 (by omega))).trans hp.1, (k.p hN (by decide) (hP 14 3 (by omega))).trans hp.2.1, fun q hq => ⟨(k.p hN (by decide) (hP 17 q (by omega))).trans (hp.2.2 q hq).1, (k.p hN (by decide) (hP 18 q (by omega))).trans (hp.2.2 q hq).2.1, (k.p hN (by decide) (hP 19 q (by omega))).trans (hp.2.2 q hq).2.2.1, (k.p hN (by decide) (hP 20 q (by omega))).trans (hp.2.2 q hq).2.2.2.1, (k.p hN (by decide) (hP 21 q (by omega))).trans (hp.2.2 q hq).2.2.2.2⟩⟩
theorem pcTS {s : TS} (hp : TSc s h) (k : kx_Gw P L Z h h') (hN : 154 ≤ h.2.2.2.2) (hP : ∀ a j, (34 ≤ a ∧ a ≤ 37) → ¬ P a j) : TSc s h' := ⟨(k.p hN (by decide) (hP 34 0 (by omega))).trans hp.1, fun q hq => ⟨(k.p hN (by decide) (hP 35 q (by omega))).trans (hp.2 q hq).1, (k.p hN (by decide) (hP 36 q (by omega))).trans (hp.2 q hq).2.1, (k.p hN (by decide) (hP 37 q (by omega))).trans (hp.2 q hq).2.2⟩⟩
end PK
theorem CSok.up {P P' : Nat} {ts : TS} {s : CSt} (h : CSok P ts s) (hp : P ≤ P') : CSok P' ts s := ⟨h.1, fun c hc => ⟨(h.2 c hc).1, Nat.lt_of_lt_of_le (h.2 c hc).2.1 hp, (h.2 c hc).2.2⟩⟩
theorem FSok.up {P P' n : Nat} {s : FSt} (h : FSok P n s) (hp : P ≤ P') : FSok P' n s := ⟨h.1, fun k hk => ⟨(h.2 k hk).1, (h.2 k hk).2.1, (h.2 k hk).2.2.1, Nat.le_trans (h.2 k hk).2.2.2.1 hp, (h.2 k hk).2.2.2.2⟩⟩
theorem PSok.one {s : PS} (h : PSok s) (hn : s.1 < 60) : PSok (s.1 + 1, s.2) := ⟨hn, h.2.1, fun k hk => by
  obtain ⟨q1, q2, q3, q4, q5, q6, q7⟩ := h.2.2 k hk
  exact ⟨q1, Nat.lt_succ_of_lt q2, q3, q4, q5, fun e => ⟨Nat.lt_succ_of_lt (q6 e).1, (q6 e).2⟩, q7⟩⟩
theorem CSok.ts {P : Nat} {ts : TS} {s : CSt} {x y w : Nat} (h : CSok P ts s) : CSok P (tsT ts x y w) s := ⟨h.1, fun c hc => by
  obtain ⟨q0, q1, q2, q3, q4, q5, q6, q7, q8⟩ := h.2 c hc
  exact ⟨q0, q1, q2, Nat.lt_succ_of_lt q3, q4, q5, q6, by
    show upF ts.2.1 ts.1 x (cN s c 2) ≤ cN s c 5
    unfold upF
    rw [if_neg (Nat.ne_of_lt q3)]
    exact q7, q8⟩⟩
theorem st_feed {l : Launch} {g : kx_G} {k : Nat} {h : kx_Mem} (hk : k < 512) (hG : Glob k h) (a1 a2 a3 a4 a5 : Int32) : Bth l g m_Tc_feed m_Mo_feed [.int a1, .int a2, .int a3, .int a4, .int a5] k h 0 0 := by
  obtain ⟨D, A, U, rs, AV, DV, V, u, td, s1, s2, b, n, B, M, K, pu, f0, f1, nw, T, z, i, c, m⟩ := hG
  obtain ⟨i1, i2, i3, ⟨i4a, i4b, i4c, i4d⟩, i5, i6, ⟨i7a, i7b⟩, ⟨i8, i9, i10⟩, i11, i12, i13⟩ := id i
  obtain ⟨c1, ⟨c2, c2x⟩, c3, c4, c5, c6, c7, c8, c9, c10⟩ := id c
  refine kx_Sp.imp (x_Tc_feed (d := 28) c1 b n c7.2.1 c7.1 c7.2.2 a1 a2 a3 a4 a5) (fun v h1 hq => ?_)
  by_cases e : n + 20 ≤ 600
  · obtain ⟨rfl, q1, q2, hf⟩ := hq.1 e
    have hf : kx_Fc (fun a j => a = 2 ∨ (a = 1 ∧ j = 1)) h h1 := hf
    have w := hf.gw (Z := nvr)
    have hc1 : h1.2.2.2.2 = h.2.2.2.2 := by rw [hf.1]
    have hN1 : 154 ≤ h1.2.2.2.2 := by omega
    have hN2 : h1.2.2.2.2 < 1000000 := by omega
    have mm := m.fx w i11 (fun a j q => by skip; unfold pC; omega) (fun a j q => by exact q.elim) (fun _ _ q => q.elim)
    have cc : gC D A U rs AV DV V u td s1 s2 ((fed b n a1 a2 a3 a4 a5)) ((n + 20)) B M K pu f0 f1 h1 := ⟨pcS0 c1 w i11, pcD ⟨c2, c2x⟩ w (fun a j q => ⟨by skip; omega, id⟩), pcU c3 w i11 (fun a j q => by skip; omega), pcR c4 w i11 (fun a j q => by skip; omega), pcV c5 w i11 (fun a j q => ⟨by skip; omega, id⟩) ⟨id, fun _ => id⟩, pcI c6 w i11 (fun a j q => by skip; omega), ⟨q1, e, q2⟩, pcB c8 w i11 (fun a j q => by skip; omega), pcF c9 w i11 (fun a j q => by skip; omega), pcQ c10 w i11 (fun a j q => by skip; omega)⟩
    clear m
    obtain ⟨m1, m2, m3, m4, m5, m6, m7, m8, m9, m10, m11, m12⟩ := id mm
    refine ⟨_, rfl, m1.k 0 rfl, kx_Sp.imp (y_feed (d := 29) m1 b n c7.2.1 m8.1 m8.2.2 a1 a2 a3 a4 a5) (fun v2 h2 hq2 => ?_)⟩
    obtain ⟨rfl, p1, p2, hf2⟩ := hq2.1 e
    have hf2 : kx_Fc (fun a j => a = 88 ∨ (a = 84 ∧ j = 5)) h1 h2 := hf2
    have w2 := hf2.gw (Z := nvr)
    have hc2 : h2.2.2.2.2 = h1.2.2.2.2 := by rw [hf2.1]
    exact ⟨rfl, D, A, U, rs, AV, DV, V, u, td, s1, s2, (fed b n a1 a2 a3 a4 a5), (n + 20), B, M, K, pu, f0, f1, nw, T, z, ⟨i1, i2, i3, ⟨i4a, i4b, i4c, i4d⟩, BY_fed i5 n a1 a2 a3 a4 a5, i6, ⟨i7a, i7b⟩, ⟨i8, i9, by omega⟩, by omega, by omega, hk⟩, (cc.fy w2 hN1 (fun a j q => by skip; unfold pM; omega) (fun a j q => by exact q.elim)), ⟨pmS m1 w2 hN1 (fun a j q1 q2 => id), pmD m2 w2 hN1 (fun a j q => by skip; omega), pmZ m3 w2 hN1 (fun a j q => by skip; omega), pmU m4 w2 hN1 (fun a j q => by skip; omega), pmR m5 w2 hN1 (fun a j q => by skip; omega), pmV m6 w2 hN1 (fun a j q => by skip; omega), pmI m7 w2 hN1 (fun a j q => by skip; omega), ⟨p1, e, p2⟩, pmB m9 w2 hN1 (fun a j q => by skip; omega), pmF m10 w2 hN1 (fun a j q => by skip; omega), pmQ m11 w2 hN1 (fun a j q => by skip; omega), pmW m12 w2 hN1 (fun a j q => by skip; omega)⟩⟩
  · obtain ⟨rfl, he⟩ := hq.2 e
    rw [he]
    obtain ⟨m1, m2, m3, m4, m5, m6, m7, m8, m9, m10, m11, m12⟩ := id m
    refine ⟨_, rfl, m1.k 0 rfl, kx_Sp.imp (y_feed (d := 29) m1 b n c7.2.1 m8.1 m8.2.2 a1 a2 a3 a4 a5) (fun v2 h2 hq2 => ?_)⟩
    obtain ⟨rfl, he2⟩ := hq2.2 e
    rw [he2]
    exact ⟨rfl, D, A, U, rs, AV, DV, V, u, td, s1, s2, b, n, B, M, K, pu, f0, f1, nw, T, z, i.up hk (by omega) (by omega), c, m⟩
theorem st_end {l : Launch} {g : kx_G} {k : Nat} {h : kx_Mem} (hk : k < 512) (hG : Glob k h) (a1 : Int32) : Bth l g m_Tc_end m_Mo_end [.int a1] k h 0 0 := by
  obtain ⟨D, A, U, rs, AV, DV, V, u, td, s1, s2, b, n, B, M, K, pu, f0, f1, nw, T, z, i, c, m⟩ := hG
  obtain ⟨i1, i2, i3, ⟨i4a, i4b, i4c, i4d⟩, i5, i6, ⟨i7a, i7b⟩, ⟨i8, i9, i10⟩, i11, i12, i13⟩ := id i
  obtain ⟨c1, ⟨c2, c2x⟩, c3, c4, c5, c6, c7, c8, c9, c10⟩ := id c
  refine kx_Sp.imp (x_Tc_end (d := 29) c1 n c7.2.1 c7.1 a1) (fun v h1 hq => ?_)
  by_cases e : 0 ≤ a1 ∧ a1 ≤ nI n
  · obtain ⟨rfl, he⟩ := hq.1 e
    obtain ⟨q9, hq9, hq8, rfl⟩ := valU (n := n) (by have := c7.2.1; omega) e
    have hf : kx_Fc (Fone 1 1) h h1 := by rw [he]; exact kx_Fc.set ⟨rfl, rfl⟩
    have w := hf.gw (Z := nvr)
    have hc1 : h1.2.2.2.2 = h.2.2.2.2 := by rw [hf.1]
    have hN1 : 154 ≤ h1.2.2.2.2 := by omega
    have hN2 : h1.2.2.2.2 < 1000000 := by omega
    have mm := m.fx w i11 (fun a j q => by unfold Fone at q; unfold pC; omega) (fun a j q => by exact q.elim) (fun _ _ q => q.elim)
    have hn6 := c7.2.1
    have cc : gC D A U rs AV DV V u td s1 s2 b q9 B M K pu f0 f1 h1 := ⟨pcS0 c1 w i11, pcD ⟨c2, c2x⟩ w (fun a j q => ⟨by unfold Fone; omega, id⟩), pcU c3 w i11 (fun a j q => by unfold Fone; omega), pcR c4 w i11 (fun a j q => by unfold Fone; omega), pcV c5 w i11 (fun a j q => ⟨by unfold Fone; omega, id⟩) ⟨id, fun _ => id⟩, pcI c6 w i11 (fun a j q => by unfold Fone; omega), ⟨by rw [he]; exact setI_at, by omega, fun j hj => (w.p i11 (by decide) (by unfold Fone; omega)).trans (c7.2.2 j (by omega))⟩, pcB c8 w i11 (fun a j q => by unfold Fone; omega), pcF c9 w i11 (fun a j q => by unfold Fone; omega), pcQ c10 w i11 (fun a j q => by unfold Fone; omega)⟩
    clear m
    obtain ⟨m1, m2, m3, m4, m5, m6, m7, m8, m9, m10, m11, m12⟩ := id mm
    refine ⟨_, rfl, m1.k 0 rfl, kx_Sp.imp (y_end (d := 29) m1 n m8.2.1 m8.1 (nI q9)) (fun v2 h2 hq2 => ?_)⟩
    obtain ⟨rfl, he2⟩ := hq2.1 e
    have hf2 : kx_Fc (Fone 84 5) h1 h2 := by rw [he2]; exact kx_Fc.set ⟨rfl, rfl⟩
    have w2 := hf2.gw (Z := nvr)
    have hc2 : h2.2.2.2.2 = h1.2.2.2.2 := by rw [hf2.1]
    exact ⟨rfl, D, A, U, rs, AV, DV, V, u, td, s1, s2, b, q9, B, M, K, pu, f0, f1, nw, T, z, ⟨i1, i2, i3, ⟨i4a, i4b, i4c, i4d⟩, i5, i6, ⟨i7a, i7b⟩, ⟨i8, i9, by omega⟩, by omega, by omega, hk⟩, (cc.fy w2 hN1 (fun a j q => by unfold Fone at q; unfold pM; omega) (fun a j q => by exact q.elim)), ⟨pmS m1 w2 hN1 (fun a j q1 q2 => id), pmD m2 w2 hN1 (fun a j q => by unfold Fone; omega), pmZ m3 w2 hN1 (fun a j q => by unfold Fone; omega), pmU m4 w2 hN1 (fun a j q => by unfold Fone; omega), pmR m5 w2 hN1 (fun a j q => by unfold Fone; omega), pmV m6 w2 hN1 (fun a j q => by unfold Fone; omega), pmI m7 w2 hN1 (fun a j q => by unfold Fone; omega), ⟨by rw [he2]; exact setI_at, by omega, fun j hj => (w2.p hN1 (by decide) (by unfold Fone; omega)).trans (m8.2.2 j (by omega))⟩, pmB m9 w2 hN1 (fun a j q => by unfold Fone; omega), pmF m10 w2 hN1 (fun a j q => by unfold Fone; omega), pmQ m11 w2 hN1 (fun a j q => by unfold Fone; omega), pmW m12 w2 hN1 (fun a j q => by unfold Fone; omega)⟩⟩
  · obtain ⟨rfl, he⟩ := hq.2 e
    rw [he]
    obtain ⟨m1, m2, m3, m4, m5, m6, m7, m8, m9, m10, m11, m12⟩ := id m
    refine ⟨_, rfl, m1.k 0 rfl, kx_Sp.imp (y_end (d := 29) m1 n m8.2.1 m8.1 a1) (fun v2 h2 hq2 => ?_)⟩
    obtain ⟨rfl, he2⟩ := hq2.2 e
    rw [he2]
    exact ⟨rfl, D, A, U, rs, AV, DV, V, u, td, s1, s2, b, n, B, M, K, pu, f0, f1, nw, T, z, i.up hk (by omega) (by omega), c, m⟩
theorem pass_v {td : Nat} (htd : td ≤ 1999) {a : Int32} (h1 : 1 ≤ a ∧ a ≤ 500) (h2 : nI td + a ≤ 1999) : ∃ q, a = nI q ∧ td + q ≤ 1999 := by
  obtain ⟨q, hq, rfl⟩ := nI_of (Int32.not_lt.mpr (Int32.le_trans (by decide) h1.1))
  have h500 := (nI_leI (b := 500) hq (by decide)).mp h1.2
  rw [nI_add] at h2
  exact ⟨q, rfl, (nI_leI (b := 1999) (by omega) (by decide)).mp h2⟩
theorem st_pass {l : Launch} {g : kx_G} {k : Nat} {h : kx_Mem} (hk : k < 512) (hG : Glob k h) (a1 : Int32) : Bth l g m_Tc_pass m_Mo_pass [.int a1] k h 0 0 := by
  obtain ⟨D, A, U, rs, AV, DV, V, u, td, s1, s2, b, n, B, M, K, pu, f0, f1, nw, T, z, i, c, m⟩ := hG
  obtain ⟨i1, i2, i3, ⟨i4a, i4b, i4c, i4d⟩, i5, i6, ⟨i7a, i7b⟩, ⟨i8, i9, i10⟩, i11, i12, i13⟩ := id i
  obtain ⟨c1, ⟨c2, c2x⟩, c3, c4, c5, c6, c7, c8, c9, c10⟩ := id c
  refine kx_Sp.imp (x_Tc_pass (d := 29) c1 a1) (fun v h1 hq => ?_)
  rw [c6.2.1] at hq
  rcases hq with ⟨e1, e2, rfl, he⟩ | ⟨e1, rfl, he⟩
  · obtain ⟨q9, rfl, hq9⟩ := pass_v i4b e1 e2
    rw [nI_add] at he
    have hf : kx_Fc (Fone 0 9) h h1 := by rw [he]; exact kx_Fc.set ⟨rfl, rfl⟩
    have w := hf.gw (Z := nvr)
    have hc1 : h1.2.2.2.2 = h.2.2.2.2 := by rw [hf.1]
    have hN1 : 154 ≤ h1.2.2.2.2 := by omega
    have hN2 : h1.2.2.2.2 < 1000000 := by omega
    have mm := m.fx w i11 (fun a j q => by unfold Fone at q; unfold pC; omega) (fun a j q => by exact q.elim) (fun _ _ q => q.elim)
    have cc : gC D A U rs AV DV V u ((td + q9)) s1 s2 b n B M K pu f0 f1 h1 := ⟨pcS0 c1 w i11, pcD ⟨c2, c2x⟩ w (fun a j q => ⟨by unfold Fone; omega, id⟩), pcU c3 w i11 (fun a j q => by unfold Fone; omega), pcR c4 w i11 (fun a j q => by unfold Fone; omega), pcV c5 w i11 (fun a j q => ⟨by unfold Fone; omega, id⟩) ⟨id, fun _ => id⟩, ⟨(w.p i11 (by decide) (by unfold Fone; omega)).trans c6.1, by rw [he]; exact setI_at, (w.p i11 (by decide) (by unfold Fone; omega)).trans c6.2.2.1, (w.p i11 (by decide) (by unfold Fone; omega)).trans c6.2.2.2⟩, pcT c7 w i11 (fun a j q => by unfold Fone; omega), pcB c8 w i11 (fun a j q => by unfold Fone; omega), pcF c9 w i11 (fun a j q => by unfold Fone; omega), pcQ c10 w i11 (fun a j q => by unfold Fone; omega)⟩
    clear m
    obtain ⟨m1, m2, m3, m4, m5, m6, m7, m8, m9, m10, m11, m12⟩ := id mm
    refine ⟨_, rfl, m1.k 0 rfl, kx_Sp.imp (y_pass (d := 29) m1 (nI q9)) (fun v2 h2 hq2 => ?_)⟩
    rw [m7.2.1] at hq2
    rcases hq2 with ⟨p1, p2, rfl, he2⟩ | ⟨p1, -, -⟩
    · rw [nI_add] at he2
      have hf2 : kx_Fc (Fone 84 36) h1 h2 := by rw [he2]; exact kx_Fc.set ⟨rfl, rfl⟩
      have w2 := hf2.gw (Z := nvr)
      have hc2 : h2.2.2.2.2 = h1.2.2.2.2 := by rw [hf2.1]
      exact ⟨rfl, D, A, U, rs, AV, DV, V, u, (td + q9), s1, s2, b, n, B, M, K, pu, f0, f1, nw, T, z, ⟨i1, i2, i3, ⟨i4a, by omega, i4c, i4d⟩, i5, i6, ⟨fun q hq => by have := i7a q hq; omega, fun q hq => by have := i7b q hq; omega⟩, ⟨i8, i9, by omega⟩, by omega, by omega, hk⟩, (cc.fy w2 hN1 (fun a j q => by unfold Fone at q; unfold pM; omega) (fun a j q => by exact q.elim)), ⟨pmS m1 w2 hN1 (fun a j q1 q2 => id), pmD m2 w2 hN1 (fun a j q => by unfold Fone; omega), pmZ m3 w2 hN1 (fun a j q => by unfold Fone; omega), pmU m4 w2 hN1 (fun a j q => by unfold Fone; omega), pmR m5 w2 hN1 (fun a j q => by unfold Fone; omega), pmV m6 w2 hN1 (fun a j q => by unfold Fone; omega), ⟨(w2.p hN1 (by decide) (by unfold Fone; omega)).trans m7.1, by rw [he2]; exact setI_at, (w2.p hN1 (by decide) (by unfold Fone; omega)).trans m7.2.2.1, (w2.p hN1 (by decide) (by unfold Fone; omega)).trans m7.2.2.2⟩, pmT m8 w2 hN1 (fun a j q => by unfold Fone; omega), pmB m9 w2 hN1 (fun a j q => by unfold Fone; omega), pmF m10 w2 hN1 (fun a j q => by unfold Fone; omega), pmQ m11 w2 hN1 (fun a j q => by unfold Fone; omega), pmW m12 w2 hN1 (fun a j q => by unfold Fone; omega)⟩⟩
    · exact absurd ⟨e1, e2⟩ p1
  · rw [he]
    obtain ⟨m1, m2, m3, m4, m5, m6, m7, m8, m9, m10, m11, m12⟩ := id m
    refine ⟨_, rfl, m1.k 0 rfl, kx_Sp.imp (y_pass (d := 29) m1 a1) (fun v2 h2 hq2 => ?_)⟩
    rw [m7.2.1] at hq2
    rcases hq2 with ⟨p1, p2, -, -⟩ | ⟨p1, rfl, he2⟩
    · exact absurd ⟨p1, p2⟩ e1
    · rw [he2]
      exact ⟨rfl, D, A, U, rs, AV, DV, V, u, td, s1, s2, b, n, B, M, K, pu, f0, f1, nw, T, z, i.up hk (by omega) (by omega), c, m⟩
theorem st_person {l : Launch} {g : kx_G} {k : Nat} {h : kx_Mem} (hk : k < 512) (hG : Glob k h) : Bth l g m_Tc_person m_Mo_person [] k h 0 0 := by
  obtain ⟨D, A, U, rs, AV, DV, V, u, td, s1, s2, b, n, B, M, K, pu, f0, f1, nw, T, z, i, c, m⟩ := hG
  obtain ⟨i1, i2, i3, ⟨i4a, i4b, i4c, i4d⟩, i5, i6, ⟨i7a, i7b⟩, ⟨i8, i9, i10⟩, i11, i12, i13⟩ := id i
  obtain ⟨c1, ⟨c2, c2x⟩, c3, c4, c5, c6, c7, c8, c9, c10⟩ := id c
  refine kx_Sp.imp (x_Tc_person (d := 29) c1 D.1 i1.1 c2.1) (fun v h1 hq => ?_)
  rcases hq with ⟨e1, rfl, he⟩ | ⟨e1, rfl, he⟩
  · rw [he]
    obtain ⟨m1, m2, m3, m4, m5, m6, m7, m8, m9, m10, m11, m12⟩ := id m
    refine ⟨_, rfl, m1.k 0 rfl, kx_Sp.imp (y_person (d := 30) m1 D.1 i1.1 m2.1) (fun v2 h2 hq2 => ?_)⟩
    rcases hq2 with ⟨p1, rfl, he2⟩ | ⟨p1, -, -⟩
    · rw [he2]
      exact ⟨rfl, D, A, U, rs, AV, DV, V, u, td, s1, s2, b, n, B, M, K, pu, f0, f1, nw, T, z, i.up hk (by omega) (by omega), c, m⟩
    · omega
  · have hf : kx_Fc (Fone 14 0) h h1 := by rw [he]; exact kx_Fc.set ⟨rfl, rfl⟩
    have w := hf.gw (Z := nvr)
    have hc1 : h1.2.2.2.2 = h.2.2.2.2 := by rw [hf.1]
    have hN1 : 154 ≤ h1.2.2.2.2 := by omega
    have hN2 : h1.2.2.2.2 < 1000000 := by omega
    have mm := m.fx w i11 (fun a j q => by unfold Fone at q; unfold pC; omega) (fun a j q => by exact q.elim) (fun _ _ q => q.elim)
    have ck := pcK c2 c2x w (fun a j q => ⟨by unfold Fone; omega, id, id⟩)
    have cp : PSc (D.1.1 + 1, D.1.2) h1 := ⟨by rw [he]; exact setI_at, (w.p i11 (by decide) (by unfold Fone; omega)).trans c2.1.2.1, fun q hq => ⟨(w.p i11 (by decide) (by unfold Fone; omega)).trans (c2.1.2.2 q hq).1, (w.p i11 (by decide) (by unfold Fone; omega)).trans (c2.1.2.2 q hq).2.1, (w.p i11 (by decide) (by unfold Fone; omega)).trans (c2.1.2.2 q hq).2.2.1, (w.p i11 (by decide) (by unfold Fone; omega)).trans (c2.1.2.2 q hq).2.2.2.1, (w.p i11 (by decide) (by unfold Fone; omega)).trans (c2.1.2.2 q hq).2.2.2.2⟩⟩
    have cc : gC (((D.1.1 + 1, D.1.2), D.2)) A U rs AV DV V u td s1 s2 b n B M K pu f0 f1 h1 := ⟨pcS0 c1 w i11, ⟨⟨cp, pcTS c2.2.1 w i11 (fun a j q => by unfold Fone; omega), ck⟩, c2x.gw w⟩, pcU c3 w i11 (fun a j q => by unfold Fone; omega), pcR c4 w i11 (fun a j q => by unfold Fone; omega), pcV c5 w i11 (fun a j q => ⟨by unfold Fone; omega, id⟩) ⟨id, fun _ => id⟩, pcI c6 w i11 (fun a j q => by unfold Fone; omega), pcT c7 w i11 (fun a j q => by unfold Fone; omega), pcB c8 w i11 (fun a j q => by unfold Fone; omega), pcF c9 w i11 (fun a j q => by unfold Fone; omega), pcQ c10 w i11 (fun a j q => by unfold Fone; omega)⟩
    clear m
    obtain ⟨m1, m2, m3, m4, m5, m6, m7, m8, m9, m10, m11, m12⟩ := id mm
    refine ⟨_, rfl, m1.k 0 rfl, kx_Sp.imp (y_person (d := 30) m1 D.1 i1.1 m2.1) (fun v2 h2 hq2 => ?_)⟩
    rcases hq2 with ⟨p1, -, -⟩ | ⟨p1, rfl, he2⟩
    · omega
    · have hf2 : kx_Fc (Fone 84 33) h1 h2 := by rw [he2]; exact kx_Fc.set ⟨rfl, rfl⟩
      have w2 := hf2.gw (Z := nvr)
      have hc2 : h2.2.2.2.2 = h1.2.2.2.2 := by rw [hf2.1]
      have mp : PSm (D.1.1 + 1, D.1.2) h2 := by
        refine ⟨by rw [he2]; exact setI_at, (w2.p hN1 (by decide) (by unfold Fone; omega)).trans m2.1.2.1, fun q hq => ?_⟩
        have e : ∀ a, 107 ≤ a → a ≤ 112 → h2.1 a q = h1.1 a q := fun a z1 z2 => w2.p hN1 (by omega) (by unfold Fone; omega)
        rw [e 107 (by decide) (by decide), e 108 (by decide) (by decide), e 109 (by decide) (by decide), e 110 (by decide) (by decide), e 111 (by decide) (by decide), e 112 (by decide) (by decide)]
        exact m2.1.2.2 q hq
      exact ⟨rfl, ((D.1.1 + 1, D.1.2), D.2), A, U, rs, AV, DV, V, u, td, s1, s2, b, n, B, M, K, pu, f0, f1, nw, T, z, ⟨⟨i1.1.one e1, i1.2.1, i1.2.2.1.up (Nat.le_succ _), i1.2.2.2.up (Nat.le_succ _)⟩, i2, i3, ⟨i4a, i4b, i4c, i4d⟩, i5, i6, ⟨i7a, i7b⟩, ⟨i8, i9, by omega⟩, by omega, by omega, hk⟩, (cc.fy w2 hN1 (fun a j q => by unfold Fone at q; unfold pM; omega) (fun a j q => by exact q.elim)), ⟨pmS m1 w2 hN1 (fun a j q1 q2 => id), ⟨mp, m2.2.1.fc hf2 (by unfold Fone; omega) (fun a q1 q2 j => by unfold Fone; omega), m2.2.2.1.fm hf2 (by unfold Fone; omega) (fun a j q1 q2 => by unfold Fone; omega), m2.2.2.2.fm hf2 (by unfold Fone; omega) (fun a j q1 q2 => by unfold Fone; omega)⟩, pmZ m3 w2 hN1 (fun a j q => by unfold Fone; omega), pmU m4 w2 hN1 (fun a j q => by unfold Fone; omega), pmR m5 w2 hN1 (fun a j q => by unfold Fone; omega), pmV m6 w2 hN1 (fun a j q => by unfold Fone; omega), pmI m7 w2 hN1 (fun a j q => by unfold Fone; omega), pmT m8 w2 hN1 (fun a j q => by unfold Fone; omega), pmB m9 w2 hN1 (fun a j q => by unfold Fone; omega), pmF m10 w2 hN1 (fun a j q => by unfold Fone; omega), pmQ m11 w2 hN1 (fun a j q => by unfold Fone; omega), pmW m12 w2 hN1 (fun a j q => by unfold Fone; omega)⟩⟩
theorem st_nation {l : Launch} {g : kx_G} {k : Nat} {h : kx_Mem} (hk : k < 512) (hG : Glob k h) (a1 a2 a3 : Int32) : Bth l g m_Tc_nation m_Mo_nation [.int a1, .int a2, .int a3] k h 0 0 := by
  obtain ⟨D, A, U, rs, AV, DV, V, u, td, s1, s2, b, n, B, M, K, pu, f0, f1, nw, T, z, i, c, m⟩ := hG
  obtain ⟨i1, i2, i3, ⟨i4a, i4b, i4c, i4d⟩, i5, i6, ⟨i7a, i7b⟩, ⟨i8, i9, i10⟩, i11, i12, i13⟩ := id i
  obtain ⟨c1, ⟨c2, c2x⟩, c3, c4, c5, c6, c7, c8, c9, c10⟩ := id c
  refine kx_Sp.imp (x_Tc_nation (d := 28) c1 D.1 i1.1 c2.1 td i4b c6.2.1 a1 a2 a3) (fun v h1 hq => ?_)
  rcases hq with ⟨e1, rfl, he⟩ | ⟨e1, e2, rfl, he⟩ | ⟨e1, e2, rfl, po, cp, hf⟩
  · rw [he]
    obtain ⟨m1, m2, m3, m4, m5, m6, m7, m8, m9, m10, m11, m12⟩ := id m
    refine ⟨_, rfl, m1.k 0 rfl, kx_Sp.imp (y_nation (d := 28) m1 D.1 i1.1 m2.1 td i4b m7.2.1 a1 a2 a3) (fun v2 h2 hq2 => ?_)⟩
    rcases hq2 with ⟨p1, rfl, he2⟩ | ⟨p1, p2, -, -⟩ | ⟨p1, p2, -, -⟩
    · rw [he2]
      exact ⟨rfl, D, A, U, rs, AV, DV, V, u, td, s1, s2, b, n, B, M, K, pu, f0, f1, nw, T, z, i.up hk (by omega) (by omega), c, m⟩
    · exact absurd p1 e1
    · exact absurd p1 e1
  · rw [he]
    obtain ⟨m1, m2, m3, m4, m5, m6, m7, m8, m9, m10, m11, m12⟩ := id m
    refine ⟨_, rfl, m1.k 0 rfl, kx_Sp.imp (y_nation (d := 28) m1 D.1 i1.1 m2.1 td i4b m7.2.1 a1 a2 a3) (fun v2 h2 hq2 => ?_)⟩
    rcases hq2 with ⟨p1, -, -⟩ | ⟨p1, p2, rfl, he2⟩ | ⟨p1, p2, -, -⟩
    · exact absurd e1 p1
    · rw [he2]
      exact ⟨rfl, D, A, U, rs, AV, DV, V, u, td, s1, s2, b, n, B, M, K, pu, f0, f1, nw, T, z, i.up hk (by omega) (by omega), c, m⟩
    · omega
  · skip
    have w := hf.gw (Z := nvr)
    have hc1 : h1.2.2.2.2 = h.2.2.2.2 := by rw [hf.1]
    have hN1 : 154 ≤ h1.2.2.2.2 := by omega
    have hN2 : h1.2.2.2.2 < 1000000 := by omega
    have mm := m.fx w i11 (fun a j q => by unfold FtC at q; unfold pC; omega) (fun a j q => by exact q.elim) (fun _ _ q => q.elim)
    have ck := pcK c2 c2x w (fun a j q => ⟨by unfold FtC; omega, id, id⟩)
    have cc : gC (((psT D.1 0 a1.toNatClampNeg td a3.toNatClampNeg a2.toNatClampNeg), D.2)) A U rs AV DV V u td s1 s2 b n B M K pu f0 f1 h1 := ⟨pcS0 c1 w i11, ⟨⟨cp, pcTS c2.2.1 w i11 (fun a j q => by unfold FtC; omega), ck⟩, c2x.gw w⟩, pcU c3 w i11 (fun a j q => by unfold FtC; omega), pcR c4 w i11 (fun a j q => by unfold FtC; omega), pcV c5 w i11 (fun a j q => ⟨by unfold FtC; omega, id⟩) ⟨id, fun _ => id⟩, pcI c6 w i11 (fun a j q => by unfold FtC; omega), pcT c7 w i11 (fun a j q => by unfold FtC; omega), pcB c8 w i11 (fun a j q => by unfold FtC; omega), pcF c9 w i11 (fun a j q => by unfold FtC; omega), pcQ c10 w i11 (fun a j q => by unfold FtC; omega)⟩
    clear m
    obtain ⟨m1, m2, m3, m4, m5, m6, m7, m8, m9, m10, m11, m12⟩ := id mm
    refine ⟨_, rfl, m1.k 0 rfl, kx_Sp.imp (y_nation (d := 28) m1 D.1 i1.1 m2.1 td i4b m7.2.1 a1 a2 a3) (fun v2 h2 hq2 => ?_)⟩
    rcases hq2 with ⟨p1, -, -⟩ | ⟨p1, p2, -, -⟩ | ⟨p1, p2, rfl, po2, mp, hf2⟩
    · exact absurd e1 p1
    · omega
    · skip
      have w2 := hf2.gw (Z := nvr)
      have hc2 : h2.2.2.2.2 = h1.2.2.2.2 := by rw [hf2.1]
      exact ⟨rfl, ((psT D.1 0 a1.toNatClampNeg td a3.toNatClampNeg a2.toNatClampNeg), D.2), A, U, rs, AV, DV, V, u, td, s1, s2, b, n, B, M, K, pu, f0, f1, nw, T, z, ⟨⟨po, i1.2.1, i1.2.2.1, i1.2.2.2⟩, i2, i3, ⟨i4a, i4b, i4c, i4d⟩, i5, i6, ⟨i7a, i7b⟩, ⟨i8, i9, by omega⟩, by omega, by omega, hk⟩, (cc.fy w2 hN1 (fun a j q => by unfold FtM at q; unfold pM; omega) (fun a j q => by exact q.elim)), ⟨pmS m1 w2 hN1 (fun a j q1 q2 => id), ⟨mp, m2.2.1.fc hf2 (by unfold FtM; omega) (fun a q1 q2 j => by unfold FtM; omega), m2.2.2.1.fm hf2 (by unfold FtM; omega) (fun a j q1 q2 => by unfold FtM; omega), m2.2.2.2.fm hf2 (by unfold FtM; omega) (fun a j q1 q2 => by unfold FtM; omega)⟩, pmZ m3 w2 hN1 (fun a j q => by unfold FtM; omega), pmU m4 w2 hN1 (fun a j q => by unfold FtM; omega), pmR m5 w2 hN1 (fun a j q => by unfold FtM; omega), pmV m6 w2 hN1 (fun a j q => by unfold FtM; omega), pmI m7 w2 hN1 (fun a j q => by unfold FtM; omega), pmT m8 w2 hN1 (fun a j q => by unfold FtM; omega), pmB m9 w2 hN1 (fun a j q => by unfold FtM; omega), pmF m10 w2 hN1 (fun a j q => by unfold FtM; omega), pmQ m11 w2 hN1 (fun a j q => by unfold FtM; omega), pmW m12 w2 hN1 (fun a j q => by unfold FtM; omega)⟩⟩
theorem st_dead {l : Launch} {g : kx_G} {k : Nat} {h : kx_Mem} (hk : k < 512) (hG : Glob k h) (a1 a2 : Int32) : Bth l g m_Tc_dead m_Mo_dead [.int a1, .int a2] k h 0 0 := by
  obtain ⟨D, A, U, rs, AV, DV, V, u, td, s1, s2, b, n, B, M, K, pu, f0, f1, nw, T, z, i, c, m⟩ := hG
  obtain ⟨i1, i2, i3, ⟨i4a, i4b, i4c, i4d⟩, i5, i6, ⟨i7a, i7b⟩, ⟨i8, i9, i10⟩, i11, i12, i13⟩ := id i
  obtain ⟨c1, ⟨c2, c2x⟩, c3, c4, c5, c6, c7, c8, c9, c10⟩ := id c
  refine kx_Sp.imp (x_Tc_dead (d := 28) c1 D.1 i1.1 c2.1 td i4b c6.2.1 a1 a2) (fun v h1 hq => ?_)
  rcases hq with ⟨e1, rfl, he⟩ | ⟨e1, e2, rfl, he⟩ | ⟨e1, e2, rfl, po, cp, hf⟩
  · rw [he]
    obtain ⟨m1, m2, m3, m4, m5, m6, m7, m8, m9, m10, m11, m12⟩ := id m
    refine ⟨_, rfl, m1.k 0 rfl, kx_Sp.imp (y_dead (d := 28) m1 D.1 i1.1 m2.1 td i4b m7.2.1 a1 a2) (fun v2 h2 hq2 => ?_)⟩
    rcases hq2 with ⟨p1, rfl, he2⟩ | ⟨p1, p2, -, -⟩ | ⟨p1, p2, -, -⟩
    · rw [he2]
      exact ⟨rfl, D, A, U, rs, AV, DV, V, u, td, s1, s2, b, n, B, M, K, pu, f0, f1, nw, T, z, i.up hk (by omega) (by omega), c, m⟩
    · exact absurd p1 e1
    · exact absurd p1 e1
  · rw [he]
    obtain ⟨m1, m2, m3, m4, m5, m6, m7, m8, m9, m10, m11, m12⟩ := id m
    refine ⟨_, rfl, m1.k 0 rfl, kx_Sp.imp (y_dead (d := 28) m1 D.1 i1.1 m2.1 td i4b m7.2.1 a1 a2) (fun v2 h2 hq2 => ?_)⟩
    rcases hq2 with ⟨p1, -, -⟩ | ⟨p1, p2, rfl, he2⟩ | ⟨p1, p2, -, -⟩
    · exact absurd e1 p1
    · rw [he2]
      exact ⟨rfl, D, A, U, rs, AV, DV, V, u, td, s1, s2, b, n, B, M, K, pu, f0, f1, nw, T, z, i.up hk (by omega) (by omega), c, m⟩
    · omega
  · skip
    have w := hf.gw (Z := nvr)
    have hc1 : h1.2.2.2.2 = h.2.2.2.2 := by rw [hf.1]
    have hN1 : 154 ≤ h1.2.2.2.2 := by omega
    have hN2 : h1.2.2.2.2 < 1000000 := by omega
    have mm := m.fx w i11 (fun a j q => by unfold FtC at q; unfold pC; omega) (fun a j q => by exact q.elim) (fun _ _ q => q.elim)
    have ck := pcK c2 c2x w (fun a j q => ⟨by unfold FtC; omega, id, id⟩)
    have cc : gC (((psT D.1 1 a1.toNatClampNeg td a2.toNatClampNeg 0), D.2)) A U rs AV DV V u td s1 s2 b n B M K pu f0 f1 h1 := ⟨pcS0 c1 w i11, ⟨⟨cp, pcTS c2.2.1 w i11 (fun a j q => by unfold FtC; omega), ck⟩, c2x.gw w⟩, pcU c3 w i11 (fun a j q => by unfold FtC; omega), pcR c4 w i11 (fun a j q => by unfold FtC; omega), pcV c5 w i11 (fun a j q => ⟨by unfold FtC; omega, id⟩) ⟨id, fun _ => id⟩, pcI c6 w i11 (fun a j q => by unfold FtC; omega), pcT c7 w i11 (fun a j q => by unfold FtC; omega), pcB c8 w i11 (fun a j q => by unfold FtC; omega), pcF c9 w i11 (fun a j q => by unfold FtC; omega), pcQ c10 w i11 (fun a j q => by unfold FtC; omega)⟩
    clear m
    obtain ⟨m1, m2, m3, m4, m5, m6, m7, m8, m9, m10, m11, m12⟩ := id mm
    refine ⟨_, rfl, m1.k 0 rfl, kx_Sp.imp (y_dead (d := 28) m1 D.1 i1.1 m2.1 td i4b m7.2.1 a1 a2) (fun v2 h2 hq2 => ?_)⟩
    rcases hq2 with ⟨p1, -, -⟩ | ⟨p1, p2, -, -⟩ | ⟨p1, p2, rfl, po2, mp, hf2⟩
    · exact absurd e1 p1
    · omega
    · skip
      have w2 := hf2.gw (Z := nvr)
      have hc2 : h2.2.2.2.2 = h1.2.2.2.2 := by rw [hf2.1]
      exact ⟨rfl, ((psT D.1 1 a1.toNatClampNeg td a2.toNatClampNeg 0), D.2), A, U, rs, AV, DV, V, u, td, s1, s2, b, n, B, M, K, pu, f0, f1, nw, T, z, ⟨⟨po, i1.2.1, i1.2.2.1, i1.2.2.2⟩, i2, i3, ⟨i4a, i4b, i4c, i4d⟩, i5, i6, ⟨i7a, i7b⟩, ⟨i8, i9, by omega⟩, by omega, by omega, hk⟩, (cc.fy w2 hN1 (fun a j q => by unfold FtM at q; unfold pM; omega) (fun a j q => by exact q.elim)), ⟨pmS m1 w2 hN1 (fun a j q1 q2 => id), ⟨mp, m2.2.1.fc hf2 (by unfold FtM; omega) (fun a q1 q2 j => by unfold FtM; omega), m2.2.2.1.fm hf2 (by unfold FtM; omega) (fun a j q1 q2 => by unfold FtM; omega), m2.2.2.2.fm hf2 (by unfold FtM; omega) (fun a j q1 q2 => by unfold FtM; omega)⟩, pmZ m3 w2 hN1 (fun a j q => by unfold FtM; omega), pmU m4 w2 hN1 (fun a j q => by unfold FtM; omega), pmR m5 w2 hN1 (fun a j q => by unfold FtM; omega), pmV m6 w2 hN1 (fun a j q => by unfold FtM; omega), pmI m7 w2 hN1 (fun a j q => by unfold FtM; omega), pmT m8 w2 hN1 (fun a j q => by unfold FtM; omega), pmB m9 w2 hN1 (fun a j q => by unfold FtM; omega), pmF m10 w2 hN1 (fun a j q => by unfold FtM; omega), pmQ m11 w2 hN1 (fun a j q => by unfold FtM; omega), pmW m12 w2 hN1 (fun a j q => by unfold FtM; omega)⟩⟩
theorem st_heir {l : Launch} {g : kx_G} {k : Nat} {h : kx_Mem} (hk : k < 512) (hG : Glob k h) (a1 a2 a3 : Int32) : Bth l g m_Tc_heir m_Mo_heir [.int a1, .int a2, .int a3] k h 0 0 := by
  obtain ⟨D, A, U, rs, AV, DV, V, u, td, s1, s2, b, n, B, M, K, pu, f0, f1, nw, T, z, i, c, m⟩ := hG
  obtain ⟨i1, i2, i3, ⟨i4a, i4b, i4c, i4d⟩, i5, i6, ⟨i7a, i7b⟩, ⟨i8, i9, i10⟩, i11, i12, i13⟩ := id i
  obtain ⟨c1, ⟨c2, c2x⟩, c3, c4, c5, c6, c7, c8, c9, c10⟩ := id c
  refine kx_Sp.imp (x_Tc_heir (d := 28) c1 D.1 i1.1 c2.1 td i4b c6.2.1 a1 a2 a3) (fun v h1 hq => ?_)
  rcases hq with ⟨e1, rfl, he⟩ | ⟨e1, e2, rfl, he⟩ | ⟨e1, e2, rfl, po, cp, hf⟩
  · rw [he]
    obtain ⟨m1, m2, m3, m4, m5, m6, m7, m8, m9, m10, m11, m12⟩ := id m
    refine ⟨_, rfl, m1.k 0 rfl, kx_Sp.imp (y_heir (d := 28) m1 D.1 i1.1 m2.1 td i4b m7.2.1 a1 a2 a3) (fun v2 h2 hq2 => ?_)⟩
    rcases hq2 with ⟨p1, rfl, he2⟩ | ⟨p1, p2, -, -⟩ | ⟨p1, p2, -, -⟩
    · rw [he2]
      exact ⟨rfl, D, A, U, rs, AV, DV, V, u, td, s1, s2, b, n, B, M, K, pu, f0, f1, nw, T, z, i.up hk (by omega) (by omega), c, m⟩
    · exact absurd p1 e1
    · exact absurd p1 e1
  · rw [he]
    obtain ⟨m1, m2, m3, m4, m5, m6, m7, m8, m9, m10, m11, m12⟩ := id m
    refine ⟨_, rfl, m1.k 0 rfl, kx_Sp.imp (y_heir (d := 28) m1 D.1 i1.1 m2.1 td i4b m7.2.1 a1 a2 a3) (fun v2 h2 hq2 => ?_)⟩
    rcases hq2 with ⟨p1, -, -⟩ | ⟨p1, p2, rfl, he2⟩ | ⟨p1, p2, -, -⟩
    · exact absurd e1 p1
    · rw [he2]
      exact ⟨rfl, D, A, U, rs, AV, DV, V, u, td, s1, s2, b, n, B, M, K, pu, f0, f1, nw, T, z, i.up hk (by omega) (by omega), c, m⟩
    · omega
  · skip
    have w := hf.gw (Z := nvr)
    have hc1 : h1.2.2.2.2 = h.2.2.2.2 := by rw [hf.1]
    have hN1 : 154 ≤ h1.2.2.2.2 := by omega
    have hN2 : h1.2.2.2.2 < 1000000 := by omega
    have mm := m.fx w i11 (fun a j q => by unfold FtC at q; unfold pC; omega) (fun a j q => by exact q.elim) (fun _ _ q => q.elim)
    have ck := pcK c2 c2x w (fun a j q => ⟨by unfold FtC; omega, id, id⟩)
    have cc : gC (((psT D.1 2 a1.toNatClampNeg td a2.toNatClampNeg a3.toNatClampNeg), D.2)) A U rs AV DV V u td s1 s2 b n B M K pu f0 f1 h1 := ⟨pcS0 c1 w i11, ⟨⟨cp, pcTS c2.2.1 w i11 (fun a j q => by unfold FtC; omega), ck⟩, c2x.gw w⟩, pcU c3 w i11 (fun a j q => by unfold FtC; omega), pcR c4 w i11 (fun a j q => by unfold FtC; omega), pcV c5 w i11 (fun a j q => ⟨by unfold FtC; omega, id⟩) ⟨id, fun _ => id⟩, pcI c6 w i11 (fun a j q => by unfold FtC; omega), pcT c7 w i11 (fun a j q => by unfold FtC; omega), pcB c8 w i11 (fun a j q => by unfold FtC; omega), pcF c9 w i11 (fun a j q => by unfold FtC; omega), pcQ c10 w i11 (fun a j q => by unfold FtC; omega)⟩
    clear m
    obtain ⟨m1, m2, m3, m4, m5, m6, m7, m8, m9, m10, m11, m12⟩ := id mm
    refine ⟨_, rfl, m1.k 0 rfl, kx_Sp.imp (y_heir (d := 28) m1 D.1 i1.1 m2.1 td i4b m7.2.1 a1 a2 a3) (fun v2 h2 hq2 => ?_)⟩
    rcases hq2 with ⟨p1, -, -⟩ | ⟨p1, p2, -, -⟩ | ⟨p1, p2, rfl, po2, mp, hf2⟩
    · exact absurd e1 p1
    · omega
    · skip
      have w2 := hf2.gw (Z := nvr)
      have hc2 : h2.2.2.2.2 = h1.2.2.2.2 := by rw [hf2.1]
      exact ⟨rfl, ((psT D.1 2 a1.toNatClampNeg td a2.toNatClampNeg a3.toNatClampNeg), D.2), A, U, rs, AV, DV, V, u, td, s1, s2, b, n, B, M, K, pu, f0, f1, nw, T, z, ⟨⟨po, i1.2.1, i1.2.2.1, i1.2.2.2⟩, i2, i3, ⟨i4a, i4b, i4c, i4d⟩, i5, i6, ⟨i7a, i7b⟩, ⟨i8, i9, by omega⟩, by omega, by omega, hk⟩, (cc.fy w2 hN1 (fun a j q => by unfold FtM at q; unfold pM; omega) (fun a j q => by exact q.elim)), ⟨pmS m1 w2 hN1 (fun a j q1 q2 => id), ⟨mp, m2.2.1.fc hf2 (by unfold FtM; omega) (fun a q1 q2 j => by unfold FtM; omega), m2.2.2.1.fm hf2 (by unfold FtM; omega) (fun a j q1 q2 => by unfold FtM; omega), m2.2.2.2.fm hf2 (by unfold FtM; omega) (fun a j q1 q2 => by unfold FtM; omega)⟩, pmZ m3 w2 hN1 (fun a j q => by unfold FtM; omega), pmU m4 w2 hN1 (fun a j q => by unfold FtM; omega), pmR m5 w2 hN1 (fun a j q => by unfold FtM; omega), pmV m6 w2 hN1 (fun a j q => by unfold FtM; omega), pmI m7 w2 hN1 (fun a j q => by unfold FtM; omega), pmT m8 w2 hN1 (fun a j q => by unfold FtM; omega), pmB m9 w2 hN1 (fun a j q => by unfold FtM; omega), pmF m10 w2 hN1 (fun a j q => by unfold FtM; omega), pmQ m11 w2 hN1 (fun a j q => by unfold FtM; omega), pmW m12 w2 hN1 (fun a j q => by unfold FtM; omega)⟩⟩
theorem st_rate {l : Launch} {g : kx_G} {k : Nat} {h : kx_Mem} (hk : k < 512) (hG : Glob k h) (a1 a2 a3 : Int32) : Bth l g m_Tc_rate m_Mo_rate [.int a1, .int a2, .int a3] k h 0 0 := by
  obtain ⟨D, A, U, rs, AV, DV, V, u, td, s1, s2, b, n, B, M, K, pu, f0, f1, nw, T, z, i, c, m⟩ := hG
  obtain ⟨i1, i2, i3, ⟨i4a, i4b, i4c, i4d⟩, i5, i6, ⟨i7a, i7b⟩, ⟨i8, i9, i10⟩, i11, i12, i13⟩ := id i
  obtain ⟨c1, ⟨c2, c2x⟩, c3, c4, c5, c6, c7, c8, c9, c10⟩ := id c
  refine kx_Sp.imp (x_Tc_rate (d := 28) c1 rs i2 c4 a1 a2 a3) (fun v h1 hq => ?_)
  rcases hq with ⟨e1, rfl, he⟩ | ⟨e1, e2, rfl, he⟩ | ⟨e1, e2, rfl, po, cp, hf⟩
  · rw [he]
    obtain ⟨m1, m2, m3, m4, m5, m6, m7, m8, m9, m10, m11, m12⟩ := id m
    refine ⟨_, rfl, m1.k 0 rfl, kx_Sp.imp (y_rate (d := 28) m1 rs i2 m5 a1 a2 a3) (fun v2 h2 hq2 => ?_)⟩
    rcases hq2 with ⟨p1, rfl, he2⟩ | ⟨p1, p2, -, -⟩ | ⟨p1, p2, -, -⟩
    · rw [he2]
      exact ⟨rfl, D, A, U, rs, AV, DV, V, u, td, s1, s2, b, n, B, M, K, pu, f0, f1, nw, T, z, i.up hk (by omega) (by omega), c, m⟩
    · exact absurd p1 e1
    · exact absurd p1 e1
  · rw [he]
    obtain ⟨m1, m2, m3, m4, m5, m6, m7, m8, m9, m10, m11, m12⟩ := id m
    refine ⟨_, rfl, m1.k 0 rfl, kx_Sp.imp (y_rate (d := 28) m1 rs i2 m5 a1 a2 a3) (fun v2 h2 hq2 => ?_)⟩
    rcases hq2 with ⟨p1, -, -⟩ | ⟨p1, p2, rfl, he2⟩ | ⟨p1, p2, -, -⟩
    · exact absurd e1 p1
    · rw [he2]
      exact ⟨rfl, D, A, U, rs, AV, DV, V, u, td, s1, s2, b, n, B, M, K, pu, f0, f1, nw, T, z, i.up hk (by omega) (by omega), c, m⟩
    · omega
  · skip
    have w := hf.gw (Z := nvr)
    have hc1 : h1.2.2.2.2 = h.2.2.2.2 := by rw [hf.1]
    have hN1 : 154 ≤ h1.2.2.2.2 := by omega
    have hN2 : h1.2.2.2.2 < 1000000 := by omega
    have mm := m.fx w i11 (fun a j q => by unfold rsFC at q; unfold pC; omega) (fun a j q => by exact q.elim) (fun _ _ q => q.elim)
    have cc : gC D A U ((rsT rs a1.toNatClampNeg a2.toNatClampNeg a3.toNatClampNeg)) AV DV V u td s1 s2 b n B M K pu f0 f1 h1 := ⟨pcS0 c1 w i11, pcD ⟨c2, c2x⟩ w (fun a j q => ⟨by unfold rsFC; omega, id⟩), pcU c3 w i11 (fun a j q => by unfold rsFC; omega), cp, pcV c5 w i11 (fun a j q => ⟨by unfold rsFC; omega, id⟩) ⟨id, fun _ => id⟩, pcI c6 w i11 (fun a j q => by unfold rsFC; omega), pcT c7 w i11 (fun a j q => by unfold rsFC; omega), pcB c8 w i11 (fun a j q => by unfold rsFC; omega), pcF c9 w i11 (fun a j q => by unfold rsFC; omega), pcQ c10 w i11 (fun a j q => by unfold rsFC; omega)⟩
    clear m
    obtain ⟨m1, m2, m3, m4, m5, m6, m7, m8, m9, m10, m11, m12⟩ := id mm
    refine ⟨_, rfl, m1.k 0 rfl, kx_Sp.imp (y_rate (d := 28) m1 rs i2 m5 a1 a2 a3) (fun v2 h2 hq2 => ?_)⟩
    rcases hq2 with ⟨p1, -, -⟩ | ⟨p1, p2, -, -⟩ | ⟨p1, p2, rfl, po2, mp, hf2⟩
    · exact absurd e1 p1
    · omega
    · skip
      have w2 := hf2.gw (Z := nvr)
      have hc2 : h2.2.2.2.2 = h1.2.2.2.2 := by rw [hf2.1]
      exact ⟨rfl, D, A, U, (rsT rs a1.toNatClampNeg a2.toNatClampNeg a3.toNatClampNeg), AV, DV, V, u, td, s1, s2, b, n, B, M, K, pu, f0, f1, nw, T, z, ⟨i1, po, i3, ⟨i4a, i4b, i4c, i4d⟩, i5, i6, ⟨i7a, i7b⟩, ⟨i8, i9, by omega⟩, by omega, by omega, hk⟩, (cc.fy w2 hN1 (fun a j q => by unfold rsFM at q; unfold pM; omega) (fun a j q => by exact q.elim)), ⟨pmS m1 w2 hN1 (fun a j q1 q2 => id), pmD m2 w2 hN1 (fun a j q => by unfold rsFM; omega), pmZ m3 w2 hN1 (fun a j q => by unfold rsFM; omega), pmU m4 w2 hN1 (fun a j q => by unfold rsFM; omega), mp, pmV m6 w2 hN1 (fun a j q => by unfold rsFM; omega), pmI m7 w2 hN1 (fun a j q => by unfold rsFM; omega), pmT m8 w2 hN1 (fun a j q => by unfold rsFM; omega), pmB m9 w2 hN1 (fun a j q => by unfold rsFM; omega), pmF m10 w2 hN1 (fun a j q => by unfold rsFM; omega), pmQ m11 w2 hN1 (fun a j q => by unfold rsFM; omega), pmW m12 w2 hN1 (fun a j q => by unfold rsFM; omega)⟩⟩
theorem st_thing {l : Launch} {g : kx_G} {k : Nat} {h : kx_Mem} (hk : k < 512) (hG : Glob k h) (a1 a2 a3 : Int32) : Bth l g m_Tc_thing m_Mo_thing [.int a1, .int a2, .int a3] k h 0 0 := by
  obtain ⟨D, A, U, rs, AV, DV, V, u, td, s1, s2, b, n, B, M, K, pu, f0, f1, nw, T, z, i, c, m⟩ := hG
  obtain ⟨i1, i2, i3, ⟨i4a, i4b, i4c, i4d⟩, i5, i6, ⟨i7a, i7b⟩, ⟨i8, i9, i10⟩, i11, i12, i13⟩ := id i
  obtain ⟨c1, ⟨c2, c2x⟩, c3, c4, c5, c6, c7, c8, c9, c10⟩ := id c
  refine kx_Sp.imp (x_Tc_thing (d := 28) c1 D.2.1 i1.2.1 c2.2.1 td i4b c6.2.1 a1 a2 a3) (fun v h1 hq => ?_)
  rcases hq with ⟨e1, rfl, he⟩ | ⟨e1, e2, rfl, he⟩ | ⟨e1, e2, rfl, po, cp, hf⟩
  · rw [he]
    obtain ⟨m1, m2, m3, m4, m5, m6, m7, m8, m9, m10, m11, m12⟩ := id m
    refine ⟨_, rfl, m1.k 0 rfl, kx_Sp.imp (y_thing (d := 28) m1 D.2.1 i1.2.1 m2.2.1 td i4b m7.2.1 a1 a2 a3) (fun v2 h2 hq2 => ?_)⟩
    rcases hq2 with ⟨p1, rfl, he2⟩ | ⟨p1, p2, -, -⟩ | ⟨p1, p2, -, -⟩
    · rw [he2]
      exact ⟨rfl, D, A, U, rs, AV, DV, V, u, td, s1, s2, b, n, B, M, K, pu, f0, f1, nw, T, z, i.up hk (by omega) (by omega), c, m⟩
    · exact absurd p1 e1
    · exact absurd p1 e1
  · rw [he]
    obtain ⟨m1, m2, m3, m4, m5, m6, m7, m8, m9, m10, m11, m12⟩ := id m
    refine ⟨_, rfl, m1.k 0 rfl, kx_Sp.imp (y_thing (d := 28) m1 D.2.1 i1.2.1 m2.2.1 td i4b m7.2.1 a1 a2 a3) (fun v2 h2 hq2 => ?_)⟩
    rcases hq2 with ⟨p1, -, -⟩ | ⟨p1, p2, rfl, he2⟩ | ⟨p1, p2, -, -⟩
    · exact absurd e1 p1
    · rw [he2]
      exact ⟨rfl, D, A, U, rs, AV, DV, V, u, td, s1, s2, b, n, B, M, K, pu, f0, f1, nw, T, z, i.up hk (by omega) (by omega), c, m⟩
    · omega
  · skip
    have w := hf.gw (Z := nvr)
    have hc1 : h1.2.2.2.2 = h.2.2.2.2 := by rw [hf.1]
    have hN1 : 154 ≤ h1.2.2.2.2 := by omega
    have hN2 : h1.2.2.2.2 < 1000000 := by omega
    have mm := m.fx w i11 (fun a j q => by unfold tsFC at q; unfold pC; omega) (fun a j q => by exact q.elim) (fun _ _ q => q.elim)
    have ck := pcK c2 c2x w (fun a j q => ⟨by unfold tsFC; omega, id, id⟩)
    have cc : gC ((D.1, tsT D.2.1 a1.toNatClampNeg a2.toNatClampNeg a3.toNatClampNeg, D.2.2)) A U rs AV DV V u td s1 s2 b n B M K pu f0 f1 h1 := ⟨pcS0 c1 w i11, ⟨⟨pcPS c2.1 w i11 (fun a j q => by unfold tsFC; omega), cp, ck⟩, c2x.gw w⟩, pcU c3 w i11 (fun a j q => by unfold tsFC; omega), pcR c4 w i11 (fun a j q => by unfold tsFC; omega), pcV c5 w i11 (fun a j q => ⟨by unfold tsFC; omega, id⟩) ⟨id, fun _ => id⟩, pcI c6 w i11 (fun a j q => by unfold tsFC; omega), pcT c7 w i11 (fun a j q => by unfold tsFC; omega), pcB c8 w i11 (fun a j q => by unfold tsFC; omega), pcF c9 w i11 (fun a j q => by unfold tsFC; omega), pcQ c10 w i11 (fun a j q => by unfold tsFC; omega)⟩
    clear m
    obtain ⟨m1, m2, m3, m4, m5, m6, m7, m8, m9, m10, m11, m12⟩ := id mm
    refine ⟨_, rfl, m1.k 0 rfl, kx_Sp.imp (y_thing (d := 28) m1 D.2.1 i1.2.1 m2.2.1 td i4b m7.2.1 a1 a2 a3) (fun v2 h2 hq2 => ?_)⟩
    rcases hq2 with ⟨p1, -, -⟩ | ⟨p1, p2, -, -⟩ | ⟨p1, p2, rfl, po2, mp, hf2⟩
    · exact absurd e1 p1
    · omega
    · skip
      have w2 := hf2.gw (Z := nvr)
      have hc2 : h2.2.2.2.2 = h1.2.2.2.2 := by rw [hf2.1]
      have tsd : ∀ q, q < D.2.1.1 + 1 → upF D.2.1.2.1 D.2.1.1 a1.toNatClampNeg q ≤ td := fun q hq => by
        obtain ⟨y, hy, -, ey⟩ := valU (n := td) (by omega) e1.1
        unfold upF
        split
        · rw [ey, nI_clamp (by omega)]; exact hy
        · exact i7b q (by omega)
      exact ⟨rfl, (D.1, tsT D.2.1 a1.toNatClampNeg a2.toNatClampNeg a3.toNatClampNeg, D.2.2), A, U, rs, AV, DV, V, u, td, s1, s2, b, n, B, M, K, pu, f0, f1, nw, T, z, ⟨⟨i1.1, po, i1.2.2.1.ts, i1.2.2.2⟩, i2, i3, ⟨i4a, i4b, i4c, i4d⟩, i5, i6, ⟨i7a, tsd⟩, ⟨i8, i9, by omega⟩, by omega, by omega, hk⟩, (cc.fy w2 hN1 (fun a j q => by unfold tsFM at q; unfold pM; omega) (fun a j q => by exact q.elim)), ⟨pmS m1 w2 hN1 (fun a j q1 q2 => id), ⟨m2.1.fm hf2 (by unfold tsFM; omega) (by unfold tsFM; omega) (fun a j q1 q2 => by unfold tsFM; omega), mp, m2.2.2.1.fm hf2 (by unfold tsFM; omega) (fun a j q1 q2 => by unfold tsFM; omega), m2.2.2.2.fm hf2 (by unfold tsFM; omega) (fun a j q1 q2 => by unfold tsFM; omega)⟩, pmZ m3 w2 hN1 (fun a j q => by unfold tsFM; omega), pmU m4 w2 hN1 (fun a j q => by unfold tsFM; omega), pmR m5 w2 hN1 (fun a j q => by unfold tsFM; omega), pmV m6 w2 hN1 (fun a j q => by unfold tsFM; omega), pmI m7 w2 hN1 (fun a j q => by unfold tsFM; omega), pmT m8 w2 hN1 (fun a j q => by unfold tsFM; omega), pmB m9 w2 hN1 (fun a j q => by unfold tsFM; omega), pmF m10 w2 hN1 (fun a j q => by unfold tsFM; omega), pmQ m11 w2 hN1 (fun a j q => by unfold tsFM; omega), pmW m12 w2 hN1 (fun a j q => by unfold tsFM; omega)⟩⟩
theorem st_sides {l : Launch} {g : kx_G} {k : Nat} {h : kx_Mem} (hk : k < 512) (hG : Glob k h) (a1 a2 : Int32) : Bth l g m_Tc_sides m_Mo_sides [.int a1, .int a2] k h 0 0 := by
  obtain ⟨D, A, U, rs, AV, DV, V, u, td, s1, s2, b, n, B, M, K, pu, f0, f1, nw, T, z, i, c, m⟩ := hG
  obtain ⟨i1, i2, i3, ⟨i4a, i4b, i4c, i4d⟩, i5, i6, ⟨i7a, i7b⟩, ⟨i8, i9, i10⟩, i11, i12, i13⟩ := id i
  obtain ⟨c1, ⟨c2, c2x⟩, c3, c4, c5, c6, c7, c8, c9, c10⟩ := id c
  refine kx_Sp.imp (x_Tc_sides (d := 29) c1 a1 a2) (fun v h1 hq => ?_)
  rcases hq with ⟨e1, rfl, he⟩ | ⟨e1, rfl, he⟩
  · obtain ⟨x1, hx1, -, rfl⟩ := valU (n := 3) (by decide) e1.1
    obtain ⟨x2, hx2, -, rfl⟩ := valU (n := 3) (by decide) e1.2.1
    have hf : kx_Fc (Ftwo 0 11 12) h h1 := by rw [he]; exact (kx_Fc.set ⟨rfl, Or.inl rfl⟩).tr (kx_Fc.set ⟨rfl, Or.inr rfl⟩)
    have w := hf.gw (Z := nvr)
    have hc1 : h1.2.2.2.2 = h.2.2.2.2 := by rw [hf.1]
    have hN1 : 154 ≤ h1.2.2.2.2 := by omega
    have hN2 : h1.2.2.2.2 < 1000000 := by omega
    have mm := m.fx w i11 (fun a j q => by unfold Ftwo at q; unfold pC; omega) (fun a j q => by exact q.elim) (fun _ _ q => q.elim)
    have cc : gC D A U rs AV DV V u td x1 x2 b n B M K pu f0 f1 h1 := ⟨pcS0 c1 w i11, pcD ⟨c2, c2x⟩ w (fun a j q => ⟨by unfold Ftwo; omega, id⟩), pcU c3 w i11 (fun a j q => by unfold Ftwo; omega), pcR c4 w i11 (fun a j q => by unfold Ftwo; omega), pcV c5 w i11 (fun a j q => ⟨by unfold Ftwo; omega, id⟩) ⟨id, fun _ => id⟩, ⟨(w.p i11 (by decide) (by unfold Ftwo; omega)).trans c6.1, (w.p i11 (by decide) (by unfold Ftwo; omega)).trans c6.2.1, by rw [he, setI_ne (Or.inr (by decide))]; exact setI_at, by rw [he]; exact setI_at⟩, pcT c7 w i11 (fun a j q => by unfold Ftwo; omega), pcB c8 w i11 (fun a j q => by unfold Ftwo; omega), pcF c9 w i11 (fun a j q => by unfold Ftwo; omega), pcQ c10 w i11 (fun a j q => by unfold Ftwo; omega)⟩
    clear m
    obtain ⟨m1, m2, m3, m4, m5, m6, m7, m8, m9, m10, m11, m12⟩ := id mm
    refine ⟨_, rfl, m1.k 0 rfl, kx_Sp.imp (y_sides (d := 28) m1 (nI x1) (nI x2)) (fun v2 h2 hq2 => ?_)⟩
    rcases hq2 with ⟨p1, rfl, he2⟩ | ⟨p1, -, -⟩
    · have hf2 : kx_Fc (Ftwo 84 37 38) h1 h2 := by rw [he2]; exact (kx_Fc.set ⟨rfl, Or.inl rfl⟩).tr (kx_Fc.set ⟨rfl, Or.inr rfl⟩)
      have w2 := hf2.gw (Z := nvr)
      have hc2 : h2.2.2.2.2 = h1.2.2.2.2 := by rw [hf2.1]
      exact ⟨rfl, D, A, U, rs, AV, DV, V, u, td, x1, x2, b, n, B, M, K, pu, f0, f1, nw, T, z, ⟨i1, i2, i3, ⟨i4a, i4b, hx1, hx2⟩, i5, i6, ⟨i7a, i7b⟩, ⟨i8, i9, by omega⟩, by omega, by omega, hk⟩, (cc.fy w2 hN1 (fun a j q => by unfold Ftwo at q; unfold pM; omega) (fun a j q => by exact q.elim)), ⟨pmS m1 w2 hN1 (fun a j q1 q2 => id), pmD m2 w2 hN1 (fun a j q => by unfold Ftwo; omega), pmZ m3 w2 hN1 (fun a j q => by unfold Ftwo; omega), pmU m4 w2 hN1 (fun a j q => by unfold Ftwo; omega), pmR m5 w2 hN1 (fun a j q => by unfold Ftwo; omega), pmV m6 w2 hN1 (fun a j q => by unfold Ftwo; omega), ⟨(w2.p hN1 (by decide) (by unfold Ftwo; omega)).trans m7.1, (w2.p hN1 (by decide) (by unfold Ftwo; omega)).trans m7.2.1, by rw [he2, setI_ne (Or.inr (by decide))]; exact setI_at, by rw [he2]; exact setI_at⟩, pmT m8 w2 hN1 (fun a j q => by unfold Ftwo; omega), pmB m9 w2 hN1 (fun a j q => by unfold Ftwo; omega), pmF m10 w2 hN1 (fun a j q => by unfold Ftwo; omega), pmQ m11 w2 hN1 (fun a j q => by unfold Ftwo; omega), pmW m12 w2 hN1 (fun a j q => by unfold Ftwo; omega)⟩⟩
    · exact absurd e1 p1
  · rw [he]
    obtain ⟨m1, m2, m3, m4, m5, m6, m7, m8, m9, m10, m11, m12⟩ := id m
    refine ⟨_, rfl, m1.k 0 rfl, kx_Sp.imp (y_sides (d := 28) m1 a1 a2) (fun v2 h2 hq2 => ?_)⟩
    rcases hq2 with ⟨p1, -, -⟩ | ⟨p1, rfl, he2⟩
    · exact absurd p1 e1
    · rw [he2]
      exact ⟨rfl, D, A, U, rs, AV, DV, V, u, td, s1, s2, b, n, B, M, K, pu, f0, f1, nw, T, z, i.up hk (by omega) (by omega), c, m⟩
theorem st_force {l : Launch} {g : kx_G} {k : Nat} {h : kx_Mem} (hk : k < 512) (hG : Glob k h) (a1 : Int32) : Bth l g m_Tc_force m_Mo_force [.int a1] k h 0 0 := by
  obtain ⟨D, A, U, rs, AV, DV, V, u, td, s1, s2, b, n, B, M, K, pu, f0, f1, nw, T, z, i, c, m⟩ := hG
  obtain ⟨i1, i2, i3, ⟨i4a, i4b, i4c, i4d⟩, i5, i6, ⟨i7a, i7b⟩, ⟨i8, i9, i10⟩, i11, i12, i13⟩ := id i
  obtain ⟨c1, ⟨c2, c2x⟩, c3, c4, c5, c6, c7, c8, c9, c10⟩ := id c
  refine kx_Sp.imp (x_Tc_force (d := 29) c1 a1) (fun v h1 hq => ?_)
  rcases hq with ⟨e1, rfl, he⟩ | ⟨e1, rfl, he⟩
  · obtain ⟨x1, hx1, rfl⟩ := vrs_n e1
    have hf : kx_Fc (Fone 0 10) h h1 := by rw [he]; exact kx_Fc.set ⟨rfl, rfl⟩
    have w := hf.gw (Z := nvr)
    have hc1 : h1.2.2.2.2 = h.2.2.2.2 := by rw [hf.1]
    have hN1 : 154 ≤ h1.2.2.2.2 := by omega
    have hN2 : h1.2.2.2.2 < 1000000 := by omega
    have mm := m.fx w i11 (fun a j q => by unfold Fone at q; unfold pC; omega) (fun a j q => by exact q.elim) (fun _ _ q => q.elim)
    have cc : gC D A U rs AV DV V x1 td s1 s2 b n B M K pu f0 f1 h1 := ⟨pcS0 c1 w i11, pcD ⟨c2, c2x⟩ w (fun a j q => ⟨by unfold Fone; omega, id⟩), pcU c3 w i11 (fun a j q => by unfold Fone; omega), pcR c4 w i11 (fun a j q => by unfold Fone; omega), pcV c5 w i11 (fun a j q => ⟨by unfold Fone; omega, id⟩) ⟨id, fun _ => id⟩, ⟨by rw [he]; exact setI_at, (w.p i11 (by decide) (by unfold Fone; omega)).trans c6.2.1, (w.p i11 (by decide) (by unfold Fone; omega)).trans c6.2.2.1, (w.p i11 (by decide) (by unfold Fone; omega)).trans c6.2.2.2⟩, pcT c7 w i11 (fun a j q => by unfold Fone; omega), pcB c8 w i11 (fun a j q => by unfold Fone; omega), pcF c9 w i11 (fun a j q => by unfold Fone; omega), pcQ c10 w i11 (fun a j q => by unfold Fone; omega)⟩
    clear m
    obtain ⟨m1, m2, m3, m4, m5, m6, m7, m8, m9, m10, m11, m12⟩ := id mm
    refine ⟨_, rfl, m1.k 0 rfl, kx_Sp.imp (y_force (d := 28) m1 (nI x1)) (fun v2 h2 hq2 => ?_)⟩
    rcases hq2 with ⟨p1, rfl, he2⟩ | ⟨p1, -, -⟩
    · have hf2 : kx_Fc (Fone 84 31) h1 h2 := by rw [he2]; exact kx_Fc.set ⟨rfl, rfl⟩
      have w2 := hf2.gw (Z := nvr)
      have hc2 : h2.2.2.2.2 = h1.2.2.2.2 := by rw [hf2.1]
      refine ⟨by rw [c6.1, m7.1], D, A, U, rs, AV, DV, V, x1, td, s1, s2, b, n, B, M, K, pu, f0, f1, nw, T, z, ⟨i1, i2, i3, ⟨hx1, i4b, i4c, i4d⟩, i5, i6, ⟨i7a, i7b⟩, ⟨i8, i9, by omega⟩, by omega, by omega, hk⟩, (cc.fy w2 hN1 (fun a j q => by unfold Fone at q; unfold pM; omega) (fun a j q => by exact q.elim)), ⟨pmS m1 w2 hN1 (fun a j q1 q2 => id), pmD m2 w2 hN1 (fun a j q => by unfold Fone; omega), pmZ m3 w2 hN1 (fun a j q => by unfold Fone; omega), pmU m4 w2 hN1 (fun a j q => by unfold Fone; omega), pmR m5 w2 hN1 (fun a j q => by unfold Fone; omega), pmV m6 w2 hN1 (fun a j q => by unfold Fone; omega), ⟨by rw [he2]; exact setI_at, (w2.p hN1 (by decide) (by unfold Fone; omega)).trans m7.2.1, (w2.p hN1 (by decide) (by unfold Fone; omega)).trans m7.2.2.1, (w2.p hN1 (by decide) (by unfold Fone; omega)).trans m7.2.2.2⟩, pmT m8 w2 hN1 (fun a j q => by unfold Fone; omega), pmB m9 w2 hN1 (fun a j q => by unfold Fone; omega), pmF m10 w2 hN1 (fun a j q => by unfold Fone; omega), pmQ m11 w2 hN1 (fun a j q => by unfold Fone; omega), pmW m12 w2 hN1 (fun a j q => by unfold Fone; omega)⟩⟩
    · exact absurd e1 p1
  · rw [he]
    obtain ⟨m1, m2, m3, m4, m5, m6, m7, m8, m9, m10, m11, m12⟩ := id m
    refine ⟨_, rfl, m1.k 0 rfl, kx_Sp.imp (y_force (d := 28) m1 a1) (fun v2 h2 hq2 => ?_)⟩
    rcases hq2 with ⟨p1, -, -⟩ | ⟨p1, rfl, he2⟩
    · exact absurd p1 e1
    · rw [he2]
      exact ⟨rfl, D, A, U, rs, AV, DV, V, u, td, s1, s2, b, n, B, M, K, pu, f0, f1, nw, T, z, i.up hk (by omega) (by omega), c, m⟩
theorem st_umpire {l : Launch} {g : kx_G} {k : Nat} {h : kx_Mem} (hk : k < 512) (hG : Glob k h) (a1 : Int32) (is : Prop) : Bth l g m_Tc_umpire m_Mo_umpire [.int a1, .int (bP is)] k h 0 0 := by
  obtain ⟨D, A, U, rs, AV, DV, V, u, td, s1, s2, b, n, B, M, K, pu, f0, f1, nw, T, z, i, c, m⟩ := hG
  obtain ⟨i1, i2, i3, ⟨i4a, i4b, i4c, i4d⟩, i5, i6, ⟨i7a, i7b⟩, ⟨i8, i9, i10⟩, i11, i12, i13⟩ := id i
  obtain ⟨c1, ⟨c2, c2x⟩, c3, c4, c5, c6, c7, c8, c9, c10⟩ := id c
  refine kx_Sp.imp (x_Tc_umpire (d := 28) c1 D.1 i1.1 c2.1 U c3 a1 is) (fun v h1 hq => ?_)
  rcases hq with ⟨e1, rfl, he⟩ | ⟨e1, rfl, q1, hf⟩
  · rw [he]
    obtain ⟨m1, m2, m3, m4, m5, m6, m7, m8, m9, m10, m11, m12⟩ := id m
    refine ⟨_, rfl, m1.k 0 rfl, kx_Sp.imp (y_umpire (d := 28) m1 D.1 i1.1 m2.1 U m4 a1 is) (fun v2 h2 hq2 => ?_)⟩
    rcases hq2 with ⟨p1, rfl, he2⟩ | ⟨p1, -, -⟩
    · rw [he2]
      exact ⟨rfl, D, A, U, rs, AV, DV, V, u, td, s1, s2, b, n, B, M, K, pu, f0, f1, nw, T, z, i.up hk (by omega) (by omega), c, m⟩
    · exact absurd p1 e1
  · have hf : kx_Fc (Fal 15) h h1 := hf
    have w := hf.gw (Z := nvr)
    have hc1 : h1.2.2.2.2 = h.2.2.2.2 := by rw [hf.1]
    have hN1 : 154 ≤ h1.2.2.2.2 := by omega
    have hN2 : h1.2.2.2.2 < 1000000 := by omega
    have mm := m.fx w i11 (fun a j q => by unfold Fal at q; unfold pC; omega) (fun a j q => by exact q.elim) (fun _ _ q => q.elim)
    have cc : gC D A ((umS U a1.toNatClampNeg is)) rs AV DV V u td s1 s2 b n B M K pu f0 f1 h1 := ⟨pcS0 c1 w i11, pcD ⟨c2, c2x⟩ w (fun a j q => ⟨by unfold Fal; omega, id⟩), q1, pcR c4 w i11 (fun a j q => by unfold Fal; omega), pcV c5 w i11 (fun a j q => ⟨by unfold Fal; omega, id⟩) ⟨id, fun _ => id⟩, pcI c6 w i11 (fun a j q => by unfold Fal; omega), pcT c7 w i11 (fun a j q => by unfold Fal; omega), pcB c8 w i11 (fun a j q => by unfold Fal; omega), pcF c9 w i11 (fun a j q => by unfold Fal; omega), pcQ c10 w i11 (fun a j q => by unfold Fal; omega)⟩
    clear m
    obtain ⟨m1, m2, m3, m4, m5, m6, m7, m8, m9, m10, m11, m12⟩ := id mm
    refine ⟨_, rfl, m1.k 0 rfl, kx_Sp.imp (y_umpire (d := 28) m1 D.1 i1.1 m2.1 U m4 a1 is) (fun v2 h2 hq2 => ?_)⟩
    rcases hq2 with ⟨p1, -, -⟩ | ⟨p1, rfl, q2, hf2⟩
    · exact absurd e1 p1
    · have hf2 : kx_Fc (Fal 117) h1 h2 := hf2
      have w2 := hf2.gw (Z := nvr)
      have hc2 : h2.2.2.2.2 = h1.2.2.2.2 := by rw [hf2.1]
      exact ⟨rfl, D, A, (umS U a1.toNatClampNeg is), rs, AV, DV, V, u, td, s1, s2, b, n, B, M, K, pu, f0, f1, nw, T, z, ⟨i1, i2, i3, ⟨i4a, i4b, i4c, i4d⟩, i5, i6, ⟨i7a, i7b⟩, ⟨i8, i9, by omega⟩, by omega, by omega, hk⟩, (cc.fy w2 hN1 (fun a j q => by unfold Fal at q; unfold pM; omega) (fun a j q => by exact q.elim)), ⟨pmS m1 w2 hN1 (fun a j q1 q2 => id), pmD m2 w2 hN1 (fun a j q => by unfold Fal; omega), pmZ m3 w2 hN1 (fun a j q => by unfold Fal; omega), q2, pmR m5 w2 hN1 (fun a j q => by unfold Fal; omega), pmV m6 w2 hN1 (fun a j q => by unfold Fal; omega), pmI m7 w2 hN1 (fun a j q => by unfold Fal; omega), pmT m8 w2 hN1 (fun a j q => by unfold Fal; omega), pmB m9 w2 hN1 (fun a j q => by unfold Fal; omega), pmF m10 w2 hN1 (fun a j q => by unfold Fal; omega), pmQ m11 w2 hN1 (fun a j q => by unfold Fal; omega), pmW m12 w2 hN1 (fun a j q => by unfold Fal; omega)⟩⟩
theorem st_fund {l : Launch} {g : kx_G} {k : Nat} {h : kx_Mem} (hk : k < 512) (hG : Glob k h) (a1 : Int32) : Bth l g m_Tc_fund m_Mo_fund [.int a1] k h 0 0 := by
  obtain ⟨D, A, U, rs, AV, DV, V, u, td, s1, s2, b, n, B, M, K, pu, f0, f1, nw, T, z, i, c, m⟩ := hG
  obtain ⟨i1, i2, i3, ⟨i4a, i4b, i4c, i4d⟩, i5, i6, ⟨i7a, i7b⟩, ⟨i8, i9, i10⟩, i11, i12, i13⟩ := id i
  obtain ⟨c1, ⟨c2, c2x⟩, c3, c4, c5, c6, c7, c8, c9, c10⟩ := id c
  refine kx_Sp.imp (x_Tc_fund (d := 29) c1 M K i6.1 i6.2.1 c9.1 c9.2.1 a1) (fun v h1 hq => ?_)
  rcases hq with ⟨e1, rfl, he⟩ | ⟨e1, p, rfl, hp9, rfl, he⟩
  · rw [he]
    obtain ⟨m1, m2, m3, m4, m5, m6, m7, m8, m9, m10, m11, m12⟩ := id m
    refine ⟨_, rfl, m1.k 0 rfl, kx_Sp.imp (y_fund (d := 29) m1 M K i6.1 i6.2.1 m10.1 m10.2.1 a1) (fun v2 h2 hq2 => ?_)⟩
    rcases hq2 with ⟨p1, rfl, he2⟩ | ⟨p1, -⟩
    · rw [he2]
      exact ⟨rfl, D, A, U, rs, AV, DV, V, u, td, s1, s2, b, n, B, M, K, pu, f0, f1, nw, T, z, i.up hk (by omega) (by omega), c, m⟩
    · exact absurd p1 e1
  · have hf : kx_Fc (Ftwo 45 2 3) h h1 := by rw [he]; exact (kx_Fc.set ⟨rfl, Or.inl rfl⟩).tr (kx_Fc.set ⟨rfl, Or.inr rfl⟩)
    have w := hf.gw (Z := nvr)
    have hc1 : h1.2.2.2.2 = h.2.2.2.2 := by rw [hf.1]
    have hN1 : 154 ≤ h1.2.2.2.2 := by omega
    have hN2 : h1.2.2.2.2 < 1000000 := by omega
    have mm := m.fx w i11 (fun a j q => by unfold Ftwo at q; unfold pC; omega) (fun a j q => by exact q.elim) (fun _ _ q => q.elim)
    have cc : gC D A U rs AV DV V u td s1 s2 b n B ((M + p)) ((K + p)) pu f0 f1 h1 := ⟨pcS0 c1 w i11, pcD ⟨c2, c2x⟩ w (fun a j q => ⟨by unfold Ftwo; omega, id⟩), pcU c3 w i11 (fun a j q => by unfold Ftwo; omega), pcR c4 w i11 (fun a j q => by unfold Ftwo; omega), pcV c5 w i11 (fun a j q => ⟨by unfold Ftwo; omega, id⟩) ⟨id, fun _ => id⟩, pcI c6 w i11 (fun a j q => by unfold Ftwo; omega), pcT c7 w i11 (fun a j q => by unfold Ftwo; omega), pcB c8 w i11 (fun a j q => by unfold Ftwo; omega), ⟨by rw [he, setI_ne (Or.inr (by decide))]; exact setI_at, by rw [he]; exact setI_at, by rw [← c9.2.2]; funext j; exact w.p i11 (by decide) (by unfold Ftwo; omega)⟩, pcQ c10 w i11 (fun a j q => by unfold Ftwo; omega)⟩
    clear m
    obtain ⟨m1, m2, m3, m4, m5, m6, m7, m8, m9, m10, m11, m12⟩ := id mm
    refine ⟨_, rfl, m1.k 0 rfl, kx_Sp.imp (y_fund (d := 29) m1 M K i6.1 i6.2.1 m10.1 m10.2.1 (nI p)) (fun v2 h2 hq2 => ?_)⟩
    rcases hq2 with ⟨p1, -, -⟩ | ⟨p1, p', ep, hp8, rfl, he2⟩
    · exact absurd e1 p1
    · have ep : p = p' := (nI_eq (by omega) (by omega)).mp ep
      subst ep
      have hf2 : kx_Fc (Ftwo 84 87 88) h1 h2 := by rw [he2]; exact (kx_Fc.set ⟨rfl, Or.inl rfl⟩).tr (kx_Fc.set ⟨rfl, Or.inr rfl⟩)
      have w2 := hf2.gw (Z := nvr)
      have hc2 : h2.2.2.2.2 = h1.2.2.2.2 := by rw [hf2.1]
      exact ⟨rfl, D, A, U, rs, AV, DV, V, u, td, s1, s2, b, n, B, (M + p), (K + p), pu, f0, f1, nw, T, z, ⟨i1, i2, i3, ⟨i4a, i4b, i4c, i4d⟩, i5, ⟨hp9, Nat.add_le_add_right i6.2.1 p, fun q hq => ⟨(i6.2.2 q hq).1, by have : cN D.2.2.1 q 11 + K ≤ M := (i6.2.2 q hq).2; show cN D.2.2.1 q 11 + (K + p) ≤ M + p; omega⟩⟩, ⟨i7a, i7b⟩, ⟨i8, i9, by omega⟩, by omega, by omega, hk⟩, (cc.fy w2 hN1 (fun a j q => by unfold Ftwo at q; unfold pM; omega) (fun a j q => by exact q.elim)), ⟨pmS m1 w2 hN1 (fun a j q1 q2 => id), pmD m2 w2 hN1 (fun a j q => by unfold Ftwo; omega), pmZ m3 w2 hN1 (fun a j q => by unfold Ftwo; omega), pmU m4 w2 hN1 (fun a j q => by unfold Ftwo; omega), pmR m5 w2 hN1 (fun a j q => by unfold Ftwo; omega), pmV m6 w2 hN1 (fun a j q => by unfold Ftwo; omega), pmI m7 w2 hN1 (fun a j q => by unfold Ftwo; omega), pmT m8 w2 hN1 (fun a j q => by unfold Ftwo; omega), pmB m9 w2 hN1 (fun a j q => by unfold Ftwo; omega), ⟨by rw [he2, setI_ne (Or.inr (by decide))]; exact setI_at, by rw [he2]; exact setI_at, by rw [← m10.2.2]; funext j; exact w2.p hN1 (by decide) (by unfold Ftwo; omega)⟩, pmQ m11 w2 hN1 (fun a j q => by unfold Ftwo; omega), pmW m12 w2 hN1 (fun a j q => by unfold Ftwo; omega)⟩⟩
