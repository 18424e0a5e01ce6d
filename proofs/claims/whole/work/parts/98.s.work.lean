/-! calls that work on claims, on both sides -/
def shp (D D' : DK) : Prop := D'.1 = D.1 ∧ D'.2.1 = D.2.1 ∧ D'.2.2.1.1 = D.2.2.1.1 ∧ D'.2.2.2 = D.2.2.2 ∧ ∀ c, cN D'.2.2.1 c 5 = cN D.2.2.1 c 5
def calm (D D' : DK) : Prop := shp D D' ∧ ∀ c, D'.2.2.1.2.1 c 11 = D.2.2.1.2.1 c 11
theorem calm.rf {D : DK} : calm D D := ⟨⟨rfl, rfl, rfl, rfl, fun _ => rfl⟩, fun _ => rfl⟩
theorem calm.tr {D D1 D2 : DK} (a : calm D D1) (b : calm D1 D2) : calm D D2 := ⟨⟨b.1.1.trans a.1.1, b.1.2.1.trans a.1.2.1, b.1.2.2.1.trans a.1.2.2.1, b.1.2.2.2.1.trans a.1.2.2.2.1, fun c => (b.1.2.2.2.2 c).trans (a.1.2.2.2.2 c)⟩, fun c => (b.2 c).trans (a.2 c)⟩
theorem calm.set {D : DK} {c j : Nat} {v : Int32} (h5 : j ≠ 5) (h11 : j ≠ 11) : calm D (setCf D c j v) := ⟨⟨rfl, rfl, rfl, rfl, fun c' => by rw [cN_set, if_neg (by omega)]⟩, fun c' => by
  show setF D.2.2.1.2.1 c j v c' 11 = D.2.2.1.2.1 c' 11
  unfold setF
  rw [if_neg (by omega)]⟩
theorem calm.dec {D : DK} {r : RU} {td c su du : Nat} : calm D (decD D r td c su du) := ⟨⟨rfl, rfl, rfl, rfl, fun c' => by
  show (decF D.2.2.1.2.1 c _ su td _ du c' 5).toNatClampNeg = (D.2.2.1.2.1 c' 5).toNatClampNeg
  unfold decF
  split <;> simp⟩, fun c' => by
  show decF D.2.2.1.2.1 c _ su td _ du c' 11 = D.2.2.1.2.1 c' 11
  unfold decF
  split <;> simp⟩
theorem calm.spl {D : DK} {c : Nat} {a b : Int32} : calm D (splD D c a b) := (calm.set (by decide) (by decide)).tr ((calm.set (by decide) (by decide)).tr (calm.set (by decide) (by decide)))
theorem calm.reo {D : DK} {c : Nat} : calm D (reoD D c) := (calm.set (by decide) (by decide)).tr ((calm.set (by decide) (by decide)).tr ((calm.set (by decide) (by decide)).tr (calm.set (by decide) (by decide))))
theorem calm.spr {D : DK} {r : RU} {td c : Nat} : ∀ k, calm D (sprK r td c D k).2
  | 0 => calm.rf
  | k + 1 => by
    by_cases e : cN (sprK r td c D k).2.2.2.1 k 8 = 0 ∧ likP (sprK r td c D k).2 (rsN r 8) k c
    · rw [sprK_y rfl e]
      exact (calm.spr k).tr calm.dec
    · rw [sprK_n rfl e]
      exact calm.spr k
theorem ite_calm {c : Prop} [Decidable c] {D : DK} {x y : Int32 × DK} (hx : calm D x.2) (hy : calm D y.2) : calm D (if c then x else y).2 := by
  split
  · exact hx
  · exact hy
theorem calm_vote {D : DK} {r : RU} {td : Nat} {a b c : Int32} : calm D (votR D r td a b c).2 := by
  unfold votR
  split
  · split
    · split
      · split
        · exact calm.spl
        · exact calm.dec
      · exact calm.rf
    · exact calm.rf
  · exact calm.rf
theorem calm_lot {D : DK} {U : Nat → Prop} {s1 s2 : Nat} {r : RU} {td : Nat} {a b c : Int32} : calm D (lotR D U s1 s2 r td a b c).2 := by
  unfold lotR
  by_cases e1 : 0 ≤ a ∧ a < nI D.2.2.1.1
  · rw [if_pos e1]
    by_cases e2 : cN D.2.2.1 a.toNatClampNeg 8 = 1
    · rw [if_pos e2]
      exact ite_calm calm.dec calm.rf
    · rw [if_neg e2]
      exact calm.rf
  · rw [if_neg e1]
    exact calm.rf
theorem calm_again {D : DK} {r : RU} {td : Nat} {a : Int32} : calm D (agaR D r td a).2 := by
  unfold agaR
  split
  · split
    · split
      · exact calm.rf
      · exact calm.reo
    · exact calm.rf
  · exact calm.rf
theorem calm_spread {D : DK} {r : RU} {td : Nat} {a : Int32} : calm D (sprR D r td a).2 := by
  unfold sprR
  split
  · split
    · exact calm.spr _
    · exact calm.rf
  · exact calm.rf
theorem shp.ax {D D' : DK} {A : DA} {h : kx_Mem} (k : shp D D') (x : DAx D A h) : DAx D' A h := by
  unfold DAx at *
  rw [k.2.2.1, k.2.2.2.1]
  exact x
theorem shp.f5 {D D' : DK} {td : Nat} (k : shp D D') (x : ∀ c, c < D.2.2.1.1 → cN D.2.2.1 c 5 ≤ td) : ∀ c, c < D'.2.2.1.1 → cN D'.2.2.1 c 5 ≤ td := fun c hc => by
  rw [k.2.2.2.2 c]
  exact x c (by rw [← k.2.2.1]; exact hc)
theorem shp.ft {D D' : DK} {td : Nat} (k : shp D D') (x : ∀ q, q < D.2.1.1 → D.2.1.2.1 q ≤ td) : ∀ q, q < D'.2.1.1 → D'.2.1.2.1 q ≤ td := by
  rw [k.2.1]
  exact x
theorem FnI.cm {D D' : DK} {K M : Nat} {pu : Nat → Int32} (i : FnI (D, K, pu) M) (k : calm D D') : FnI (D', K, pu) M := ⟨i.1, i.2.1, fun c hc => by
  have hc' : c < D.2.2.1.1 := by rw [← k.1.2.2.1]; exact hc
  have e : cN D'.2.2.1 c 11 = cN D.2.2.1 c 11 := by unfold cN; rw [k.2 c]
  obtain ⟨q1, q2⟩ := i.2.2 c hc'
  exact ⟨by show D'.2.2.1.2.1 c 11 = nI (cN D'.2.2.1 c 11); rw [e, k.2 c]; exact q1, by show cN D'.2.2.1 c 11 + K ≤ M; rw [e]; exact q2⟩⟩
theorem payM_pap {td c m : Nat} {S : FS3} : (payM td S c m).1.2.2.2 = S.1.2.2.2 := by
  unfold payM
  split <;> rfl
theorem wavK_pap {td th : Nat} {S : FS3} : ∀ k, (wavK td th S k).2.1.2.2.2 = S.1.2.2.2
  | 0 => rfl
  | k + 1 => by
    show (payM td (wavK td th S k).2 k (wvM (wavK td th S k).2 th k)).1.2.2.2 = S.1.2.2.2
    rw [payM_pap]
    exact wavK_pap k
theorem lasK_pap {td : Nat} {G : Nat → Nat} {S : FS3} : ∀ k, (lasK td G S k).2.1.2.2.2 = S.1.2.2.2
  | 0 => rfl
  | k + 1 => by
    show (payM td (lasK td G S k).2 k (G k)).1.2.2.2 = S.1.2.2.2
    rw [payM_pap]
    exact lasK_pap k
theorem wavR_ok {M pt td : Nat} {S : FS3} (ho : DKok S.1) (hI : FnI S M) : DKok (wavR S M pt td).2.1 ∧ FnI (wavR S M pt td).2 M ∧ shp S.1 (wavR S M pt td).2.1 := by
  unfold wavR
  split
  · exact ⟨ho, hI, rfl, rfl, rfl, rfl, fun _ => rfl⟩
  · obtain ⟨q1, q2, ⟨q3, q4, q5⟩, q6⟩ := wavK_ok (td := td) (th := minN (1000 * M / askD S.1) (10 * pt)) ho hI S.1.2.2.1.1 (Nat.le_refl _)
    exact ⟨q1, q2, q4, q5, q3, wavK_pap _, fun c => q6 c 5 (by decide)⟩
theorem lasR_ok {M td : Nat} {S : FS3} (ho : DKok S.1) (hI : FnI S M) : DKok (lasR S td).2.1 ∧ FnI (lasR S td).2 M ∧ shp S.1 (lasR S td).2.1 := by
  by_cases e : penD S.1
  · rw [lasR_y e]
    exact ⟨ho, hI, rfl, rfl, rfl, rfl, fun _ => rfl⟩
  · rw [lasR_n e]
    obtain ⟨q1, q2, ⟨q3, q4, q5⟩, q6, -, -⟩ := lasK_ok (td := td) ho hI (get_sum rfl) S.1.2.2.1.1 (Nat.le_refl _)
    exact ⟨q1, q2, q4, q5, q3, lasK_pap _, fun c => q6 c 5 (by decide)⟩
def Fge (a _j : Nat) : Prop := 154 ≤ a
theorem st_vote {l : Launch} {g : kx_G} {k : Nat} {h : kx_Mem} (hk : k < 512) (hG : Glob k h) (a1 a2 a3 : Int32) : Bth l g m_Tc_vote m_Mo_vote [.int a1, .int a2, .int a3] k h 0 0 := by
  obtain ⟨D, A, U, rs, AV, DV, V, u, td, s1, s2, b, n, B, M, K, pu, f0, f1, nw, T, z, i, c, m⟩ := hG
  obtain ⟨i1, i2, i3, ⟨i4a, i4b, i4c, i4d⟩, i5, i6, ⟨i7a, i7b⟩, ⟨i8, i9, i10⟩, i11, i12, i13⟩ := id i
  obtain ⟨c1, ⟨c2, c2x⟩, c3, c4, c5, c6, c7, c8, c9, c10⟩ := id c
  refine kx_Sp.imp (x_Tc_vote (d := 24) c1 D A i1 c2 AV DV V c5 u i4a c6.1 (i3 u i4a).2 td i4b c6.2.1 i7a a1 a2 a3) (fun v h1 hq => ?_)
  obtain ⟨rfl, ok, dk, hf⟩ := hq
  have w := hf.gw (Z := nvr)
  have hc1 : h1.2.2.2.2 = h.2.2.2.2 := by rw [hf.1]
  have hN1 : 154 ≤ h1.2.2.2.2 := by omega
  have hN2 : h1.2.2.2.2 < 1000000 := by omega
  have mm := m.fx w i11 (fun a j q => by unfold FvC at q; unfold pC; omega) (fun a j q => by exact q.elim) (fun _ _ q => q.elim)
  have cm : calm D (votR D (V u) td a1 a2 a3).2 := calm_vote
  have cc : gC ((votR D (V u) td a1 a2 a3).2) A U rs AV DV V u td s1 s2 b n B M K pu f0 f1 h1 := ⟨pcS0 c1 w i11, ⟨dk, cm.1.ax (c2x.gw w)⟩, pcU c3 w i11 (fun a j q => by unfold FvC; omega), pcR c4 w i11 (fun a j q => by unfold FvC; omega), pcV c5 w i11 (fun a j q => ⟨by unfold FvC; omega, id⟩) ⟨id, fun _ => id⟩, pcI c6 w i11 (fun a j q => by unfold FvC; omega), pcT c7 w i11 (fun a j q => by unfold FvC; omega), pcB c8 w i11 (fun a j q => by unfold FvC; omega), pcF c9 w i11 (fun a j q => by unfold FvC; omega), pcQ c10 w i11 (fun a j q => by unfold FvC; omega)⟩
  clear m
  obtain ⟨m1, m2, m3, m4, m5, m6, m7, m8, m9, m10, m11, m12⟩ := id mm
  refine ⟨_, rfl, m1.k 0 rfl, kx_Sp.imp (y_vote (d := 22) m1 nw T i8 D i1 m2 (V u) u i4a (i3 u i4a).1 (i3 u i4a).2 (m6 u i4a) m7.1 td i4b m7.2.1 i7a a1 a2 a3) (fun v2 h2 hq2 => ?_)⟩
  obtain ⟨rfl, ok2, dkm, hf2⟩ := hq2
  have w2 := hf2.gw (Z := nvr)
  have hc2 : h2.2.2.2.2 = h1.2.2.2.2 := by rw [hf2.1]
  have mz : ZRm (votR D (V u) td a1 a2 a3).2.2.2.1.1 h2 := by
    rw [cm.1.2.2.1]
    exact pmZ m3 w2 hN1 (fun a j q => by unfold FvM FdM FT; omega)
  exact ⟨rfl, (votR D (V u) td a1 a2 a3).2, A, U, rs, AV, DV, V, u, td, s1, s2, b, n, B, M, K, pu, f0, f1, nw, T, z, ⟨ok, i2, i3, ⟨i4a, i4b, i4c, i4d⟩, i5, i6.cm cm, ⟨cm.1.f5 i7a, cm.1.ft i7b⟩, ⟨i8, i9, by omega⟩, by omega, by omega, hk⟩, (cc.fy w2 hN1 (fun a j q => by unfold FvM FdM FT at q; unfold pM; omega) (fun a j q => by exact q.elim)), ⟨pmS m1 w2 hN1 (fun a j q1 q2 => id), dkm, mz, pmU m4 w2 hN1 (fun a j q => by unfold FvM FdM FT; omega), pmR m5 w2 hN1 (fun a j q => by unfold FvM FdM FT; omega), pmV m6 w2 hN1 (fun a j q => by unfold FvM FdM FT; omega), pmI m7 w2 hN1 (fun a j q => by unfold FvM FdM FT; omega), pmT m8 w2 hN1 (fun a j q => by unfold FvM FdM FT; omega), pmB m9 w2 hN1 (fun a j q => by unfold FvM FdM FT; omega), pmF m10 w2 hN1 (fun a j q => by unfold FvM FdM FT; omega), pmQ m11 w2 hN1 (fun a j q => by unfold FvM FdM FT; omega), pmW m12 w2 hN1 (fun a j q => by unfold FvM FdM FT; omega)⟩⟩
theorem st_lot {l : Launch} {g : kx_G} {k : Nat} {h : kx_Mem} (hk : k < 512) (hG : Glob k h) (a1 a2 a3 : Int32) : Bth l g m_Tc_lot m_Mo_lot [.int a1, .int a2, .int a3] k h 0 0 := by
  obtain ⟨D, A, U, rs, AV, DV, V, u, td, s1, s2, b, n, B, M, K, pu, f0, f1, nw, T, z, i, c, m⟩ := hG
  obtain ⟨i1, i2, i3, ⟨i4a, i4b, i4c, i4d⟩, i5, i6, ⟨i7a, i7b⟩, ⟨i8, i9, i10⟩, i11, i12, i13⟩ := id i
  obtain ⟨c1, ⟨c2, c2x⟩, c3, c4, c5, c6, c7, c8, c9, c10⟩ := id c
  refine kx_Sp.imp (x_Tc_lot (d := 24) c1 D A i1 c2 AV DV V c5 u i4a c6.1 (i3 u i4a).2 td i4b c6.2.1 i7a U c3 s1 s2 i4c i4d c6.2.2.1 c6.2.2.2 a1 a2 a3) (fun v h1 hq => ?_)
  obtain ⟨rfl, ok, dk, hf⟩ := hq
  have w := hf.gw (Z := nvr)
  have hc1 : h1.2.2.2.2 = h.2.2.2.2 := by rw [hf.1]
  have hN1 : 154 ≤ h1.2.2.2.2 := by omega
  have hN2 : h1.2.2.2.2 < 1000000 := by omega
  have mm := m.fx w i11 (fun a j q => by unfold FvC at q; unfold pC; omega) (fun a j q => by exact q.elim) (fun _ _ q => q.elim)
  have cm : calm D (lotR D U s1 s2 (V u) td a1 a2 a3).2 := calm_lot
  have cc : gC ((lotR D U s1 s2 (V u) td a1 a2 a3).2) A U rs AV DV V u td s1 s2 b n B M K pu f0 f1 h1 := ⟨pcS0 c1 w i11, ⟨dk, cm.1.ax (c2x.gw w)⟩, pcU c3 w i11 (fun a j q => by unfold FvC; omega), pcR c4 w i11 (fun a j q => by unfold FvC; omega), pcV c5 w i11 (fun a j q => ⟨by unfold FvC; omega, id⟩) ⟨id, fun _ => id⟩, pcI c6 w i11 (fun a j q => by unfold FvC; omega), pcT c7 w i11 (fun a j q => by unfold FvC; omega), pcB c8 w i11 (fun a j q => by unfold FvC; omega), pcF c9 w i11 (fun a j q => by unfold FvC; omega), pcQ c10 w i11 (fun a j q => by unfold FvC; omega)⟩
  clear m
  obtain ⟨m1, m2, m3, m4, m5, m6, m7, m8, m9, m10, m11, m12⟩ := id mm
  refine ⟨_, rfl, m1.k 0 rfl, kx_Sp.imp (y_lot (d := 22) m1 nw T i8 D i1 m2 td i4b m7.2.1 U m4 s1 s2 i4c i4d m7.2.2.1 m7.2.2.2 (V u) u i4a (i3 u i4a).1 (i3 u i4a).2 (m6 u i4a) m7.1 i7a a1 a2 a3) (fun v2 h2 hq2 => ?_)⟩
  obtain ⟨rfl, ok2, dkm, hf2⟩ := hq2
  have w2 := hf2.gw (Z := nvr)
  have hc2 : h2.2.2.2.2 = h1.2.2.2.2 := by rw [hf2.1]
  have mz : ZRm (lotR D U s1 s2 (V u) td a1 a2 a3).2.2.2.1.1 h2 := by
    rw [cm.1.2.2.1]
    exact pmZ m3 w2 hN1 (fun a j q => by unfold FvM FdM FT; omega)
  exact ⟨rfl, (lotR D U s1 s2 (V u) td a1 a2 a3).2, A, U, rs, AV, DV, V, u, td, s1, s2, b, n, B, M, K, pu, f0, f1, nw, T, z, ⟨ok, i2, i3, ⟨i4a, i4b, i4c, i4d⟩, i5, i6.cm cm, ⟨cm.1.f5 i7a, cm.1.ft i7b⟩, ⟨i8, i9, by omega⟩, by omega, by omega, hk⟩, (cc.fy w2 hN1 (fun a j q => by unfold FvM FdM FT at q; unfold pM; omega) (fun a j q => by exact q.elim)), ⟨pmS m1 w2 hN1 (fun a j q1 q2 => id), dkm, mz, pmU m4 w2 hN1 (fun a j q => by unfold FvM FdM FT; omega), pmR m5 w2 hN1 (fun a j q => by unfold FvM FdM FT; omega), pmV m6 w2 hN1 (fun a j q => by unfold FvM FdM FT; omega), pmI m7 w2 hN1 (fun a j q => by unfold FvM FdM FT; omega), pmT m8 w2 hN1 (fun a j q => by unfold FvM FdM FT; omega), pmB m9 w2 hN1 (fun a j q => by unfold FvM FdM FT; omega), pmF m10 w2 hN1 (fun a j q => by unfold FvM FdM FT; omega), pmQ m11 w2 hN1 (fun a j q => by unfold FvM FdM FT; omega), pmW m12 w2 hN1 (fun a j q => by unfold FvM FdM FT; omega)⟩⟩
theorem st_spread {l : Launch} {g : kx_G} {k : Nat} {h : kx_Mem} (hk : k < 512) (hG : Glob k h) (a1 : Int32) : Bth l g m_Tc_spread m_Mo_spread [.int a1] k h 0 0 := by
  obtain ⟨D, A, U, rs, AV, DV, V, u, td, s1, s2, b, n, B, M, K, pu, f0, f1, nw, T, z, i, c, m⟩ := hG
  obtain ⟨i1, i2, i3, ⟨i4a, i4b, i4c, i4d⟩, i5, i6, ⟨i7a, i7b⟩, ⟨i8, i9, i10⟩, i11, i12, i13⟩ := id i
  obtain ⟨c1, ⟨c2, c2x⟩, c3, c4, c5, c6, c7, c8, c9, c10⟩ := id c
  refine kx_Sp.imp (x_Tc_spread (d := 24) c1 D A i1 c2 AV DV V c5 u i4a c6.1 (i3 u i4a).2 td i4b c6.2.1 i7a a1) (fun v h1 hq => ?_)
  obtain ⟨rfl, ok, dk, hf⟩ := hq
  have w := hf.gw (Z := nvr)
  have hc1 : h1.2.2.2.2 = h.2.2.2.2 := by rw [hf.1]
  have hN1 : 154 ≤ h1.2.2.2.2 := by omega
  have hN2 : h1.2.2.2.2 < 1000000 := by omega
  have mm := m.fx w i11 (fun a j q => by unfold FvC at q; unfold pC; omega) (fun a j q => by exact q.elim) (fun _ _ q => q.elim)
  have cm : calm D (sprR D (V u) td a1).2 := calm_spread
  have cc : gC ((sprR D (V u) td a1).2) A U rs AV DV V u td s1 s2 b n B M K pu f0 f1 h1 := ⟨pcS0 c1 w i11, ⟨dk, cm.1.ax (c2x.gw w)⟩, pcU c3 w i11 (fun a j q => by unfold FvC; omega), pcR c4 w i11 (fun a j q => by unfold FvC; omega), pcV c5 w i11 (fun a j q => ⟨by unfold FvC; omega, id⟩) ⟨id, fun _ => id⟩, pcI c6 w i11 (fun a j q => by unfold FvC; omega), pcT c7 w i11 (fun a j q => by unfold FvC; omega), pcB c8 w i11 (fun a j q => by unfold FvC; omega), pcF c9 w i11 (fun a j q => by unfold FvC; omega), pcQ c10 w i11 (fun a j q => by unfold FvC; omega)⟩
  clear m
  obtain ⟨m1, m2, m3, m4, m5, m6, m7, m8, m9, m10, m11, m12⟩ := id mm
  refine ⟨_, rfl, m1.k 0 rfl, kx_Sp.imp (y_spread (d := 22) m1 nw T i8 D i1 m2 (V u) u i4a (i3 u i4a).1 (i3 u i4a).2 (m6 u i4a) m7.1 td i4b m7.2.1 i7a a1) (fun v2 h2 hq2 => ?_)⟩
  obtain ⟨rfl, ok2, dkm, hf2⟩ := hq2
  have w2 := hf2.gw (Z := nvr)
  have hc2 : h2.2.2.2.2 = h1.2.2.2.2 := by rw [hf2.1]
  have mz : ZRm (sprR D (V u) td a1).2.2.2.1.1 h2 := by
    rw [cm.1.2.2.1]
    exact pmZ m3 w2 hN1 (fun a j q => by unfold FvM FdM FT; omega)
  exact ⟨rfl, (sprR D (V u) td a1).2, A, U, rs, AV, DV, V, u, td, s1, s2, b, n, B, M, K, pu, f0, f1, nw, T, z, ⟨ok, i2, i3, ⟨i4a, i4b, i4c, i4d⟩, i5, i6.cm cm, ⟨cm.1.f5 i7a, cm.1.ft i7b⟩, ⟨i8, i9, by omega⟩, by omega, by omega, hk⟩, (cc.fy w2 hN1 (fun a j q => by unfold FvM FdM FT at q; unfold pM; omega) (fun a j q => by exact q.elim)), ⟨pmS m1 w2 hN1 (fun a j q1 q2 => id), dkm, mz, pmU m4 w2 hN1 (fun a j q => by unfold FvM FdM FT; omega), pmR m5 w2 hN1 (fun a j q => by unfold FvM FdM FT; omega), pmV m6 w2 hN1 (fun a j q => by unfold FvM FdM FT; omega), pmI m7 w2 hN1 (fun a j q => by unfold FvM FdM FT; omega), pmT m8 w2 hN1 (fun a j q => by unfold FvM FdM FT; omega), pmB m9 w2 hN1 (fun a j q => by unfold FvM FdM FT; omega), pmF m10 w2 hN1 (fun a j q => by unfold FvM FdM FT; omega), pmQ m11 w2 hN1 (fun a j q => by unfold FvM FdM FT; omega), pmW m12 w2 hN1 (fun a j q => by unfold FvM FdM FT; omega)⟩⟩
theorem st_again {l : Launch} {g : kx_G} {k : Nat} {h : kx_Mem} (hk : k < 512) (hG : Glob k h) (a1 : Int32) : Bth l g m_Tc_again m_Mo_again [.int a1] k h 0 0 := by
  obtain ⟨D, A, U, rs, AV, DV, V, u, td, s1, s2, b, n, B, M, K, pu, f0, f1, nw, T, z, i, c, m⟩ := hG
  obtain ⟨i1, i2, i3, ⟨i4a, i4b, i4c, i4d⟩, i5, i6, ⟨i7a, i7b⟩, ⟨i8, i9, i10⟩, i11, i12, i13⟩ := id i
  obtain ⟨c1, ⟨c2, c2x⟩, c3, c4, c5, c6, c7, c8, c9, c10⟩ := id c
  refine kx_Sp.imp (x_Tc_again (d := 24) c1 D A i1 c2 AV DV V c5 u i4a c6.1 (i3 u i4a).2 td i4b c6.2.1 i7a a1) (fun v h1 hq => ?_)
  obtain ⟨rfl, ok, dk, hf⟩ := hq
  have w := hf.gw (Z := nvr)
  have hc1 : h1.2.2.2.2 = h.2.2.2.2 := by rw [hf.1]
  have hN1 : 154 ≤ h1.2.2.2.2 := by omega
  have hN2 : h1.2.2.2.2 < 1000000 := by omega
  have mm := m.fx w i11 (fun a j q => by unfold FvC at q; unfold pC; omega) (fun a j q => by exact q.elim) (fun _ _ q => q.elim)
  have cm : calm D (agaR D (V u) td a1).2 := calm_again
  have cc : gC ((agaR D (V u) td a1).2) A U rs AV DV V u td s1 s2 b n B M K pu f0 f1 h1 := ⟨pcS0 c1 w i11, ⟨dk, cm.1.ax (c2x.gw w)⟩, pcU c3 w i11 (fun a j q => by unfold FvC; omega), pcR c4 w i11 (fun a j q => by unfold FvC; omega), pcV c5 w i11 (fun a j q => ⟨by unfold FvC; omega, id⟩) ⟨id, fun _ => id⟩, pcI c6 w i11 (fun a j q => by unfold FvC; omega), pcT c7 w i11 (fun a j q => by unfold FvC; omega), pcB c8 w i11 (fun a j q => by unfold FvC; omega), pcF c9 w i11 (fun a j q => by unfold FvC; omega), pcQ c10 w i11 (fun a j q => by unfold FvC; omega)⟩
  clear m
  obtain ⟨m1, m2, m3, m4, m5, m6, m7, m8, m9, m10, m11, m12⟩ := id mm
  refine ⟨_, rfl, m1.k 0 rfl, kx_Sp.imp (y_again (d := 23) m1 nw T i8 D i1 m2 (V u) u i4a (i3 u i4a).1 (i3 u i4a).2 (m6 u i4a) m7.1 td i4b m7.2.1 i7a a1) (fun v2 h2 hq2 => ?_)⟩
  obtain ⟨rfl, ok2, dkm, hf2⟩ := hq2
  have w2 := hf2.gw (Z := nvr)
  have hc2 : h2.2.2.2.2 = h1.2.2.2.2 := by rw [hf2.1]
  have mz : ZRm (agaR D (V u) td a1).2.2.2.1.1 h2 := by
    rw [cm.1.2.2.1]
    exact pmZ m3 w2 hN1 (fun a j q => by unfold FvM FdM FT; omega)
  exact ⟨rfl, (agaR D (V u) td a1).2, A, U, rs, AV, DV, V, u, td, s1, s2, b, n, B, M, K, pu, f0, f1, nw, T, z, ⟨ok, i2, i3, ⟨i4a, i4b, i4c, i4d⟩, i5, i6.cm cm, ⟨cm.1.f5 i7a, cm.1.ft i7b⟩, ⟨i8, i9, by omega⟩, by omega, by omega, hk⟩, (cc.fy w2 hN1 (fun a j q => by unfold FvM FdM FT at q; unfold pM; omega) (fun a j q => by exact q.elim)), ⟨pmS m1 w2 hN1 (fun a j q1 q2 => id), dkm, mz, pmU m4 w2 hN1 (fun a j q => by unfold FvM FdM FT; omega), pmR m5 w2 hN1 (fun a j q => by unfold FvM FdM FT; omega), pmV m6 w2 hN1 (fun a j q => by unfold FvM FdM FT; omega), pmI m7 w2 hN1 (fun a j q => by unfold FvM FdM FT; omega), pmT m8 w2 hN1 (fun a j q => by unfold FvM FdM FT; omega), pmB m9 w2 hN1 (fun a j q => by unfold FvM FdM FT; omega), pmF m10 w2 hN1 (fun a j q => by unfold FvM FdM FT; omega), pmQ m11 w2 hN1 (fun a j q => by unfold FvM FdM FT; omega), pmW m12 w2 hN1 (fun a j q => by unfold FvM FdM FT; omega)⟩⟩
theorem st_mark {l : Launch} {g : kx_G} {k : Nat} {h : kx_Mem} (hk : k < 512) (hG : Glob k h) (a1 a2 : Int32) : Bth l g m_Tc_mark m_Mo_mark [.int a1, .int a2] k h 0 0 := by
  obtain ⟨D, A, U, rs, AV, DV, V, u, td, s1, s2, b, n, B, M, K, pu, f0, f1, nw, T, z, i, c, m⟩ := hG
  obtain ⟨i1, i2, i3, ⟨i4a, i4b, i4c, i4d⟩, i5, i6, ⟨i7a, i7b⟩, ⟨i8, i9, i10⟩, i11, i12, i13⟩ := id i
  obtain ⟨c1, ⟨c2, c2x⟩, c3, c4, c5, c6, c7, c8, c9, c10⟩ := id c
  have o1 := i1.2.2.1.1
  refine kx_Sp.imp (x_Tc_mark (d := 26) c1 D A i1 c2 a1 a2) (fun v h1 hq => ?_)
  rcases hq with ⟨e1, rfl, he⟩ | ⟨q9, hq9, rfl, e1, rfl, ok, dk, he⟩
  · rw [he]
    obtain ⟨m1, m2, m3, m4, m5, m6, m7, m8, m9, m10, m11, m12⟩ := id m
    refine ⟨_, rfl, m1.k 0 rfl, kx_Sp.imp (y_mark (d := 28) m1 nw T i8 D i1 m2 a1 a2) (fun v2 h2 hq2 => ?_)⟩
    rcases hq2 with ⟨p1, rfl, he2⟩ | ⟨c8, hc8, p0, p1, -, -⟩
    · rw [he2]
      exact ⟨rfl, D, A, U, rs, AV, DV, V, u, td, s1, s2, b, n, B, M, K, pu, f0, f1, nw, T, z, i.up hk (by omega) (by omega), c, m⟩
    · subst p0
      exact absurd ⟨⟨by rw [show (0 : Int32) = nI 0 from rfl, nI_leI (by decide) (by omega)]; exact Nat.zero_le _, (nI_ltI (by omega) (by omega)).mpr hc8⟩, p1⟩ e1
  · have hf : kx_Fc Fge h h1 := by rw [he]; exact kx_Fc.set (c2.2.2.2.2.1.2 q9 hq9).1
    have w := hf.gw (Z := nvr)
    have hc1 : h1.2.2.2.2 = h.2.2.2.2 := by rw [hf.1]
    have hN1 : 154 ≤ h1.2.2.2.2 := by omega
    have hN2 : h1.2.2.2.2 < 1000000 := by omega
    have mm := m.fx w i11 (fun a j q => by unfold Fge at q; unfold pC; omega) (fun a j q => by exact q.elim) (fun _ _ q => q.elim)
    have cm : calm D (setCf D q9 7 a2) := calm.set (by decide) (by decide)
    have cc : gC ((setCf D q9 7 a2)) A U rs AV DV V u td s1 s2 b n B M K pu f0 f1 h1 := ⟨pcS0 c1 w i11, ⟨dk, cm.1.ax (c2x.gw w)⟩, pcU c3 w i11 (fun a j q => by unfold Fge; omega), pcR c4 w i11 (fun a j q => by unfold Fge; omega), pcV c5 w i11 (fun a j q => ⟨by unfold Fge; omega, id⟩) ⟨id, fun _ => id⟩, pcI c6 w i11 (fun a j q => by unfold Fge; omega), pcT c7 w i11 (fun a j q => by unfold Fge; omega), pcB c8 w i11 (fun a j q => by unfold Fge; omega), pcF c9 w i11 (fun a j q => by unfold Fge; omega), pcQ c10 w i11 (fun a j q => by unfold Fge; omega)⟩
    clear m
    obtain ⟨m1, m2, m3, m4, m5, m6, m7, m8, m9, m10, m11, m12⟩ := id mm
    refine ⟨_, rfl, m1.k 0 rfl, kx_Sp.imp (y_mark (d := 28) m1 nw T i8 D i1 m2 (nI q9) a2) (fun v2 h2 hq2 => ?_)⟩
    rcases hq2 with ⟨p1, -, -⟩ | ⟨c8, hc8, p0, p1, rfl, ok2, dkm, he2⟩
    · exact absurd ⟨⟨by rw [show (0 : Int32) = nI 0 from rfl, nI_leI (by decide) (by omega)]; exact Nat.zero_le _, (nI_ltI (by omega) (by omega)).mpr hq9⟩, e1⟩ p1
    · have p0 : q9 = c8 := (nI_eq (by omega) (by omega)).mp p0
      subst p0
      have hf2 : kx_Fc (Fone 129 q9) h1 h2 := by rw [he2]; exact kx_Fc.set ⟨rfl, rfl⟩
      have w2 := hf2.gw (Z := nvr)
      have hc2 : h2.2.2.2.2 = h1.2.2.2.2 := by rw [hf2.1]
      have mz : ZRm D.2.2.1.1 h2 := pmZ m3 w2 hN1 (fun a j q => by unfold Fone; omega)
      exact ⟨rfl, (setCf D q9 7 a2), A, U, rs, AV, DV, V, u, td, s1, s2, b, n, B, M, K, pu, f0, f1, nw, T, z, ⟨ok, i2, i3, ⟨i4a, i4b, i4c, i4d⟩, i5, i6.cm cm, ⟨cm.1.f5 i7a, cm.1.ft i7b⟩, ⟨i8, i9, by omega⟩, by omega, by omega, hk⟩, (cc.fy w2 hN1 (fun a j q => by unfold Fone at q; unfold pM; omega) (fun a j q => by exact q.elim)), ⟨pmS m1 w2 hN1 (fun a j q1 q2 => id), dkm, mz, pmU m4 w2 hN1 (fun a j q => by unfold Fone; omega), pmR m5 w2 hN1 (fun a j q => by unfold Fone; omega), pmV m6 w2 hN1 (fun a j q => by unfold Fone; omega), pmI m7 w2 hN1 (fun a j q => by unfold Fone; omega), pmT m8 w2 hN1 (fun a j q => by unfold Fone; omega), pmB m9 w2 hN1 (fun a j q => by unfold Fone; omega), pmF m10 w2 hN1 (fun a j q => by unfold Fone; omega), pmQ m11 w2 hN1 (fun a j q => by unfold Fone; omega), pmW m12 w2 hN1 (fun a j q => by unfold Fone; omega)⟩⟩
theorem st_withdraw {l : Launch} {g : kx_G} {k : Nat} {h : kx_Mem} (hk : k < 512) (hG : Glob k h) (a1 : Int32) : Bth l g m_Tc_withdraw m_Mo_withdraw [.int a1] k h 0 0 := by
  obtain ⟨D, A, U, rs, AV, DV, V, u, td, s1, s2, b, n, B, M, K, pu, f0, f1, nw, T, z, i, c, m⟩ := hG
  obtain ⟨i1, i2, i3, ⟨i4a, i4b, i4c, i4d⟩, i5, i6, ⟨i7a, i7b⟩, ⟨i8, i9, i10⟩, i11, i12, i13⟩ := id i
  obtain ⟨c1, ⟨c2, c2x⟩, c3, c4, c5, c6, c7, c8, c9, c10⟩ := id c
  have o1 := i1.2.2.1.1
  refine kx_Sp.imp (x_Tc_withdraw (d := 26) c1 D A i1 c2 a1) (fun v h1 hq => ?_)
  rcases hq with ⟨e1, rfl, he⟩ | ⟨q9, hq9, rfl, ⟨e1, rfl, he⟩ | ⟨e1, rfl, ok, dk, he⟩⟩
  · rw [he]
    obtain ⟨m1, m2, m3, m4, m5, m6, m7, m8, m9, m10, m11, m12⟩ := id m
    refine ⟨_, rfl, m1.k 0 rfl, kx_Sp.imp (y_withdraw (d := 28) m1 nw T i8 D i1 m2 a1) (fun v2 h2 hq2 => ?_)⟩
    rcases hq2 with ⟨p1, rfl, he2⟩ | ⟨c8, hc8, p0, -⟩
    · rw [he2]
      exact ⟨rfl, D, A, U, rs, AV, DV, V, u, td, s1, s2, b, n, B, M, K, pu, f0, f1, nw, T, z, i.up hk (by omega) (by omega), c, m⟩
    · subst p0
      exact absurd ⟨by rw [show (0 : Int32) = nI 0 from rfl, nI_leI (by decide) (by omega)]; exact Nat.zero_le _, (nI_ltI (by omega) (by omega)).mpr hc8⟩ e1
  · rw [he]
    obtain ⟨m1, m2, m3, m4, m5, m6, m7, m8, m9, m10, m11, m12⟩ := id m
    refine ⟨_, rfl, m1.k 0 rfl, kx_Sp.imp (y_withdraw (d := 28) m1 nw T i8 D i1 m2 (nI q9)) (fun v2 h2 hq2 => ?_)⟩
    rcases hq2 with ⟨p1, -, -⟩ | ⟨c8, hc8, p0, ⟨p1, rfl, he2⟩ | ⟨p1, -, -⟩⟩
    · exact absurd ⟨by rw [show (0 : Int32) = nI 0 from rfl, nI_leI (by decide) (by omega)]; exact Nat.zero_le _, (nI_ltI (by omega) (by omega)).mpr hq9⟩ p1
    · rw [he2]
      exact ⟨rfl, D, A, U, rs, AV, DV, V, u, td, s1, s2, b, n, B, M, K, pu, f0, f1, nw, T, z, i.up hk (by omega) (by omega), c, m⟩
    · have p0 : q9 = c8 := (nI_eq (by omega) (by omega)).mp p0
      subst p0
      exact absurd p1 e1
  · have hf : kx_Fc Fge h h1 := by rw [he]; exact kx_Fc.set (c2.2.2.2.2.1.2 q9 hq9).1
    have w := hf.gw (Z := nvr)
    have hc1 : h1.2.2.2.2 = h.2.2.2.2 := by rw [hf.1]
    have hN1 : 154 ≤ h1.2.2.2.2 := by omega
    have hN2 : h1.2.2.2.2 < 1000000 := by omega
    have mm := m.fx w i11 (fun a j q => by unfold Fge at q; unfold pC; omega) (fun a j q => by exact q.elim) (fun _ _ q => q.elim)
    have cm : calm D (setCf D q9 8 3) := calm.set (by decide) (by decide)
    have cc : gC ((setCf D q9 8 3)) A U rs AV DV V u td s1 s2 b n B M K pu f0 f1 h1 := ⟨pcS0 c1 w i11, ⟨dk, cm.1.ax (c2x.gw w)⟩, pcU c3 w i11 (fun a j q => by unfold Fge; omega), pcR c4 w i11 (fun a j q => by unfold Fge; omega), pcV c5 w i11 (fun a j q => ⟨by unfold Fge; omega, id⟩) ⟨id, fun _ => id⟩, pcI c6 w i11 (fun a j q => by unfold Fge; omega), pcT c7 w i11 (fun a j q => by unfold Fge; omega), pcB c8 w i11 (fun a j q => by unfold Fge; omega), pcF c9 w i11 (fun a j q => by unfold Fge; omega), pcQ c10 w i11 (fun a j q => by unfold Fge; omega)⟩
    clear m
    obtain ⟨m1, m2, m3, m4, m5, m6, m7, m8, m9, m10, m11, m12⟩ := id mm
    refine ⟨_, rfl, m1.k 0 rfl, kx_Sp.imp (y_withdraw (d := 28) m1 nw T i8 D i1 m2 (nI q9)) (fun v2 h2 hq2 => ?_)⟩
    rcases hq2 with ⟨p1, -, -⟩ | ⟨c8, hc8, p0, ⟨p1, -, -⟩ | ⟨p1, rfl, ok2, dkm, he2⟩⟩
    · exact absurd ⟨by rw [show (0 : Int32) = nI 0 from rfl, nI_leI (by decide) (by omega)]; exact Nat.zero_le _, (nI_ltI (by omega) (by omega)).mpr hq9⟩ p1
    · have p0 : q9 = c8 := (nI_eq (by omega) (by omega)).mp p0
      subst p0
      exact absurd e1 p1
    · have p0 : q9 = c8 := (nI_eq (by omega) (by omega)).mp p0
      subst p0
      have hf2 : kx_Fc (Fone 130 q9) h1 h2 := by rw [he2]; exact kx_Fc.set ⟨rfl, rfl⟩
      have w2 := hf2.gw (Z := nvr)
      have hc2 : h2.2.2.2.2 = h1.2.2.2.2 := by rw [hf2.1]
      have mz : ZRm D.2.2.1.1 h2 := pmZ m3 w2 hN1 (fun a j q => by unfold Fone; omega)
      exact ⟨rfl, (setCf D q9 8 3), A, U, rs, AV, DV, V, u, td, s1, s2, b, n, B, M, K, pu, f0, f1, nw, T, z, ⟨ok, i2, i3, ⟨i4a, i4b, i4c, i4d⟩, i5, i6.cm cm, ⟨cm.1.f5 i7a, cm.1.ft i7b⟩, ⟨i8, i9, by omega⟩, by omega, by omega, hk⟩, (cc.fy w2 hN1 (fun a j q => by unfold Fone at q; unfold pM; omega) (fun a j q => by exact q.elim)), ⟨pmS m1 w2 hN1 (fun a j q1 q2 => id), dkm, mz, pmU m4 w2 hN1 (fun a j q => by unfold Fone; omega), pmR m5 w2 hN1 (fun a j q => by unfold Fone; omega), pmV m6 w2 hN1 (fun a j q => by unfold Fone; omega), pmI m7 w2 hN1 (fun a j q => by unfold Fone; omega), pmT m8 w2 hN1 (fun a j q => by unfold Fone; omega), pmB m9 w2 hN1 (fun a j q => by unfold Fone; omega), pmF m10 w2 hN1 (fun a j q => by unfold Fone; omega), pmQ m11 w2 hN1 (fun a j q => by unfold Fone; omega), pmW m12 w2 hN1 (fun a j q => by unfold Fone; omega)⟩⟩
theorem st_tests {l : Launch} {g : kx_G} {k : Nat} {h : kx_Mem} (hk : k < 512) (hG : Glob k h) (a1 : Int32) : Bth l g m_Tc_tests m_Mo_tests [.int a1] k h 0 0 := by
  obtain ⟨D, A, U, rs, AV, DV, V, u, td, s1, s2, b, n, B, M, K, pu, f0, f1, nw, T, z, i, c, m⟩ := hG
  obtain ⟨i1, i2, i3, ⟨i4a, i4b, i4c, i4d⟩, i5, i6, ⟨i7a, i7b⟩, ⟨i8, i9, i10⟩, i11, i12, i13⟩ := id i
  obtain ⟨c1, ⟨c2, c2x⟩, c3, c4, c5, c6, c7, c8, c9, c10⟩ := id c
  refine kx_Sp.imp (x_Tc_tests (d := 25) c1 D A i1 c2 AV DV V c5 u i4a c6.1 (i3 u i4a).2 a1) (fun v h1 hq => ?_)
  rcases hq with ⟨e1, rfl, he⟩ | ⟨N, hN3, hN4, rfl, rfl, cb, hf⟩
  · rw [he]
    obtain ⟨m1, m2, m3, m4, m5, m6, m7, m8, m9, m10, m11, m12⟩ := id m
    refine ⟨_, rfl, m1.k 0 rfl, kx_Sp.imp (y_tests (d := 25) m1 nw T i8 D i1 m2 (V u) u i4a (i3 u i4a).2 (m6 u i4a) m7.1 a1) (fun v2 h2 hq2 => ?_)⟩
    rcases hq2 with ⟨p1, rfl, he2⟩ | ⟨N, hN3, hN4, p0, -⟩
    · rw [he2]
      exact ⟨rfl, D, A, U, rs, AV, DV, V, u, td, s1, s2, b, n, B, M, K, pu, f0, f1, nw, T, z, i.up hk (by omega) (by omega), c, m⟩
    · subst p0
      exact absurd ⟨(nI_leI (a := 1) (by decide) (by omega)).mpr hN3, (nI_leI (b := 3) (by omega) (by decide)).mpr hN4⟩ e1
  · skip
    have w := hf.gw (Z := nvr)
    have hc1 : h1.2.2.2.2 = h.2.2.2.2 := by rw [hf.2.2]
    have hN1 : 154 ≤ h1.2.2.2.2 := by omega
    have hN2 : h1.2.2.2.2 < 1000000 := by omega
    have mm := m.fx w i11 (fun a j q => by unfold FtP at q; unfold pC; omega) (fun a j q => by unfold FtL2 at q; unfold pC; omega) (fun _ _ q => q.elim)
    have cc : gC D A U rs AV DV V u td s1 s2 b n ((tstF D (rsN (V u) 8) N)) M K pu f0 f1 h1 := ⟨pcS0 c1 w i11, pcD ⟨c2, c2x⟩ w (fun a j q => ⟨by unfold FtP; omega, by unfold FtL2; omega⟩), pcU c3 w i11 (fun a j q => by unfold FtP; omega), pcR c4 w i11 (fun a j q => by unfold FtP; omega), pcV c5 w i11 (fun a j q => ⟨by unfold FtP; omega, by unfold FtL2; omega⟩) ⟨id, fun _ => id⟩, pcI c6 w i11 (fun a j q => by unfold FtP; omega), pcT c7 w i11 (fun a j q => by unfold FtP; omega), cb, pcF c9 w i11 (fun a j q => by unfold FtP; omega), pcQ c10 w i11 (fun a j q => by unfold FtP; omega)⟩
    clear m
    obtain ⟨m1, m2, m3, m4, m5, m6, m7, m8, m9, m10, m11, m12⟩ := id mm
    refine ⟨_, rfl, m1.k 0 rfl, kx_Sp.imp (y_tests (d := 25) m1 nw T i8 D i1 m2 (V u) u i4a (i3 u i4a).2 (m6 u i4a) m7.1 (nI N)) (fun v2 h2 hq2 => ?_)⟩
    rcases hq2 with ⟨p1, -, -⟩ | ⟨N', hN5, hN6, p0, rfl, mb, hf2⟩
    · exact absurd ⟨(nI_leI (a := 1) (by decide) (by omega)).mpr hN3, (nI_leI (b := 3) (by omega) (by decide)).mpr hN4⟩ p1
    · have p0 : N = N' := (nI_eq (by omega) (by omega)).mp p0
      subst p0
      have hf2 : kx_Fg (FcM 0) (Fal 146) h1 h2 := hf2
      have w2 := hf2.gw (Z := nvr)
      have hc2 : h2.2.2.2.2 = h1.2.2.2.2 := by rw [hf2.2.2]
      exact ⟨rfl, D, A, U, rs, AV, DV, V, u, td, s1, s2, b, n, (tstF D (rsN (V u) 8) N), M, K, pu, f0, f1, nw, T, z, ⟨i1, i2, i3, ⟨i4a, i4b, i4c, i4d⟩, i5, i6, ⟨i7a, i7b⟩, ⟨i8, i9, by omega⟩, by omega, by omega, hk⟩, (cc.fy w2 hN1 (fun a j q => by unfold FcM at q; unfold pM; omega) (fun a j q => by unfold Fal at q; unfold pM; omega)), ⟨pmS m1 w2 hN1 (fun a j q1 q2 => id), pmD m2 w2 hN1 (fun a j q => by unfold FcM; omega), pmZ m3 w2 hN1 (fun a j q => by unfold FcM; omega), pmU m4 w2 hN1 (fun a j q => by unfold FcM; omega), pmR m5 w2 hN1 (fun a j q => by unfold FcM; omega), pmV m6 w2 hN1 (fun a j q => by unfold FcM; omega), pmI m7 w2 hN1 (fun a j q => by unfold FcM; omega), pmT m8 w2 hN1 (fun a j q => by unfold FcM; omega), mb, pmF m10 w2 hN1 (fun a j q => by unfold FcM; omega), pmQ m11 w2 hN1 (fun a j q => by unfold FcM; omega), pmW m12 w2 hN1 (fun a j q => by unfold FcM; omega)⟩⟩
theorem st_wave {l : Launch} {g : kx_G} {k : Nat} {h : kx_Mem} (hk : k < 512) (hG : Glob k h) : Bth l g m_Tc_wave m_Mo_wave [] k h 0 0 := by
  obtain ⟨D, A, U, rs, AV, DV, V, u, td, s1, s2, b, n, B, M, K, pu, f0, f1, nw, T, z, i, c, m⟩ := hG
  obtain ⟨i1, i2, i3, ⟨i4a, i4b, i4c, i4d⟩, i5, i6, ⟨i7a, i7b⟩, ⟨i8, i9, i10⟩, i11, i12, i13⟩ := id i
  obtain ⟨c1, ⟨c2, c2x⟩, c3, c4, c5, c6, c7, c8, c9, c10⟩ := id c
  refine kx_Sp.imp (x_Tc_wave (d := 21) c1 (D, K, pu) A i1 ⟨c2, c9.2.1, c9.2.2⟩ M i6 c9.1 AV DV V c5 u i4a c6.1 (i3 u i4a).2 td (by omega) c6.2.1) (fun v h1 hq => ?_)
  obtain ⟨rfl, ⟨dk, ck, cu⟩, hf⟩ := hq
  have w := hf.gw (Z := nvr)
  have hc1 : h1.2.2.2.2 = h.2.2.2.2 := by rw [hf.1]
  have hN1 : 154 ≤ h1.2.2.2.2 := by omega
  have hN2 : h1.2.2.2.2 < 1000000 := by omega
  have mm := m.fx w i11 (fun a j q => by unfold FpC at q; unfold pC; omega) (fun a j q => by exact q.elim) (fun _ _ q => q.elim)
  obtain ⟨ok, fi, sh⟩ : DKok (wavR (D, K, pu) M (rsN (V u) 10) td).2.1 ∧ FnI (wavR (D, K, pu) M (rsN (V u) 10) td).2 M ∧ shp D (wavR (D, K, pu) M (rsN (V u) 10) td).2.1 := wavR_ok i1 i6
  have cc : gC ((wavR (D, K, pu) M (rsN (V u) 10) td).2.1) A U rs AV DV V u td s1 s2 b n B M ((wavR (D, K, pu) M (rsN (V u) 10) td).2.2.1) ((wavR (D, K, pu) M (rsN (V u) 10) td).2.2.2) f0 f1 h1 := ⟨pcS0 c1 w i11, ⟨dk, sh.ax (c2x.gw w)⟩, pcU c3 w i11 (fun a j q => by unfold FpC; omega), pcR c4 w i11 (fun a j q => by unfold FpC; omega), pcV c5 w i11 (fun a j q => ⟨by unfold FpC; omega, id⟩) ⟨id, fun _ => id⟩, pcI c6 w i11 (fun a j q => by unfold FpC; omega), pcT c7 w i11 (fun a j q => by unfold FpC; omega), pcB c8 w i11 (fun a j q => by unfold FpC; omega), ⟨(w.p i11 (by decide) (by unfold FpC; omega)).trans c9.1, ck, cu⟩, pcQ c10 w i11 (fun a j q => by unfold FpC; omega)⟩
  clear m
  obtain ⟨m1, m2, m3, m4, m5, m6, m7, m8, m9, m10, m11, m12⟩ := id mm
  refine ⟨_, rfl, m1.k 0 rfl, kx_Sp.imp (y_wave (d := 23) m1 (D, K, pu) nw T i8 i1 ⟨m2, m10.2.1, m10.2.2⟩ M i6 m10.1 (V u) u i4a (i3 u i4a).2 (m6 u i4a) m7.1 td (by omega) m7.2.1) (fun v2 h2 hq2 => ?_)⟩
  obtain ⟨rfl, ⟨dkm, mk, mu⟩, hf2⟩ := hq2
  have w2 := hf2.gw (Z := nvr)
  have hc2 : h2.2.2.2.2 = h1.2.2.2.2 := by rw [hf2.1]
  have mz : ZRm (wavR (D, K, pu) M (rsN (V u) 10) td).2.1.2.2.1.1 h2 := by
    rw [sh.2.2.1]
    exact pmZ m3 w2 hN1 (fun a j q => by unfold FpM; dsimp only; omega)
  exact ⟨rfl, (wavR (D, K, pu) M (rsN (V u) 10) td).2.1, A, U, rs, AV, DV, V, u, td, s1, s2, b, n, B, M, (wavR (D, K, pu) M (rsN (V u) 10) td).2.2.1, (wavR (D, K, pu) M (rsN (V u) 10) td).2.2.2, f0, f1, nw, T, z, ⟨ok, i2, i3, ⟨i4a, i4b, i4c, i4d⟩, i5, fi, ⟨sh.f5 i7a, sh.ft i7b⟩, ⟨i8, i9, by omega⟩, by omega, by omega, hk⟩, (cc.fy w2 hN1 (fun a j q => by unfold FpM at q; unfold pM; omega) (fun a j q => by exact q.elim)), ⟨pmS m1 w2 hN1 (fun a j q1 q2 => id), dkm, mz, pmU m4 w2 hN1 (fun a j q => by unfold FpM; omega), pmR m5 w2 hN1 (fun a j q => by unfold FpM; omega), pmV m6 w2 hN1 (fun a j q => by unfold FpM; omega), pmI m7 w2 hN1 (fun a j q => by unfold FpM; omega), pmT m8 w2 hN1 (fun a j q => by unfold FpM; omega), pmB m9 w2 hN1 (fun a j q => by unfold FpM; omega), ⟨(w2.p hN1 (by decide) (by unfold FpM; omega)).trans m10.1, mk, mu⟩, pmQ m11 w2 hN1 (fun a j q => by unfold FpM; omega), pmW m12 w2 hN1 (fun a j q => by unfold FpM; omega)⟩⟩
theorem st_last {l : Launch} {g : kx_G} {k : Nat} {h : kx_Mem} (hk : k < 512) (hG : Glob k h) : Bth l g m_Tc_last m_Mo_last [] k h 0 0 := by
  obtain ⟨D, A, U, rs, AV, DV, V, u, td, s1, s2, b, n, B, M, K, pu, f0, f1, nw, T, z, i, c, m⟩ := hG
  obtain ⟨i1, i2, i3, ⟨i4a, i4b, i4c, i4d⟩, i5, i6, ⟨i7a, i7b⟩, ⟨i8, i9, i10⟩, i11, i12, i13⟩ := id i
  obtain ⟨c1, ⟨c2, c2x⟩, c3, c4, c5, c6, c7, c8, c9, c10⟩ := id c
  refine kx_Sp.imp (x_Tc_last (d := 21) c1 (D, K, pu) A i1 ⟨c2, c9.2.1, c9.2.2⟩ M i6 td (by omega) c6.2.1) (fun v h1 hq => ?_)
  obtain ⟨rfl, ⟨dk, ck, cu⟩, hf⟩ := hq
  have w := hf.gw (Z := nvr)
  have hc1 : h1.2.2.2.2 = h.2.2.2.2 := by rw [hf.2.2]
  have hN1 : 154 ≤ h1.2.2.2.2 := by omega
  have hN2 : h1.2.2.2.2 < 1000000 := by omega
  have mm := m.fx w i11 (fun a j q => by unfold FpC at q; unfold pC; omega) (fun a j q => by unfold FqL at q; unfold pC; omega) (fun _ _ q => q.elim)
  obtain ⟨ok, fi, sh⟩ : DKok (lasR (D, K, pu) td).2.1 ∧ FnI (lasR (D, K, pu) td).2 M ∧ shp D (lasR (D, K, pu) td).2.1 := lasR_ok i1 i6
  have cc : gC ((lasR (D, K, pu) td).2.1) A U rs AV DV V u td s1 s2 b n B M ((lasR (D, K, pu) td).2.2.1) ((lasR (D, K, pu) td).2.2.2) f0 f1 h1 := ⟨pcS0 c1 w i11, ⟨dk, sh.ax (c2x.gw w)⟩, pcU c3 w i11 (fun a j q => by unfold FpC; omega), pcR c4 w i11 (fun a j q => by unfold FpC; omega), pcV c5 w i11 (fun a j q => ⟨by unfold FpC; omega, by unfold FqL; omega⟩) ⟨id, fun _ => id⟩, pcI c6 w i11 (fun a j q => by unfold FpC; omega), pcT c7 w i11 (fun a j q => by unfold FpC; omega), pcB c8 w i11 (fun a j q => by unfold FpC; omega), ⟨(w.p i11 (by decide) (by unfold FpC; omega)).trans c9.1, ck, cu⟩, pcQ c10 w i11 (fun a j q => by unfold FpC; omega)⟩
  clear m
  obtain ⟨m1, m2, m3, m4, m5, m6, m7, m8, m9, m10, m11, m12⟩ := id mm
  refine ⟨_, rfl, m1.k 0 rfl, kx_Sp.imp (y_last (d := 23) m1 (D, K, pu) nw T i8 i1 ⟨m2, m10.2.1, m10.2.2⟩ M i6 td (by omega) m7.2.1) (fun v2 h2 hq2 => ?_)⟩
  obtain ⟨rfl, ⟨dkm, mk, mu⟩, hf2⟩ := hq2
  have w2 := hf2.gw (Z := nvr)
  have hc2 : h2.2.2.2.2 = h1.2.2.2.2 := by rw [hf2.2.2]
  have mz : ZRm (lasR (D, K, pu) td).2.1.2.2.1.1 h2 := by
    rw [sh.2.2.1]
    exact pmZ m3 w2 hN1 (fun a j q => by unfold FlM FpM; dsimp only; omega)
  exact ⟨rfl, (lasR (D, K, pu) td).2.1, A, U, rs, AV, DV, V, u, td, s1, s2, b, n, B, M, (lasR (D, K, pu) td).2.2.1, (lasR (D, K, pu) td).2.2.2, f0, f1, nw, T, z, ⟨ok, i2, i3, ⟨i4a, i4b, i4c, i4d⟩, i5, fi, ⟨sh.f5 i7a, sh.ft i7b⟩, ⟨i8, i9, by omega⟩, by omega, by omega, hk⟩, (cc.fy w2 hN1 (fun a j q => by unfold FlM FpM at q; unfold pM; omega) (fun a j q => by unfold FlL at q; unfold pM; omega)), ⟨pmS m1 w2 hN1 (fun a j q1 q2 => id), dkm, mz, pmU m4 w2 hN1 (fun a j q => by unfold FlM FpM; omega), pmR m5 w2 hN1 (fun a j q => by unfold FlM FpM; omega), pmV m6 w2 hN1 (fun a j q => by unfold FlM FpM; omega), pmI m7 w2 hN1 (fun a j q => by unfold FlM FpM; omega), pmT m8 w2 hN1 (fun a j q => by unfold FlM FpM; omega), pmB m9 w2 hN1 (fun a j q => by unfold FlM FpM; omega), ⟨(w2.p hN1 (by decide) (by unfold FlM FpM; omega)).trans m10.1, mk, mu⟩, pmQ m11 w2 hN1 (fun a j q => by unfold FlM FpM; omega), pmW m12 w2 hN1 (fun a j q => by unfold FlM FpM; omega)⟩⟩
