/-! calls that read the tape, on both sides -/
theorem clmR_inv {D : DK} {rs : RS} {td w K M : Nat} {pu : Nat → Int32} {a b c e u m : Int32} (htd : td ≤ 1999) (i6 : FnI (D, K, pu) M) (i7a : ∀ c, c < D.2.2.1.1 → cN D.2.2.1 c 5 ≤ td) (i7b : ∀ q, q < D.2.1.1 → D.2.1.2.1 q ≤ td) : FnI ((clmR D rs td w a b c e u m).2, K, pu) M ∧ (∀ c', c' < (clmR D rs td w a b c e u m).2.2.2.1.1 → cN (clmR D rs td w a b c e u m).2.2.2.1 c' 5 ≤ td) ∧ ∀ q, q < (clmR D rs td w a b c e u m).2.2.1.1 → (clmR D rs td w a b c e u m).2.2.1.2.1 q ≤ td := by
  unfold clmR
  split
  · split
    · exact ⟨i6, i7a, i7b⟩
    · split
      · exact ⟨i6, i7a, i7b⟩
      · refine ⟨⟨i6.1, i6.2.1, fun c' hc => ?_⟩, fun c' hc => ?_, i7b⟩
        · have hc : c' < D.2.2.1.1 + 1 := hc
          show (if c' = D.2.2.1.1 then newF _ _ _ _ _ td 11 else D.2.2.1.2.1 c' 11) = nI (if c' = D.2.2.1.1 then newF _ _ _ _ _ td 11 else D.2.2.1.2.1 c' 11).toNatClampNeg ∧ (if c' = D.2.2.1.1 then newF _ _ _ _ _ td 11 else D.2.2.1.2.1 c' 11).toNatClampNeg + K ≤ M
          by_cases e9 : c' = D.2.2.1.1
          · rw [if_pos e9]
            exact ⟨rfl, by show 0 + K ≤ M; have : K ≤ M := i6.2.1; omega⟩
          · rw [if_neg e9]
            exact i6.2.2 c' (by show c' < D.2.2.1.1; omega)
        · have hc : c' < D.2.2.1.1 + 1 := hc
          show (if c' = D.2.2.1.1 then newF _ _ _ _ _ td 5 else D.2.2.1.2.1 c' 5).toNatClampNeg ≤ td
          by_cases e9 : c' = D.2.2.1.1
          · rw [if_pos e9]
            show (nI td).toNatClampNeg ≤ td
            rw [nI_clamp (by omega)]
            exact Nat.le_refl _
          · rw [if_neg e9]
            exact i7a c' (by omega)
  · exact ⟨i6, i7a, i7b⟩
theorem papR_inv {D : DK} {td w K M : Nat} {pu : Nat → Int32} {a b c : Int32} (i6 : FnI (D, K, pu) M) (i7a : ∀ c, c < D.2.2.1.1 → cN D.2.2.1 c 5 ≤ td) (i7b : ∀ q, q < D.2.1.1 → D.2.1.2.1 q ≤ td) : FnI ((papR D td w a b c).2, K, pu) M ∧ (∀ c', c' < (papR D td w a b c).2.2.2.1.1 → cN (papR D td w a b c).2.2.2.1 c' 5 ≤ td) ∧ ∀ q, q < (papR D td w a b c).2.2.1.1 → (papR D td w a b c).2.2.1.2.1 q ≤ td := by
  unfold papR
  split
  · split
    · exact ⟨i6, i7a, i7b⟩
    · split
      · exact ⟨i6, i7a, i7b⟩
      · exact ⟨i6, i7a, i7b⟩
  · exact ⟨i6, i7a, i7b⟩
theorem st_claim {l : Launch} {g : kx_G} {k : Nat} {h : kx_Mem} (hk : k < 512) (hG : Glob k h) (a1 a2 a3 a4 a5 a6 : Int32) : Bth l g m_Tc_claim m_Mo_claim [.int a1, .int a2, .int a3, .int a4, .int a5, .int a6] k h 2 500 := by
  obtain ⟨D, A, U, rs, AV, DV, V, u, td, s1, s2, b, n, B, M, K, pu, f0, f1, nw, T, z, i, c, m⟩ := hG
  obtain ⟨i1, i2, i3, ⟨i4a, i4b, i4c, i4d⟩, i5, i6, ⟨i7a, i7b⟩, ⟨i8, i9, i10⟩, i11, i12, i13⟩ := id i
  obtain ⟨c1, ⟨c2, c2x⟩, c3, c4, c5, c6, c7, c8, c9, c10⟩ := id c
  refine kx_Sp.imp (x_Tc_claim (d := 22) c1 b n c7 D A i1 c2 c2x (by omega) td c6.2.1 rs i2 c4 a1 a2 a3 a4 a5 a6) (fun v h1 hq => ?_)
  obtain ⟨rfl, q1, ⟨A', dk, dx⟩, w, hcc⟩ := hq
  have hcm := w.1
  have hN1 : 154 ≤ h1.2.2.2.2 := by omega
  have hN2 : h1.2.2.2.2 < 1000000 := by omega
  have mm := m.fx w i11 (fun a j q => by unfold FcP at q; unfold pC; omega) (fun a j q => by unfold FtL at q; unfold pC; omega) (fun a j q => by unfold FcZ at q; unfold pC; omega)
  have cc : gC ((clmR D rs td (oneW b n) a1 a2 a3 a4 a5 a6).2) (A') U rs AV DV V u td s1 s2 b 0 B M K pu f0 f1 h1 := ⟨pcS c1 w i11 (fun q hq => (rC_z q hq).2), ⟨dk, dx⟩, pcU c3 w i11 (fun a j q => by unfold FcP; omega), pcR c4 w i11 (fun a j q => by unfold FcP; omega), pcV c5 w i11 (fun a j q => ⟨by unfold FcP; omega, by unfold FtL; omega⟩) ⟨by unfold FcZ; omega, fun j => by unfold FcZ; omega⟩, pcI c6 w i11 (fun a j q => by unfold FcP; omega), ⟨q1, by decide, fun j hj => absurd hj (Nat.not_lt_zero j)⟩, pcB c8 w i11 (fun a j q => by unfold FcP; omega), pcF c9 w i11 (fun a j q => by unfold FcP; omega), pcQ c10 w i11 (fun a j q => by unfold FcP; omega)⟩
  clear m
  obtain ⟨m1, m2, m3, m4, m5, m6, m7, m8, m9, m10, m11, m12⟩ := id mm
  refine ⟨_, rfl, m1.k 0 rfl, kx_Sp.imp (y_claim (d := 27) b n nw T z m1 i5 m8 ⟨i8, m12, i9⟩ (by omega) D i1 m2 m3 td i4b m7.2.1 i7b rs i2 m5 a1 a2 a3 a4 a5 a6) (fun v2 h2 hq2 => ?_)⟩
  obtain ⟨nw', T', he, ⟨wok, wtm, wzz⟩, p1, rfl, ok, dkm, mz, hf2⟩ := hq2
  have w2 := hf2.gw (Z := nvr)
  have hc2 : h2.2.2.2.2 = h1.2.2.2.2 := by rw [hf2.1]
  obtain ⟨fi, f5, ft⟩ := clmR_inv (D := D) (rs := rs) (td := td) (w := oneW b n) (a := a1) (b := a2) (c := a3) (e := a4) (u := a5) (m := a6) i4b i6 i7a i7b
  exact ⟨rfl, (clmR D rs td (oneW b n) a1 a2 a3 a4 a5 a6).2, A', U, rs, AV, DV, V, u, td, s1, s2, b, 0, B, M, K, pu, f0, f1, nw', T', (z + 1), ⟨ok, i2, i3, ⟨i4a, i4b, i4c, i4d⟩, i5, fi, ⟨f5, ft⟩, ⟨wok, wzz, by omega⟩, by omega, by omega, hk⟩, (cc.fy w2 hN1 (fun a j q => by unfold FrC FrW at q; unfold pM; omega) (fun a j q => by exact q.elim)), ⟨pmS m1 w2 hN1 (fun a j q1 q2 => id), dkm, mz, pmU m4 w2 hN1 (fun a j q => by unfold FrC FrW; omega), pmR m5 w2 hN1 (fun a j q => by unfold FrC FrW; omega), fun v hv => (pmV m6 w2 hN1 (fun a j q => by unfold FrC FrW; omega) v hv).ex he, pmI m7 w2 hN1 (fun a j q => by unfold FrC FrW; omega), ⟨p1, by decide, fun j hj => absurd hj (Nat.not_lt_zero j)⟩, pmB m9 w2 hN1 (fun a j q => by unfold FrC FrW; omega), pmF m10 w2 hN1 (fun a j q => by unfold FrC FrW; omega), pmQ m11 w2 hN1 (fun a j q => by unfold FrC FrW; omega), wtm⟩⟩
theorem st_paper {l : Launch} {g : kx_G} {k : Nat} {h : kx_Mem} (hk : k < 512) (hG : Glob k h) (a1 a2 a3 : Int32) : Bth l g m_Tc_paper m_Mo_paper [.int a1, .int a2, .int a3] k h 2 500 := by
  obtain ⟨D, A, U, rs, AV, DV, V, u, td, s1, s2, b, n, B, M, K, pu, f0, f1, nw, T, z, i, c, m⟩ := hG
  obtain ⟨i1, i2, i3, ⟨i4a, i4b, i4c, i4d⟩, i5, i6, ⟨i7a, i7b⟩, ⟨i8, i9, i10⟩, i11, i12, i13⟩ := id i
  obtain ⟨c1, ⟨c2, c2x⟩, c3, c4, c5, c6, c7, c8, c9, c10⟩ := id c
  refine kx_Sp.imp (x_Tc_paper (d := 22) c1 b n c7 D A i1 c2 c2x (by omega) td c6.2.1 a1 a2 a3) (fun v h1 hq => ?_)
  obtain ⟨rfl, q1, ⟨A', dk, dx⟩, w, hcc⟩ := hq
  have hcm := w.1
  have hN1 : 154 ≤ h1.2.2.2.2 := by omega
  have hN2 : h1.2.2.2.2 < 1000000 := by omega
  have mm := m.fx w i11 (fun a j q => by unfold FcP at q; unfold pC; omega) (fun a j q => by unfold FtL at q; unfold pC; omega) (fun a j q => by unfold FcZ at q; unfold pC; omega)
  have cc : gC ((papR D td (oneW b n) a1 a2 a3).2) (A') U rs AV DV V u td s1 s2 b 0 B M K pu f0 f1 h1 := ⟨pcS c1 w i11 (fun q hq => (rC_z q hq).2), ⟨dk, dx⟩, pcU c3 w i11 (fun a j q => by unfold FcP; omega), pcR c4 w i11 (fun a j q => by unfold FcP; omega), pcV c5 w i11 (fun a j q => ⟨by unfold FcP; omega, by unfold FtL; omega⟩) ⟨by unfold FcZ; omega, fun j => by unfold FcZ; omega⟩, pcI c6 w i11 (fun a j q => by unfold FcP; omega), ⟨q1, by decide, fun j hj => absurd hj (Nat.not_lt_zero j)⟩, pcB c8 w i11 (fun a j q => by unfold FcP; omega), pcF c9 w i11 (fun a j q => by unfold FcP; omega), pcQ c10 w i11 (fun a j q => by unfold FcP; omega)⟩
  clear m
  obtain ⟨m1, m2, m3, m4, m5, m6, m7, m8, m9, m10, m11, m12⟩ := id mm
  refine ⟨_, rfl, m1.k 0 rfl, kx_Sp.imp (y_paper (d := 27) b n nw T z m1 i5 m8 ⟨i8, m12, i9⟩ (by omega) D i1 m2 m3 td i4b m7.2.1 a1 a2 a3) (fun v2 h2 hq2 => ?_)⟩
  obtain ⟨nw', T', he, ⟨wok, wtm, wzz⟩, p1, rfl, ok, dkm, mz, hf2⟩ := hq2
  have w2 := hf2.gw (Z := nvr)
  have hc2 : h2.2.2.2.2 = h1.2.2.2.2 := by rw [hf2.1]
  obtain ⟨fi, f5, ft⟩ := papR_inv (D := D) (td := td) (w := oneW b n) (a := a1) (b := a2) (c := a3) i6 i7a i7b
  exact ⟨rfl, (papR D td (oneW b n) a1 a2 a3).2, A', U, rs, AV, DV, V, u, td, s1, s2, b, 0, B, M, K, pu, f0, f1, nw', T', (z + 1), ⟨ok, i2, i3, ⟨i4a, i4b, i4c, i4d⟩, i5, fi, ⟨f5, ft⟩, ⟨wok, wzz, by omega⟩, by omega, by omega, hk⟩, (cc.fy w2 hN1 (fun a j q => by unfold FrC FrW at q; unfold pM; omega) (fun a j q => by exact q.elim)), ⟨pmS m1 w2 hN1 (fun a j q1 q2 => id), dkm, mz, pmU m4 w2 hN1 (fun a j q => by unfold FrC FrW; omega), pmR m5 w2 hN1 (fun a j q => by unfold FrC FrW; omega), fun v hv => (pmV m6 w2 hN1 (fun a j q => by unfold FrC FrW; omega) v hv).ex he, pmI m7 w2 hN1 (fun a j q => by unfold FrC FrW; omega), ⟨p1, by decide, fun j hj => absurd hj (Nat.not_lt_zero j)⟩, pmB m9 w2 hN1 (fun a j q => by unfold FrC FrW; omega), pmF m10 w2 hN1 (fun a j q => by unfold FrC FrW; omega), pmQ m11 w2 hN1 (fun a j q => by unfold FrC FrW; omega), wtm⟩⟩
theorem st_need {l : Launch} {g : kx_G} {k : Nat} {h : kx_Mem} (hk : k < 512) (hG : Glob k h) (a1 : Int32) : Bth l g m_Tc_need m_Mo_need [.int a1] k h 0 0 := by
  obtain ⟨D, A, U, rs, AV, DV, V, u, td, s1, s2, b, n, B, M, K, pu, f0, f1, nw, T, z, i, c, m⟩ := hG
  obtain ⟨i1, i2, i3, ⟨i4a, i4b, i4c, i4d⟩, i5, i6, ⟨i7a, i7b⟩, ⟨i8, i9, i10⟩, i11, i12, i13⟩ := id i
  obtain ⟨c1, ⟨c2, c2x⟩, c3, c4, c5, c6, c7, c8, c9, c10⟩ := id c
  refine kx_Sp.imp (x_Tc_need (d := 26) c1 b n c7 AV DV V c5 a1) (fun v h1 hq => ?_)
  obtain ⟨hf, q1, hv⟩ := hq
  have hf : kx_Fg (fun a j => a = 1 ∧ 1 ≤ j ∧ j ≤ 5) FtL h h1 := hf
  have w := hf.gw (Z := nvr)
  have hc1 : h1.2.2.2.2 = h.2.2.2.2 := by rw [hf.2.2]
  have hN1 : 154 ≤ h1.2.2.2.2 := by omega
  have hN2 : h1.2.2.2.2 < 1000000 := by omega
  have mm := m.fx w i11 (fun a j q => by skip; unfold pC; omega) (fun a j q => by unfold FtL at q; unfold pC; omega) (fun _ _ q => q.elim)
  have cc : gC D A U rs AV DV V u td s1 s2 b 0 B M K pu f0 f1 h1 := ⟨pcS0 c1 w i11, pcD ⟨c2, c2x⟩ w (fun a j q => ⟨by skip; omega, by unfold FtL; omega⟩), pcU c3 w i11 (fun a j q => by skip; omega), pcR c4 w i11 (fun a j q => by skip; omega), pcV c5 w i11 (fun a j q => ⟨by skip; omega, by unfold FtL; omega⟩) ⟨id, fun _ => id⟩, pcI c6 w i11 (fun a j q => by skip; omega), ⟨q1, by decide, fun j hj => absurd hj (Nat.not_lt_zero j)⟩, pcB c8 w i11 (fun a j q => by skip; omega), pcF c9 w i11 (fun a j q => by skip; omega), pcQ c10 w i11 (fun a j q => by skip; omega)⟩
  clear m
  obtain ⟨m1, m2, m3, m4, m5, m6, m7, m8, m9, m10, m11, m12⟩ := id mm
  have key : ∃ y : Int32, v = some (.int y) ∧ ∀ v2, ((¬ vrs a1 ∧ v2 = some (.int (-2))) ∨ ∃ v9, v9 < 4 ∧ a1 = nI v9 ∧ ((oneW b n = 0 ∧ v2 = some (.int (-1))) ∨ (0 < oneW b n ∧ v2 = some (.int (nI (nedF (V v9) (oneW b n))))))) → v2 = some (Value.int y) := by
    rcases hv with ⟨e1, rfl⟩ | ⟨v9, hv9, rfl, hv⟩
    · refine ⟨_, rfl, fun v2 hv2 => ?_⟩
      rcases hv2 with ⟨-, rfl⟩ | ⟨v8, hv8, rfl, -⟩
      · rfl
      · exact absurd (show vrs (nI v8) from ⟨by rw [show (0 : Int32) = nI 0 from rfl, nI_leI (by decide) (by omega)]; exact Nat.zero_le _, (nI_leI (b := 3) (by omega) (by decide)).mpr (by omega)⟩) e1
    · have hvr : vrs (nI v9) := ⟨by rw [show (0 : Int32) = nI 0 from rfl, nI_leI (by decide) (by omega)]; exact Nat.zero_le _, (nI_leI (b := 3) (by omega) (by decide)).mpr (by omega)⟩
      rcases hv with ⟨e2, rfl⟩ | ⟨e2, rfl⟩
      · refine ⟨_, rfl, fun v2 hv2 => ?_⟩
        rcases hv2 with ⟨e3, -⟩ | ⟨v8, hv8, -, ⟨-, rfl⟩ | ⟨e3, -⟩⟩
        · exact absurd hvr e3
        · rfl
        · omega
      · refine ⟨_, rfl, fun v2 hv2 => ?_⟩
        rcases hv2 with ⟨e3, -⟩ | ⟨v8, hv8, e4, ⟨e3, -⟩ | ⟨e3, rfl⟩⟩
        · exact absurd hvr e3
        · omega
        · have e4 : v9 = v8 := (nI_eq (by omega) (by omega)).mp e4
          subst e4
          rfl
  obtain ⟨y, rfl, key⟩ := key
  refine ⟨_, rfl, m1.k 0 rfl, kx_Sp.imp (y_need (d := 27) b n nw T z V ⟨m1, i5, m8, ⟨i8, m12, i9⟩, (fun v hv => ⟨(i3 v hv).1, m6 v hv⟩), hN1, hN2⟩ (by omega) a1) (fun v2 h2 hq2 => ?_)⟩
  obtain ⟨nw', T', he, ⟨wok, wtm, wzz⟩, hf2, p1, mv, hv2⟩ := hq2
  have w2 := hf2.gw (Z := nvr)
  have hc2 : h2.2.2.2.2 = h1.2.2.2.2 := by rw [hf2.1]
  exact ⟨key _ hv2, D, A, U, rs, AV, DV, V, u, td, s1, s2, b, 0, B, M, K, pu, f0, f1, nw', T', (z + 1), ⟨i1, i2, i3, ⟨i4a, i4b, i4c, i4d⟩, i5, i6, ⟨i7a, i7b⟩, ⟨wok, wzz, by omega⟩, by omega, by omega, hk⟩, (cc.fy w2 hN1 (fun a j q => by unfold FrW at q; unfold pM; omega) (fun a j q => by exact q.elim)), ⟨pmS m1 w2 hN1 (fun a j q1 q2 => id), (pmD m2 w2 hN1 (fun a j q => by unfold FrW; omega)).ex he, pmZ m3 w2 hN1 (fun a j q => by unfold FrW; omega), pmU m4 w2 hN1 (fun a j q => by unfold FrW; omega), pmR m5 w2 hN1 (fun a j q => by unfold FrW; omega), mv, pmI m7 w2 hN1 (fun a j q => by unfold FrW; omega), ⟨p1, by decide, fun j hj => absurd hj (Nat.not_lt_zero j)⟩, pmB m9 w2 hN1 (fun a j q => by unfold FrW; omega), pmF m10 w2 hN1 (fun a j q => by unfold FrW; omega), pmQ m11 w2 hN1 (fun a j q => by unfold FrW; omega), wtm⟩⟩
theorem st_kind {l : Launch} {g : kx_G} {k : Nat} {h : kx_Mem} (hk : k < 512) (hG : Glob k h) (a1 : Int32) : Bth l g m_Tc_kind m_Mo_kind [.int a1] k h 0 0 := by
  obtain ⟨D, A, U, rs, AV, DV, V, u, td, s1, s2, b, n, B, M, K, pu, f0, f1, nw, T, z, i, c, m⟩ := hG
  obtain ⟨i1, i2, i3, ⟨i4a, i4b, i4c, i4d⟩, i5, i6, ⟨i7a, i7b⟩, ⟨i8, i9, i10⟩, i11, i12, i13⟩ := id i
  obtain ⟨c1, ⟨c2, c2x⟩, c3, c4, c5, c6, c7, c8, c9, c10⟩ := id c
  refine kx_Sp.imp (x_Tc_kind (d := 26) c1 b n c7 AV DV V c5 a1) (fun v h1 hq => ?_)
  obtain ⟨hf, q1, hv⟩ := hq
  have hf : kx_Fg (fun a j => a = 1 ∧ 1 ≤ j ∧ j ≤ 5) FtL h h1 := hf
  have w := hf.gw (Z := nvr)
  have hc1 : h1.2.2.2.2 = h.2.2.2.2 := by rw [hf.2.2]
  have hN1 : 154 ≤ h1.2.2.2.2 := by omega
  have hN2 : h1.2.2.2.2 < 1000000 := by omega
  have mm := m.fx w i11 (fun a j q => by skip; unfold pC; omega) (fun a j q => by unfold FtL at q; unfold pC; omega) (fun _ _ q => q.elim)
  have cc : gC D A U rs AV DV V u td s1 s2 b 0 B M K pu f0 f1 h1 := ⟨pcS0 c1 w i11, pcD ⟨c2, c2x⟩ w (fun a j q => ⟨by skip; omega, by unfold FtL; omega⟩), pcU c3 w i11 (fun a j q => by skip; omega), pcR c4 w i11 (fun a j q => by skip; omega), pcV c5 w i11 (fun a j q => ⟨by skip; omega, by unfold FtL; omega⟩) ⟨id, fun _ => id⟩, pcI c6 w i11 (fun a j q => by skip; omega), ⟨q1, by decide, fun j hj => absurd hj (Nat.not_lt_zero j)⟩, pcB c8 w i11 (fun a j q => by skip; omega), pcF c9 w i11 (fun a j q => by skip; omega), pcQ c10 w i11 (fun a j q => by skip; omega)⟩
  clear m
  obtain ⟨m1, m2, m3, m4, m5, m6, m7, m8, m9, m10, m11, m12⟩ := id mm
  have key : ∃ y : Int32, v = some (.int y) ∧ ∀ v2, ((¬ vrs a1 ∧ v2 = some (.int (-2))) ∨ ∃ v9, v9 < 4 ∧ a1 = nI v9 ∧ ((oneW b n = 0 ∧ v2 = some (.int (-1))) ∨ (0 < oneW b n ∧ v2 = some (.int (oI (kiF (V v9) (oneW b n))))))) → v2 = some (Value.int y) := by
    rcases hv with ⟨e1, rfl⟩ | ⟨v9, hv9, rfl, hv⟩
    · refine ⟨_, rfl, fun v2 hv2 => ?_⟩
      rcases hv2 with ⟨-, rfl⟩ | ⟨v8, hv8, rfl, -⟩
      · rfl
      · exact absurd (show vrs (nI v8) from ⟨by rw [show (0 : Int32) = nI 0 from rfl, nI_leI (by decide) (by omega)]; exact Nat.zero_le _, (nI_leI (b := 3) (by omega) (by decide)).mpr (by omega)⟩) e1
    · have hvr : vrs (nI v9) := ⟨by rw [show (0 : Int32) = nI 0 from rfl, nI_leI (by decide) (by omega)]; exact Nat.zero_le _, (nI_leI (b := 3) (by omega) (by decide)).mpr (by omega)⟩
      rcases hv with ⟨e2, rfl⟩ | ⟨e2, rfl⟩
      · refine ⟨_, rfl, fun v2 hv2 => ?_⟩
        rcases hv2 with ⟨e3, -⟩ | ⟨v8, hv8, -, ⟨-, rfl⟩ | ⟨e3, -⟩⟩
        · exact absurd hvr e3
        · rfl
        · omega
      · refine ⟨_, rfl, fun v2 hv2 => ?_⟩
        rcases hv2 with ⟨e3, -⟩ | ⟨v8, hv8, e4, ⟨e3, -⟩ | ⟨e3, rfl⟩⟩
        · exact absurd hvr e3
        · omega
        · have e4 : v9 = v8 := (nI_eq (by omega) (by omega)).mp e4
          subst e4
          rfl
  obtain ⟨y, rfl, key⟩ := key
  refine ⟨_, rfl, m1.k 0 rfl, kx_Sp.imp (y_kind (d := 27) b n nw T z V ⟨m1, i5, m8, ⟨i8, m12, i9⟩, (fun v hv => ⟨(i3 v hv).1, m6 v hv⟩), hN1, hN2⟩ (by omega) a1) (fun v2 h2 hq2 => ?_)⟩
  obtain ⟨nw', T', he, ⟨wok, wtm, wzz⟩, hf2, p1, mv, hv2⟩ := hq2
  have w2 := hf2.gw (Z := nvr)
  have hc2 : h2.2.2.2.2 = h1.2.2.2.2 := by rw [hf2.1]
  exact ⟨key _ hv2, D, A, U, rs, AV, DV, V, u, td, s1, s2, b, 0, B, M, K, pu, f0, f1, nw', T', (z + 1), ⟨i1, i2, i3, ⟨i4a, i4b, i4c, i4d⟩, i5, i6, ⟨i7a, i7b⟩, ⟨wok, wzz, by omega⟩, by omega, by omega, hk⟩, (cc.fy w2 hN1 (fun a j q => by unfold FrW at q; unfold pM; omega) (fun a j q => by exact q.elim)), ⟨pmS m1 w2 hN1 (fun a j q1 q2 => id), (pmD m2 w2 hN1 (fun a j q => by unfold FrW; omega)).ex he, pmZ m3 w2 hN1 (fun a j q => by unfold FrW; omega), pmU m4 w2 hN1 (fun a j q => by unfold FrW; omega), pmR m5 w2 hN1 (fun a j q => by unfold FrW; omega), mv, pmI m7 w2 hN1 (fun a j q => by unfold FrW; omega), ⟨p1, by decide, fun j hj => absurd hj (Nat.not_lt_zero j)⟩, pmB m9 w2 hN1 (fun a j q => by unfold FrW; omega), pmF m10 w2 hN1 (fun a j q => by unfold FrW; omega), pmQ m11 w2 hN1 (fun a j q => by unfold FrW; omega), wtm⟩⟩
/-! a text's settings stay within their bounds -/
def setB (j x : Nat) : Prop := (j < 11 → j ≠ 7 → x ≤ 1999) ∧ (j = 4 → x ≤ 99) ∧ (j = 5 → x ≤ 1) ∧ (j = 6 → x ≤ 2) ∧ (j = 8 → x ≤ 10) ∧ (j = 10 → 1 ≤ x ∧ x ≤ 100) ∧ (j = 7 → 1 ≤ x ∧ x ≤ 9999)
theorem RSet.st {r : RU} (h : RSet r) {j x : Nat} (hx : x < 2 ^ 31) (hb : setB j x) : RSet (ruSet r j (nI x)) := by
  obtain ⟨h1, h2, h3, h4, h5, h6, h7, h8, h9⟩ := h
  obtain ⟨b1, b2, b3, b4, b5, b6, b7⟩ := hb
  have eS : ∀ i, ruS (ruSet r j (nI x)) i = if i = j then nI x else ruS r i := fun i => by
    show upF (ruS r) j (nI x) i = _
    unfold upF
    rfl
  have eN : ∀ i, rsN (ruSet r j (nI x)) i = if i = j then x else rsN r i := fun i => by
    show (ruS (ruSet r j (nI x)) i).toNatClampNeg = _
    rw [eS]
    split
    · rw [nI_clamp hx]
    · rfl
  refine ⟨fun i hi h7 => ?_, fun i hi h7 => ?_, ?_, ?_, ?_, ?_, ?_, ?_, ?_⟩
  · rw [eS, eN]
    split
    · rfl
    · exact h1 i hi h7
  · rw [eN]
    split
    next e => subst e; exact b1 hi h7
    next => exact h2 i hi h7
  · rw [eN]
    split
    next e => exact b2 e.symm
    next => exact h3
  · rw [eN]
    split
    next e => exact b3 e.symm
    next => exact h4
  · rw [eN]
    split
    next e => exact b4 e.symm
    next => exact h5
  · rw [eN]
    split
    next e => exact b5 e.symm
    next => exact h6
  · rw [eN]
    split
    next e => exact (b6 e.symm).1
    next => exact h7
  · rw [eN]
    split
    next e => exact (b6 e.symm).2
    next => exact h8
  · rw [eS, eN]
    by_cases e : 7 = j
    · rw [if_pos e, if_pos e]
      exact Or.inr ⟨rfl, (b7 e.symm).1, (b7 e.symm).2⟩
    · rw [if_neg e, if_neg e]
      exact h9
theorem RSet.of {r r' : RU} (h : RSet r) (e : ruS r' = ruS r) : RSet r' := by
  unfold RSet rsN at *
  rw [e]
  exact h
theorem numF_v {b : Nat → Int32} {n i lo hi : Nat} {q : Nat × Nat} (h : numF b n i lo hi = .inr q) : lo ≤ q.1 ∧ q.1 ≤ hi := by
  unfold numF at h
  split at h
  · split at h
    next e => cases h; exact e
    next => cases h
  · cases h
theorem setF2_set {b : Nat → Int32} {n i s lo hi : Nat} {r : RU} {x : RU × Nat} (hr : RSet r) (hb : ∀ v, lo ≤ v → v ≤ hi → setB s v) (hh : hi ≤ 9999) (h : setF2 b n i r s lo hi = .inr x) : RSet x.1 := by
  unfold setF2 at h
  split at h
  next => cases h
  next q hq =>
    cases h
    have := numF_v hq
    exact hr.st (by omega) (hb _ this.1 this.2)
theorem chcF_set {b : Nat → Int32} {n i s : Nat} {nm : List Nat} {r : RU} {x : RU × Nat} (hr : RSet r) (hb : ∀ v, v < nm.length → setB s v) (hn : nm.length ≤ 100) (h : chcF b n i r s nm = .inr x) : RSet x.1 := by
  unfold chcF at h
  split at h
  next => cases h
  next q hq =>
    cases h
    have := (chO_lt hq).2
    exact hr.st (by omega) (hb _ this)
theorem kdF_S {b : Nat → Int32} {n i : Nat} {r : RU} {x : Nat × RU × Nat} (h : kdF b n i r = .inr x) : ruS x.2.1 = ruS r := by
  unfold kdF at h
  split at h
  · split at h
    · cases h; rfl
    · split at h
      · cases h
      · cases h; rfl
  · cases h
theorem bodF_set {c : Nat} {b : Nat → Int32} {n i : Nat} {r : RU} {x : RU × Nat} (hr : RSet r) (h : bodF c b n i r = .inr x) : RSet x.1 := by
  unfold bodF at h
  by_cases e0 : c = 0
  · rw [if_pos e0] at h; exact setF2_set hr (fun v q1 q2 => by unfold setB; omega) (by decide) h
  rw [if_neg e0] at h
  by_cases e1 : c = 1
  · rw [if_pos e1] at h
    unfold dayF at h
    split at h
    next => cases h
    next q hq =>
      have := numF_v hq
      exact setF2_set (hr.st (j := 1) (by omega) (by unfold setB; omega)) (fun v q1 q2 => by unfold setB; omega) (by decide) h
  rw [if_neg e1] at h
  by_cases e2 : c = 2
  · rw [if_pos e2] at h; exact chcF_set hr (fun v q => by have q : v < 4 := q; unfold setB; omega) (by decide) h
  rw [if_neg e2] at h
  by_cases e3 : c = 3
  · rw [if_pos e3] at h
    unfold rteF at h
    split at h
    next => cases h
    next q hq =>
      have := numF_v hq
      exact chcF_set (hr.st (j := 4) (by omega) (by unfold setB; omega)) (fun v q => by have q : v < 2 := q; unfold setB; omega) (by decide) h
  rw [if_neg e3] at h
  by_cases e4 : c = 4
  · rw [if_pos e4] at h; exact chcF_set hr (fun v q => by have q : v < 3 := q; unfold setB; omega) (by decide) h
  rw [if_neg e4] at h
  by_cases e5 : c = 5
  · rw [if_pos e5] at h; exact setF2_set hr (fun v q1 q2 => by unfold setB; omega) (by decide) h
  rw [if_neg e5] at h
  by_cases e6 : c = 6
  · rw [if_pos e6] at h; exact setF2_set hr (fun v q1 q2 => by unfold setB; omega) (by decide) h
  rw [if_neg e6] at h
  by_cases e7 : c = 7
  · rw [if_pos e7] at h; exact setF2_set hr (fun v q1 q2 => by unfold setB; omega) (by decide) h
  rw [if_neg e7] at h
  by_cases e8 : c = 8
  · rw [if_pos e8] at h; exact setF2_set hr (fun v q1 q2 => by unfold setB; omega) (by decide) h
  rw [if_neg e8] at h
  by_cases e9 : c = 9
  · rw [if_pos e9] at h
    unfold ordF2 at h
    split at h
    · cases h
    · cases h; exact hr.of rfl
  rw [if_neg e9] at h
  by_cases e10 : c = 10
  · rw [if_pos e10] at h
    unfold wgF at h
    split at h
    · cases h
    · split at h
      · cases h
      next q hq =>
        split at h
        · cases h
        · cases h; exact hr.of (kdF_S hq)
  rw [if_neg e10] at h
  by_cases e11 : c = 11
  · rw [if_pos e11] at h
    unfold neeF at h
    split at h
    · split at h
      · split at h
        · cases h
        · cases h; exact hr.of rfl
      · cases h
    · cases h
  rw [if_neg e11] at h
  by_cases e12 : c = 12
  · rw [if_pos e12] at h
    unfold musF at h
    split at h
    · split at h
      · cases h
      next q hq => cases h; exact hr.of (kdF_S hq)
    · cases h
  rw [if_neg e12] at h
  unfold eitF at h
  split at h
  · split at h
    · cases h
    next q hq =>
      split at h
      · cases h
      next y hy => cases h; exact hr.of ((kdF_S hy).trans (kdF_S hq))
  · cases h
theorem clF_set {b : Nat → Int32} {n i : Nat} {r : RU} {td : Nat} {x : RU × Nat × Nat} (hr : RSet r) (h : clF b n i r td = .inr x) : RSet x.1 := by
  unfold clF at h
  split at h
  · cases h
  · split at h
    · cases h
    · split at h
      · cases h
      · split at h
        · cases h
        next q hq =>
          have hs := bodF_set hr hq
          split at h
          · cases h; exact hs
          · split at h
            · cases h; exact hs
            · cases h
theorem rdF_set {b : Nat → Int32} {n : Nat} : ∀ f i r td cnt x, RSet r → rdF b n f i r td cnt = .inr x → RSet x.1
  | 0, i, r, td, cnt, x, hr, h => by
    unfold rdF at h
    cases h
    exact hr
  | f + 1, i, r, td, cnt, x, hr, h => by
    unfold rdF at h
    split at h
    · cases h; exact hr
    · split at h
      · cases h
      next q hq => exact rdF_set f _ _ _ _ _ (clF_set hr hq) h
theorem ru0_set : RSet ru0 := by
  unfold RSet rsN
  decide
theorem st_rules {l : Launch} {g : kx_G} {k : Nat} {h : kx_Mem} (hk : k < 512) (hG : Glob k h) (a1 : Int32) : kx_Sp l g m_Tc_rules [.ref 0, .int a1] h 30 0 0 (fun v h1 => ∃ x : Int32, v = some (.int x) ∧ (h1.2.2.2.1 84).1 = 15 ∧ kw_Sp l g m_Mo_rules [(24, 33, 36, 245)] [.ref 84, .int a1] h1 30 1 11 (fun v2 h2 => v2 = some (.int x) ∧ Glob (k + 1) h2)) := by
  obtain ⟨D, A, U, rs, AV, DV, V, u, td, s1, s2, b, n, B, M, K, pu, f0, f1, nw, T, z, i, c, m⟩ := hG
  obtain ⟨i1, i2, i3, ⟨i4a, i4b, i4c, i4d⟩, i5, i6, ⟨i7a, i7b⟩, ⟨i8, i9, i10⟩, i11, i12, i13⟩ := id i
  obtain ⟨c1, ⟨c2, c2x⟩, c3, c4, c5, c6, c7, c8, c9, c10⟩ := id c
  refine kx_Sp.imp (x_Tc_rules (d := 21) c1 b n c7 AV DV V c5 a1) (fun v h1 hq => ?_)
  obtain ⟨hs1, hfq, q1, hv⟩ := hq
  have w := hfq.gw
  have hc1 : h1.2.2.2.2 = h.2.2.2.2 := by rw [hfq.2.2.2]
  have hN1 : 154 ≤ h1.2.2.2.2 := by omega
  have hN2 : h1.2.2.2.2 < 1000000 := by omega
  have mm := m.fx w i11 (fun a j q => by unfold FrQ at q; unfold pC; omega) (fun a j q => by unfold FrQ at q; unfold pC; omega) (fun a j q => by unfold pC; omega)
  clear m
  obtain ⟨m1, m2, m3, m4, m5, m6, m7, m8, m9, m10, m11, m12⟩ := id mm
  rcases hv with ⟨e1, rfl, cv, cq1, cq2⟩ | ⟨v9, hv9, rfl, hv⟩
  · have cc : gC D A U rs AV DV V u td s1 s2 b 0 B M K pu f0 f1 h1 := ⟨hs1, ⟨c2.gw c2x w (fun a j q => ⟨by unfold FrQ; omega, by unfold FrQ; omega, by omega⟩), c2x.gw w⟩, pcU c3 w i11 (fun a j q => by unfold FrQ; omega), pcR c4 w i11 (fun a j q => by unfold FrQ; omega), cv, pcI c6 w i11 (fun a j q => by unfold FrQ; omega), ⟨q1, by decide, fun j hj => absurd hj (Nat.not_lt_zero j)⟩, pcB c8 w i11 (fun a j q => by unfold FrQ; omega), pcF c9 w i11 (fun a j q => by unfold FrQ; omega), ⟨cq1.trans c10.1, cq2.trans c10.2⟩⟩
    refine ⟨_, rfl, m1.k 0 rfl, kw_Sp.imp (y_rules (d := 19) b n nw T z V ⟨m1, i5, m8, ⟨i8, m12, i9⟩, (fun v hv => ⟨(i3 v hv).1, m6 v hv⟩), hN1, hN2⟩ (by omega) a1) (fun v2 h2 hq2 => ?_)⟩
    obtain ⟨nw', T', z', he, ⟨wok, wtm, wzz⟩, hz, hf2, hc2, p1, hv2⟩ := hq2
    have w2 := hf2.gw
    have hc3 := hf2.1
    rcases hv2 with ⟨p2, rfl, mv, mq1, mq2⟩ | ⟨v8, hv8, rfl, -⟩
    · exact ⟨rfl, D, A, U, rs, AV, DV, V, u, td, s1, s2, b, 0, B, M, K, pu, f0, f1, nw', T', z', ⟨i1, i2, i3, ⟨i4a, i4b, i4c, i4d⟩, i5, i6, ⟨i7a, i7b⟩, ⟨wok, wzz, by omega⟩, by omega, by omega, hk⟩, (cc.fy w2 hN1 (fun a j q => by unfold FrR FrA FrD at q; unfold pM; omega) (fun a j q => by exact q.elim)), ⟨pmS m1 w2 hN1 (fun a j q1 q2 => id), (pmD m2 w2 hN1 (fun a j q => by unfold FrR FrA FrD; omega)).ex he, pmZ m3 w2 hN1 (fun a j q => by unfold FrR FrA FrD; omega), pmU m4 w2 hN1 (fun a j q => by unfold FrR FrA FrD; omega), pmR m5 w2 hN1 (fun a j q => by unfold FrR FrA FrD; omega), mv, pmI m7 w2 hN1 (fun a j q => by unfold FrR FrA FrD; omega), ⟨p1, by decide, fun j hj => absurd hj (Nat.not_lt_zero j)⟩, pmB m9 w2 hN1 (fun a j q => by unfold FrR FrA FrD; omega), pmF m10 w2 hN1 (fun a j q => by unfold FrR FrA FrD; omega), ⟨mq1.trans m11.1, mq2.trans m11.2⟩, wtm⟩⟩
    · exact absurd (show vrs (nI v8) from ⟨by rw [show (0 : Int32) = nI 0 from rfl, nI_leI (by decide) (by omega)]; exact Nat.zero_le _, (nI_leI (b := 3) (by omega) (by decide)).mpr (by omega)⟩) e1
  · have hvr : vrs (nI v9) := ⟨by rw [show (0 : Int32) = nI 0 from rfl, nI_leI (by decide) (by omega)]; exact Nat.zero_le _, (nI_leI (b := 3) (by omega) (by decide)).mpr (by omega)⟩
    rcases hv with ⟨f, ef, rfl, fq, cv⟩ | ⟨y, ey, rfl, cq1, cq2, cv⟩
    · have cc : gC D A U rs AV DV V u td s1 s2 b 0 B M K pu ((nI f.1)) ((nI f.2)) h1 := ⟨hs1, ⟨c2.gw c2x w (fun a j q => ⟨by unfold FrQ; omega, by unfold FrQ; omega, by omega⟩), c2x.gw w⟩, pcU c3 w i11 (fun a j q => by unfold FrQ; omega), pcR c4 w i11 (fun a j q => by unfold FrQ; omega), cv, pcI c6 w i11 (fun a j q => by unfold FrQ; omega), ⟨q1, by decide, fun j hj => absurd hj (Nat.not_lt_zero j)⟩, pcB c8 w i11 (fun a j q => by unfold FrQ; omega), pcF c9 w i11 (fun a j q => by unfold FrQ; omega), fq⟩
      refine ⟨_, rfl, m1.k 0 rfl, kw_Sp.imp (y_rules (d := 19) b n nw T z V ⟨m1, i5, m8, ⟨i8, m12, i9⟩, (fun v hv => ⟨(i3 v hv).1, m6 v hv⟩), hN1, hN2⟩ (by omega) (nI v9)) (fun v2 h2 hq2 => ?_)⟩
      obtain ⟨nw', T', z', he, ⟨wok, wtm, wzz⟩, hz, hf2, hc2, p1, hv2⟩ := hq2
      have w2 := hf2.gw
      have hc3 := hf2.1
      rcases hv2 with ⟨p2, -⟩ | ⟨v8, hv8, e8, ⟨f', ef', rfl, fq', mv⟩ | ⟨y, ey, -⟩⟩
      · exact absurd hvr p2
      · have ff : f = f' := by rw [ef] at ef'; exact Sum.inl.inj ef'
        subst ff
        exact ⟨rfl, D, A, U, rs, AV, DV, V, u, td, s1, s2, b, 0, B, M, K, pu, (nI f.1), (nI f.2), nw', T', z', ⟨i1, i2, i3, ⟨i4a, i4b, i4c, i4d⟩, i5, i6, ⟨i7a, i7b⟩, ⟨wok, wzz, by omega⟩, by omega, by omega, hk⟩, (cc.fy w2 hN1 (fun a j q => by unfold FrR FrA FrD at q; unfold pM; omega) (fun a j q => by exact q.elim)), ⟨pmS m1 w2 hN1 (fun a j q1 q2 => id), (pmD m2 w2 hN1 (fun a j q => by unfold FrR FrA FrD; omega)).ex he, pmZ m3 w2 hN1 (fun a j q => by unfold FrR FrA FrD; omega), pmU m4 w2 hN1 (fun a j q => by unfold FrR FrA FrD; omega), pmR m5 w2 hN1 (fun a j q => by unfold FrR FrA FrD; omega), mv, pmI m7 w2 hN1 (fun a j q => by unfold FrR FrA FrD; omega), ⟨p1, by decide, fun j hj => absurd hj (Nat.not_lt_zero j)⟩, pmB m9 w2 hN1 (fun a j q => by unfold FrR FrA FrD; omega), pmF m10 w2 hN1 (fun a j q => by unfold FrR FrA FrD; omega), fq', wtm⟩⟩
      · rw [ef] at ey
        cases ey
    · have cc : gC D A U rs ((upF AV v9 DV)) ((AV v9)) ((upF V v9 y.1)) u td s1 s2 b 0 B M K pu 0 ((-1)) h1 := ⟨hs1, ⟨c2.gw c2x w (fun a j q => ⟨by unfold FrQ; omega, by unfold FrQ; omega, by omega⟩), c2x.gw w⟩, pcU c3 w i11 (fun a j q => by unfold FrQ; omega), pcR c4 w i11 (fun a j q => by unfold FrQ; omega), cv, pcI c6 w i11 (fun a j q => by unfold FrQ; omega), ⟨q1, by decide, fun j hj => absurd hj (Nat.not_lt_zero j)⟩, pcB c8 w i11 (fun a j q => by unfold FrQ; omega), pcF c9 w i11 (fun a j q => by unfold FrQ; omega), ⟨cq1, cq2⟩⟩
      refine ⟨_, rfl, m1.k 0 rfl, kw_Sp.imp (y_rules (d := 19) b n nw T z V ⟨m1, i5, m8, ⟨i8, m12, i9⟩, (fun v hv => ⟨(i3 v hv).1, m6 v hv⟩), hN1, hN2⟩ (by omega) (nI v9)) (fun v2 h2 hq2 => ?_)⟩
      obtain ⟨nw', T', z', he, ⟨wok, wtm, wzz⟩, hz, hf2, hc2, p1, hv2⟩ := hq2
      have w2 := hf2.gw
      have hc3 := hf2.1
      rcases hv2 with ⟨p2, -⟩ | ⟨v8, hv8, e8, ⟨f', ef', -⟩ | ⟨y', ey', rfl, mq1, mq2, ro, mv⟩⟩
      · exact absurd hvr p2
      · rw [ey] at ef'
        cases ef'
      · have ff : y = y' := by rw [ey] at ey'; exact Sum.inr.inj ey'
        subst ff
        have e8 : v9 = v8 := (nI_eq (by omega) (by omega)).mp e8
        subst e8
        have hset : RSet y.1 := rdF_set _ _ _ _ _ _ ru0_set ey
        have vv : ∀ v, v < 4 → RUok (upF V v9 y.1 v) ∧ RSet (upF V v9 y.1 v) := fun v hv => by
          unfold upF
          split
          · exact ⟨ro, hset⟩
          · exact i3 v hv
        exact ⟨rfl, D, A, U, rs, (upF AV v9 DV), (AV v9), (upF V v9 y.1), u, td, s1, s2, b, 0, B, M, K, pu, 0, (-1), nw', T', z', ⟨i1, i2, vv, ⟨i4a, i4b, i4c, i4d⟩, i5, i6, ⟨i7a, i7b⟩, ⟨wok, wzz, by omega⟩, by omega, by omega, hk⟩, (cc.fy w2 hN1 (fun a j q => by unfold FrR FrA FrD at q; unfold pM; omega) (fun a j q => by exact q.elim)), ⟨pmS m1 w2 hN1 (fun a j q1 q2 => id), (pmD m2 w2 hN1 (fun a j q => by unfold FrR FrA FrD; omega)).ex he, pmZ m3 w2 hN1 (fun a j q => by unfold FrR FrA FrD; omega), pmU m4 w2 hN1 (fun a j q => by unfold FrR FrA FrD; omega), pmR m5 w2 hN1 (fun a j q => by unfold FrR FrA FrD; omega), mv, pmI m7 w2 hN1 (fun a j q => by unfold FrR FrA FrD; omega), ⟨p1, by decide, fun j hj => absurd hj (Nat.not_lt_zero j)⟩, pmB m9 w2 hN1 (fun a j q => by unfold FrR FrA FrD; omega), pmF m10 w2 hN1 (fun a j q => by unfold FrR FrA FrD; omega), ⟨mq1, mq2⟩, wtm⟩⟩
