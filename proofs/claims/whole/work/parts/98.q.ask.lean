/-! calls that only ask, on both sides -/
theorem st_nationOn {l : Launch} {g : kx_G} {k : Nat} {h : kx_Mem} (hk : k < 512) (hG : Glob k h) (a1 a2 a3 : Int32) : Bth l g m_Tc_nationOn m_Mo_nationOn [.int a1, .int a2, .int a3] k h 0 0 := by
  obtain ⟨D, A, U, rs, AV, DV, V, u, td, s1, s2, b, n, B, M, K, pu, f0, f1, nw, T, z, i, c, m⟩ := hG
  obtain ⟨i1, i2, i3, ⟨i4a, i4b, i4c, i4d⟩, i5, i6, ⟨i7a, i7b⟩, ⟨i8, i9, i10⟩, i11, i12, i13⟩ := id i
  obtain ⟨c1, ⟨c2, c2x⟩, c3, c4, c5, c6, c7, c8, c9, c10⟩ := id c
  refine kx_Sp.imp (x_Tc_nationOn (d := 27) c1 D.1 i1.1 c2.1 a1 a2 a3) (fun v h1 hq => ?_)
  obtain ⟨rfl, he⟩ := hq
  rw [he]
  obtain ⟨m1, m2, m3, m4, m5, m6, m7, m8, m9, m10, m11, m12⟩ := id m
  refine ⟨_, rfl, m1.k 0 rfl, kx_Sp.imp (y_nationOn (d := 27) m1 D.1 i1.1 m2.1 a1 a2 a3) (fun v2 h2 hq2 => ?_)⟩
  obtain ⟨rfl, he2⟩ := hq2
  rw [he2]
  exact ⟨rfl, D, A, U, rs, AV, DV, V, u, td, s1, s2, b, n, B, M, K, pu, f0, f1, nw, T, z, i.up hk (Nat.le_refl _) (by omega), c, m⟩
theorem st_deadOn {l : Launch} {g : kx_G} {k : Nat} {h : kx_Mem} (hk : k < 512) (hG : Glob k h) (a1 a2 a3 : Int32) : Bth l g m_Tc_deadOn m_Mo_deadOn [.int a1, .int a2, .int a3] k h 0 0 := by
  obtain ⟨D, A, U, rs, AV, DV, V, u, td, s1, s2, b, n, B, M, K, pu, f0, f1, nw, T, z, i, c, m⟩ := hG
  obtain ⟨i1, i2, i3, ⟨i4a, i4b, i4c, i4d⟩, i5, i6, ⟨i7a, i7b⟩, ⟨i8, i9, i10⟩, i11, i12, i13⟩ := id i
  obtain ⟨c1, ⟨c2, c2x⟩, c3, c4, c5, c6, c7, c8, c9, c10⟩ := id c
  refine kx_Sp.imp (x_Tc_deadOn (d := 27) c1 D.1 i1.1 c2.1 a1 a2 a3) (fun v h1 hq => ?_)
  obtain ⟨rfl, he⟩ := hq
  rw [he]
  obtain ⟨m1, m2, m3, m4, m5, m6, m7, m8, m9, m10, m11, m12⟩ := id m
  refine ⟨_, rfl, m1.k 0 rfl, kx_Sp.imp (y_deadOn (d := 27) m1 D.1 i1.1 m2.1 a1 a2 a3) (fun v2 h2 hq2 => ?_)⟩
  obtain ⟨rfl, he2⟩ := hq2
  rw [he2]
  exact ⟨rfl, D, A, U, rs, AV, DV, V, u, td, s1, s2, b, n, B, M, K, pu, f0, f1, nw, T, z, i.up hk (Nat.le_refl _) (by omega), c, m⟩
theorem st_rateOn {l : Launch} {g : kx_G} {k : Nat} {h : kx_Mem} (hk : k < 512) (hG : Glob k h) (a1 a2 : Int32) : Bth l g m_Tc_rateOn m_Mo_rateOn [.int a1, .int a2] k h 0 0 := by
  obtain ⟨D, A, U, rs, AV, DV, V, u, td, s1, s2, b, n, B, M, K, pu, f0, f1, nw, T, z, i, c, m⟩ := hG
  obtain ⟨i1, i2, i3, ⟨i4a, i4b, i4c, i4d⟩, i5, i6, ⟨i7a, i7b⟩, ⟨i8, i9, i10⟩, i11, i12, i13⟩ := id i
  obtain ⟨c1, ⟨c2, c2x⟩, c3, c4, c5, c6, c7, c8, c9, c10⟩ := id c
  refine kx_Sp.imp (x_Tc_rateOn (d := 28) c1 rs i2 c4 a1 a2) (fun v h1 hq => ?_)
  obtain ⟨rfl, he⟩ := hq
  rw [he]
  obtain ⟨m1, m2, m3, m4, m5, m6, m7, m8, m9, m10, m11, m12⟩ := id m
  refine ⟨_, rfl, m1.k 0 rfl, kx_Sp.imp (y_rateOn (d := 28) m1 rs i2 m5 a1 a2) (fun v2 h2 hq2 => ?_)⟩
  obtain ⟨rfl, he2⟩ := hq2
  rw [he2]
  exact ⟨rfl, D, A, U, rs, AV, DV, V, u, td, s1, s2, b, n, B, M, K, pu, f0, f1, nw, T, z, i.up hk (Nat.le_refl _) (by omega), c, m⟩
theorem st_rule {l : Launch} {g : kx_G} {k : Nat} {h : kx_Mem} (hk : k < 512) (hG : Glob k h) (a1 a2 : Int32) : Bth l g m_Tc_rule m_Mo_rule [.int a1, .int a2] k h 0 0 := by
  obtain ⟨D, A, U, rs, AV, DV, V, u, td, s1, s2, b, n, B, M, K, pu, f0, f1, nw, T, z, i, c, m⟩ := hG
  obtain ⟨i1, i2, i3, ⟨i4a, i4b, i4c, i4d⟩, i5, i6, ⟨i7a, i7b⟩, ⟨i8, i9, i10⟩, i11, i12, i13⟩ := id i
  obtain ⟨c1, ⟨c2, c2x⟩, c3, c4, c5, c6, c7, c8, c9, c10⟩ := id c
  refine kx_Sp.imp (x_Tc_rule (d := 28) c1 AV DV V c5 a1 a2) (fun v h1 hq => ?_)
  obtain ⟨rfl, he⟩ := hq
  rw [he]
  obtain ⟨m1, m2, m3, m4, m5, m6, m7, m8, m9, m10, m11, m12⟩ := id m
  refine ⟨_, rfl, m1.k 0 rfl, kx_Sp.imp (y_rule (d := 28) m1 nw T V (fun v hv => ⟨(i3 v hv).1, m6 v hv⟩) a1 a2) (fun v2 h2 hq2 => ?_)⟩
  obtain ⟨rfl, he2⟩ := hq2
  rw [he2]
  exact ⟨rfl, D, A, U, rs, AV, DV, V, u, td, s1, s2, b, n, B, M, K, pu, f0, f1, nw, T, z, i.up hk (Nat.le_refl _) (by omega), c, m⟩
theorem st_forged {l : Launch} {g : kx_G} {k : Nat} {h : kx_Mem} (hk : k < 512) (hG : Glob k h) (a1 a2 : Int32) : Bth l g m_Tc_forged m_Mo_forged [.int a1, .int a2] k h 0 0 := by
  obtain ⟨D, A, U, rs, AV, DV, V, u, td, s1, s2, b, n, B, M, K, pu, f0, f1, nw, T, z, i, c, m⟩ := hG
  obtain ⟨i1, i2, i3, ⟨i4a, i4b, i4c, i4d⟩, i5, i6, ⟨i7a, i7b⟩, ⟨i8, i9, i10⟩, i11, i12, i13⟩ := id i
  obtain ⟨c1, ⟨c2, c2x⟩, c3, c4, c5, c6, c7, c8, c9, c10⟩ := id c
  refine kx_Sp.imp (x_Tc_forged (d := 26) c1 D A i1 c2 a1 a2) (fun v h1 hq => ?_)
  obtain ⟨rfl, he⟩ := hq
  rw [he]
  obtain ⟨m1, m2, m3, m4, m5, m6, m7, m8, m9, m10, m11, m12⟩ := id m
  refine ⟨_, rfl, m1.k 0 rfl, kx_Sp.imp (y_forged (d := 27) m1 nw T i8 D i1 m2 a1 a2) (fun v2 h2 hq2 => ?_)⟩
  obtain ⟨rfl, he2⟩ := hq2
  rw [he2]
  exact ⟨rfl, D, A, U, rs, AV, DV, V, u, td, s1, s2, b, n, B, M, K, pu, f0, f1, nw, T, z, i.up hk (Nat.le_refl _) (by omega), c, m⟩
theorem st_fails {l : Launch} {g : kx_G} {k : Nat} {h : kx_Mem} (hk : k < 512) (hG : Glob k h) (a1 a2 a3 : Int32) : Bth l g m_Tc_fails m_Mo_fails [.int a1, .int a2, .int a3] k h 0 0 := by
  obtain ⟨D, A, U, rs, AV, DV, V, u, td, s1, s2, b, n, B, M, K, pu, f0, f1, nw, T, z, i, c, m⟩ := hG
  obtain ⟨i1, i2, i3, ⟨i4a, i4b, i4c, i4d⟩, i5, i6, ⟨i7a, i7b⟩, ⟨i8, i9, i10⟩, i11, i12, i13⟩ := id i
  obtain ⟨c1, ⟨c2, c2x⟩, c3, c4, c5, c6, c7, c8, c9, c10⟩ := id c
  refine kx_Sp.imp (x_Tc_fails (d := 25) c1 D A i1 c2 AV DV V c5 a1 a2 a3) (fun v h1 hq => ?_)
  obtain ⟨rfl, he⟩ := hq
  rw [he]
  obtain ⟨m1, m2, m3, m4, m5, m6, m7, m8, m9, m10, m11, m12⟩ := id m
  refine ⟨_, rfl, m1.k 0 rfl, kx_Sp.imp (y_fails (d := 25) m1 nw T i8 D i1 m2 V (fun v hv => ⟨(i3 v hv).1, m6 v hv⟩) a1 a2 a3) (fun v2 h2 hq2 => ?_)⟩
  obtain ⟨rfl, he2⟩ := hq2
  rw [he2]
  exact ⟨rfl, D, A, U, rs, AV, DV, V, u, td, s1, s2, b, n, B, M, K, pu, f0, f1, nw, T, z, i.up hk (Nat.le_refl _) (by omega), c, m⟩
theorem st_points {l : Launch} {g : kx_G} {k : Nat} {h : kx_Mem} (hk : k < 512) (hG : Glob k h) (a1 a2 a3 : Int32) : Bth l g m_Tc_points m_Mo_points [.int a1, .int a2, .int a3] k h 0 0 := by
  obtain ⟨D, A, U, rs, AV, DV, V, u, td, s1, s2, b, n, B, M, K, pu, f0, f1, nw, T, z, i, c, m⟩ := hG
  obtain ⟨i1, i2, i3, ⟨i4a, i4b, i4c, i4d⟩, i5, i6, ⟨i7a, i7b⟩, ⟨i8, i9, i10⟩, i11, i12, i13⟩ := id i
  obtain ⟨c1, ⟨c2, c2x⟩, c3, c4, c5, c6, c7, c8, c9, c10⟩ := id c
  refine kx_Sp.imp (x_Tc_points (d := 25) c1 D A i1 c2 AV DV V c5 a1 a2 a3) (fun v h1 hq => ?_)
  obtain ⟨rfl, he⟩ := hq
  rw [he]
  obtain ⟨m1, m2, m3, m4, m5, m6, m7, m8, m9, m10, m11, m12⟩ := id m
  refine ⟨_, rfl, m1.k 0 rfl, kx_Sp.imp (y_points (d := 25) m1 nw T i8 D i1 m2 V (fun v hv => ⟨(i3 v hv).1, m6 v hv⟩) a1 a2 a3) (fun v2 h2 hq2 => ?_)⟩
  obtain ⟨rfl, he2⟩ := hq2
  rw [he2]
  exact ⟨rfl, D, A, U, rs, AV, DV, V, u, td, s1, s2, b, n, B, M, K, pu, f0, f1, nw, T, z, i.up hk (Nat.le_refl _) (by omega), c, m⟩
theorem st_lacks {l : Launch} {g : kx_G} {k : Nat} {h : kx_Mem} (hk : k < 512) (hG : Glob k h) (a1 a2 a3 : Int32) : Bth l g m_Tc_lacks m_Mo_lacks [.int a1, .int a2, .int a3] k h 0 0 := by
  obtain ⟨D, A, U, rs, AV, DV, V, u, td, s1, s2, b, n, B, M, K, pu, f0, f1, nw, T, z, i, c, m⟩ := hG
  obtain ⟨i1, i2, i3, ⟨i4a, i4b, i4c, i4d⟩, i5, i6, ⟨i7a, i7b⟩, ⟨i8, i9, i10⟩, i11, i12, i13⟩ := id i
  obtain ⟨c1, ⟨c2, c2x⟩, c3, c4, c5, c6, c7, c8, c9, c10⟩ := id c
  refine kx_Sp.imp (x_Tc_lacks (d := 8) c1 D A i1 c2 AV DV V c5 a1 a2 a3) (fun v h1 hq => ?_)
  obtain ⟨rfl, he⟩ := hq
  rw [he]
  obtain ⟨m1, m2, m3, m4, m5, m6, m7, m8, m9, m10, m11, m12⟩ := id m
  refine ⟨_, rfl, m1.k 0 rfl, kx_Sp.imp (y_lacks (d := 26) m1 nw T i8 D i1 m2 V (fun v hv => ⟨(i3 v hv).1, m6 v hv⟩) a1 a2 a3) (fun v2 h2 hq2 => ?_)⟩
  obtain ⟨rfl, he2⟩ := hq2
  rw [he2]
  exact ⟨rfl, D, A, U, rs, AV, DV, V, u, td, s1, s2, b, n, B, M, K, pu, f0, f1, nw, T, z, i.up hk (Nat.le_refl _) (by omega), c, m⟩
theorem st_weakest {l : Launch} {g : kx_G} {k : Nat} {h : kx_Mem} (hk : k < 512) (hG : Glob k h) (a1 a2 a3 : Int32) : Bth l g m_Tc_weakest m_Mo_weakest [.int a1, .int a2, .int a3] k h 0 0 := by
  obtain ⟨D, A, U, rs, AV, DV, V, u, td, s1, s2, b, n, B, M, K, pu, f0, f1, nw, T, z, i, c, m⟩ := hG
  obtain ⟨i1, i2, i3, ⟨i4a, i4b, i4c, i4d⟩, i5, i6, ⟨i7a, i7b⟩, ⟨i8, i9, i10⟩, i11, i12, i13⟩ := id i
  obtain ⟨c1, ⟨c2, c2x⟩, c3, c4, c5, c6, c7, c8, c9, c10⟩ := id c
  refine kx_Sp.imp (x_Tc_weakest (d := 25) c1 D A i1 c2 AV DV V c5 a1 a2 a3) (fun v h1 hq => ?_)
  obtain ⟨rfl, he⟩ := hq
  rw [he]
  obtain ⟨m1, m2, m3, m4, m5, m6, m7, m8, m9, m10, m11, m12⟩ := id m
  refine ⟨_, rfl, m1.k 0 rfl, kx_Sp.imp (y_weakest (d := 25) m1 nw T i8 D i1 m2 V (fun v hv => ⟨(i3 v hv).1, m6 v hv⟩) a1 a2 a3) (fun v2 h2 hq2 => ?_)⟩
  obtain ⟨rfl, he2⟩ := hq2
  rw [he2]
  exact ⟨rfl, D, A, U, rs, AV, DV, V, u, td, s1, s2, b, n, B, M, K, pu, f0, f1, nw, T, z, i.up hk (Nat.le_refl _) (by omega), c, m⟩
theorem st_beside {l : Launch} {g : kx_G} {k : Nat} {h : kx_Mem} (hk : k < 512) (hG : Glob k h) (a1 a2 : Int32) : Bth l g m_Tc_beside m_Mo_beside [.int a1, .int a2] k h 0 0 := by
  obtain ⟨D, A, U, rs, AV, DV, V, u, td, s1, s2, b, n, B, M, K, pu, f0, f1, nw, T, z, i, c, m⟩ := hG
  obtain ⟨i1, i2, i3, ⟨i4a, i4b, i4c, i4d⟩, i5, i6, ⟨i7a, i7b⟩, ⟨i8, i9, i10⟩, i11, i12, i13⟩ := id i
  obtain ⟨c1, ⟨c2, c2x⟩, c3, c4, c5, c6, c7, c8, c9, c10⟩ := id c
  refine kx_Sp.imp (x_Tc_beside (d := 24) c1 D A i1 c2 AV DV V c5 td (by omega) c6.2.1 a1 a2) (fun v h1 hq => ?_)
  obtain ⟨rfl, he⟩ := hq
  rw [he]
  obtain ⟨m1, m2, m3, m4, m5, m6, m7, m8, m9, m10, m11, m12⟩ := id m
  refine ⟨_, rfl, m1.k 0 rfl, kx_Sp.imp (y_beside (d := 25) m1 nw T i8 D i1 m2 V (fun v hv => ⟨(i3 v hv).1, m6 v hv⟩) td (by omega) m7.2.1 a1 a2) (fun v2 h2 hq2 => ?_)⟩
  obtain ⟨rfl, he2⟩ := hq2
  rw [he2]
  exact ⟨rfl, D, A, U, rs, AV, DV, V, u, td, s1, s2, b, n, B, M, K, pu, f0, f1, nw, T, z, i.up hk (Nat.le_refl _) (by omega), c, m⟩
theorem st_about {l : Launch} {g : kx_G} {k : Nat} {h : kx_Mem} (hk : k < 512) (hG : Glob k h) (a1 a2 : Int32) : Bth l g m_Tc_about m_Mo_about [.int a1, .int a2] k h 0 0 := by
  obtain ⟨D, A, U, rs, AV, DV, V, u, td, s1, s2, b, n, B, M, K, pu, f0, f1, nw, T, z, i, c, m⟩ := hG
  obtain ⟨i1, i2, i3, ⟨i4a, i4b, i4c, i4d⟩, i5, i6, ⟨i7a, i7b⟩, ⟨i8, i9, i10⟩, i11, i12, i13⟩ := id i
  obtain ⟨c1, ⟨c2, c2x⟩, c3, c4, c5, c6, c7, c8, c9, c10⟩ := id c
  refine kx_Sp.imp (x_Tc_about (d := 26) c1 D A i1 c2 a1 a2) (fun v h1 hq => ?_)
  obtain ⟨rfl, he⟩ := hq
  rw [he]
  obtain ⟨m1, m2, m3, m4, m5, m6, m7, m8, m9, m10, m11, m12⟩ := id m
  refine ⟨_, rfl, m1.k 0 rfl, kx_Sp.imp (y_about (d := 28) m1 nw T i8 D i1 m2 a1 a2) (fun v2 h2 hq2 => ?_)⟩
  obtain ⟨rfl, he2⟩ := hq2
  rw [he2]
  exact ⟨rfl, D, A, U, rs, AV, DV, V, u, td, s1, s2, b, n, B, M, K, pu, f0, f1, nw, T, z, i.up hk (Nat.le_refl _) (by omega), c, m⟩
theorem st_lots {l : Launch} {g : kx_G} {k : Nat} {h : kx_Mem} (hk : k < 512) (hG : Glob k h) : Bth l g m_Tc_lots m_Mo_lots [] k h 0 0 := by
  obtain ⟨D, A, U, rs, AV, DV, V, u, td, s1, s2, b, n, B, M, K, pu, f0, f1, nw, T, z, i, c, m⟩ := hG
  obtain ⟨i1, i2, i3, ⟨i4a, i4b, i4c, i4d⟩, i5, i6, ⟨i7a, i7b⟩, ⟨i8, i9, i10⟩, i11, i12, i13⟩ := id i
  obtain ⟨c1, ⟨c2, c2x⟩, c3, c4, c5, c6, c7, c8, c9, c10⟩ := id c
  refine kx_Sp.imp (x_Tc_lots (d := 26) c1 D.1 i1.1 c2.1 U c3 s1 s2 td i4c i4d (by omega) c6.2.1 c6.2.2.1 c6.2.2.2) (fun v h1 hq => ?_)
  obtain ⟨rfl, he⟩ := hq
  rw [he]
  obtain ⟨m1, m2, m3, m4, m5, m6, m7, m8, m9, m10, m11, m12⟩ := id m
  refine ⟨_, rfl, m1.k 0 rfl, kx_Sp.imp (y_lots (d := 26) m1 D.1 i1.1 m2.1 U m4 s1 s2 td i4c i4d (by omega) m7.2.1 m7.2.2.1 m7.2.2.2) (fun v2 h2 hq2 => ?_)⟩
  obtain ⟨rfl, he2⟩ := hq2
  rw [he2]
  exact ⟨rfl, D, A, U, rs, AV, DV, V, u, td, s1, s2, b, n, B, M, K, pu, f0, f1, nw, T, z, i.up hk (Nat.le_refl _) (by omega), c, m⟩
theorem st_like {l : Launch} {g : kx_G} {k : Nat} {h : kx_Mem} (hk : k < 512) (hG : Glob k h) (a1 a2 : Int32) : Bth l g m_Tc_like m_Mo_like [.int a1, .int a2] k h 0 0 := by
  obtain ⟨D, A, U, rs, AV, DV, V, u, td, s1, s2, b, n, B, M, K, pu, f0, f1, nw, T, z, i, c, m⟩ := hG
  obtain ⟨i1, i2, i3, ⟨i4a, i4b, i4c, i4d⟩, i5, i6, ⟨i7a, i7b⟩, ⟨i8, i9, i10⟩, i11, i12, i13⟩ := id i
  obtain ⟨c1, ⟨c2, c2x⟩, c3, c4, c5, c6, c7, c8, c9, c10⟩ := id c
  refine kx_Sp.imp (x_Tc_like (d := 26) c1 D A i1 c2 AV DV V c5 u i4a (i3 u i4a).2 c6.1 a1 a2) (fun v h1 hq => ?_)
  obtain ⟨rfl, he⟩ := hq
  rw [he]
  obtain ⟨m1, m2, m3, m4, m5, m6, m7, m8, m9, m10, m11, m12⟩ := id m
  refine ⟨_, rfl, m1.k 0 rfl, kx_Sp.imp (y_like (d := 28) m1 nw T i8 D i1 m2 (V u) u i4a (i3 u i4a).2 (m6 u i4a) m7.1 a1 a2) (fun v2 h2 hq2 => ?_)⟩
  obtain ⟨rfl, he2⟩ := hq2
  rw [he2]
  exact ⟨rfl, D, A, U, rs, AV, DV, V, u, td, s1, s2, b, n, B, M, K, pu, f0, f1, nw, T, z, i.up hk (Nat.le_refl _) (by omega), c, m⟩
theorem st_test {l : Launch} {g : kx_G} {k : Nat} {h : kx_Mem} (hk : k < 512) (hG : Glob k h) (a1 : Int32) : Bth l g m_Tc_test m_Mo_test [.int a1] k h 0 0 := by
  obtain ⟨D, A, U, rs, AV, DV, V, u, td, s1, s2, b, n, B, M, K, pu, f0, f1, nw, T, z, i, c, m⟩ := hG
  obtain ⟨i1, i2, i3, ⟨i4a, i4b, i4c, i4d⟩, i5, i6, ⟨i7a, i7b⟩, ⟨i8, i9, i10⟩, i11, i12, i13⟩ := id i
  obtain ⟨c1, ⟨c2, c2x⟩, c3, c4, c5, c6, c7, c8, c9, c10⟩ := id c
  refine kx_Sp.imp (x_Tc_test (d := 29) c1 B c8 a1) (fun v h1 hq => ?_)
  obtain ⟨rfl, he⟩ := hq
  rw [he]
  obtain ⟨m1, m2, m3, m4, m5, m6, m7, m8, m9, m10, m11, m12⟩ := id m
  refine ⟨_, rfl, m1.k 0 rfl, kx_Sp.imp (y_test (d := 29) m1 B m9 a1) (fun v2 h2 hq2 => ?_)⟩
  obtain ⟨rfl, he2⟩ := hq2
  rw [he2]
  exact ⟨rfl, D, A, U, rs, AV, DV, V, u, td, s1, s2, b, n, B, M, K, pu, f0, f1, nw, T, z, i.up hk (Nat.le_refl _) (by omega), c, m⟩
theorem st_count {l : Launch} {g : kx_G} {k : Nat} {h : kx_Mem} (hk : k < 512) (hG : Glob k h) (a1 : Int32) : Bth l g m_Tc_count m_Mo_count [.int a1] k h 0 0 := by
  obtain ⟨D, A, U, rs, AV, DV, V, u, td, s1, s2, b, n, B, M, K, pu, f0, f1, nw, T, z, i, c, m⟩ := hG
  obtain ⟨i1, i2, i3, ⟨i4a, i4b, i4c, i4d⟩, i5, i6, ⟨i7a, i7b⟩, ⟨i8, i9, i10⟩, i11, i12, i13⟩ := id i
  obtain ⟨c1, ⟨c2, c2x⟩, c3, c4, c5, c6, c7, c8, c9, c10⟩ := id c
  refine kx_Sp.imp (x_Tc_count (d := 26) c1 D A i1 c2 td u n M K c6.2.1 c6.1 c7.1 c9.1 c9.2.1 a1) (fun v h1 hq => ?_)
  obtain ⟨rfl, he⟩ := hq
  rw [he]
  obtain ⟨m1, m2, m3, m4, m5, m6, m7, m8, m9, m10, m11, m12⟩ := id m
  refine ⟨_, rfl, m1.k 0 rfl, kx_Sp.imp (y_count (d := 29) m1 nw T i8 D i1 m2 td u n M K m7.2.1 m7.1 m8.1 m10.1 m10.2.1 a1) (fun v2 h2 hq2 => ?_)⟩
  obtain ⟨rfl, he2⟩ := hq2
  rw [he2]
  exact ⟨rfl, D, A, U, rs, AV, DV, V, u, td, s1, s2, b, n, B, M, K, pu, f0, f1, nw, T, z, i.up hk (Nat.le_refl _) (by omega), c, m⟩
theorem st_fault {l : Launch} {g : kx_G} {k : Nat} {h : kx_Mem} (hk : k < 512) (hG : Glob k h) (a1 : Int32) : Bth l g m_Tc_fault m_Mo_fault [.int a1] k h 0 0 := by
  obtain ⟨D, A, U, rs, AV, DV, V, u, td, s1, s2, b, n, B, M, K, pu, f0, f1, nw, T, z, i, c, m⟩ := hG
  obtain ⟨i1, i2, i3, ⟨i4a, i4b, i4c, i4d⟩, i5, i6, ⟨i7a, i7b⟩, ⟨i8, i9, i10⟩, i11, i12, i13⟩ := id i
  obtain ⟨c1, ⟨c2, c2x⟩, c3, c4, c5, c6, c7, c8, c9, c10⟩ := id c
  refine kx_Sp.imp (x_Tc_fault (d := 30) c1 a1) (fun v h1 hq => ?_)
  obtain ⟨rfl, he⟩ := hq
  rw [he]
  obtain ⟨m1, m2, m3, m4, m5, m6, m7, m8, m9, m10, m11, m12⟩ := id m
  refine ⟨_, rfl, m1.k 0 rfl, kx_Sp.imp (y_fault (d := 30) m1 a1) (fun v2 h2 hq2 => ?_)⟩
  obtain ⟨rfl, he2⟩ := hq2
  rw [he2]
  refine ⟨?_, D, A, U, rs, AV, DV, V, u, td, s1, s2, b, n, B, M, K, pu, f0, f1, nw, T, z, i.up hk (Nat.le_refl _) (by omega), c, m⟩
  rw [c10.1, c10.2, m11.1, m11.2]
theorem st_purse {l : Launch} {g : kx_G} {k : Nat} {h : kx_Mem} (hk : k < 512) (hG : Glob k h) (a1 : Int32) : Bth l g m_Tc_purse m_Mo_purse [.int a1] k h 0 0 := by
  obtain ⟨D, A, U, rs, AV, DV, V, u, td, s1, s2, b, n, B, M, K, pu, f0, f1, nw, T, z, i, c, m⟩ := hG
  obtain ⟨i1, i2, i3, ⟨i4a, i4b, i4c, i4d⟩, i5, i6, ⟨i7a, i7b⟩, ⟨i8, i9, i10⟩, i11, i12, i13⟩ := id i
  obtain ⟨c1, ⟨c2, c2x⟩, c3, c4, c5, c6, c7, c8, c9, c10⟩ := id c
  refine kx_Sp.imp (x_Tc_purse (d := 28) c1 D.1 i1.1 c2.1 a1) (fun v h1 hq => ?_)
  obtain ⟨rfl, he⟩ := hq
  rw [he]
  obtain ⟨m1, m2, m3, m4, m5, m6, m7, m8, m9, m10, m11, m12⟩ := id m
  refine ⟨_, rfl, m1.k 0 rfl, kx_Sp.imp (y_purse (d := 28) m1 D.1 i1.1 m2.1 a1) (fun v2 h2 hq2 => ?_)⟩
  obtain ⟨rfl, he2⟩ := hq2
  rw [he2]
  refine ⟨?_, D, A, U, rs, AV, DV, V, u, td, s1, s2, b, n, B, M, K, pu, f0, f1, nw, T, z, i.up hk (Nat.le_refl _) (by omega), c, m⟩
  rw [c9.2.2, m10.2.2]
theorem st_heirOn {l : Launch} {g : kx_G} {k : Nat} {h : kx_Mem} (hk : k < 512) (hG : Glob k h) (a1 a2 a3 a4 : Int32) : Bth l g m_Tc_heirOn m_Mo_heirOn [.int a1, .int a2, .int a3, .int a4] k h 0 0 := by
  obtain ⟨D, A, U, rs, AV, DV, V, u, td, s1, s2, b, n, B, M, K, pu, f0, f1, nw, T, z, i, c, m⟩ := hG
  obtain ⟨i1, i2, i3, ⟨i4a, i4b, i4c, i4d⟩, i5, i6, ⟨i7a, i7b⟩, ⟨i8, i9, i10⟩, i11, i12, i13⟩ := id i
  obtain ⟨c1, ⟨c2, c2x⟩, c3, c4, c5, c6, c7, c8, c9, c10⟩ := id c
  refine kx_Sp.imp (x_Tc_heirOn (d := 27) c1 D.1 i1.1 c2.1 a1 a2 a3 a4) (fun v h1 hq => ?_)
  obtain ⟨rfl, hf⟩ := hq
  have w := hf.gw
  have hc1 : h1.2.2.2.2 = h.2.2.2.2 := by rw [hf.1]
  have cc := c.fs w i11 (fun a j q => by simp at q; omega) (fun _ _ => id)
  have mm := m.fx w i11 (fun a j q => by simp at q; unfold pC; omega) (fun _ _ q => q.elim) (fun _ _ q => q.elim)
  clear c m
  obtain ⟨m1, m2, m3, m4, m5, m6, m7, m8, m9, m10, m11, m12⟩ := id mm
  refine ⟨_, rfl, m1.k 0 rfl, kx_Sp.imp (y_heirOn (d := 28) m1 D.1 i1.1 m2.1 a1 a2 a3 a4) (fun v2 h2 hq2 => ?_)⟩
  obtain ⟨rfl, he2⟩ := hq2
  rw [he2]
  exact ⟨rfl, D, A, U, rs, AV, DV, V, u, td, s1, s2, b, n, B, M, K, pu, f0, f1, nw, T, z, i.up hk (by omega) (by omega), cc, mm⟩
theorem st_due {l : Launch} {g : kx_G} {k : Nat} {h : kx_Mem} (hk : k < 512) (hG : Glob k h) (a1 : Int32) : Bth l g m_Tc_due m_Mo_due [.int a1] k h 0 0 := by
  obtain ⟨D, A, U, rs, AV, DV, V, u, td, s1, s2, b, n, B, M, K, pu, f0, f1, nw, T, z, i, c, m⟩ := hG
  obtain ⟨i1, i2, i3, ⟨i4a, i4b, i4c, i4d⟩, i5, i6, ⟨i7a, i7b⟩, ⟨i8, i9, i10⟩, i11, i12, i13⟩ := id i
  obtain ⟨c1, ⟨c2, c2x⟩, c3, c4, c5, c6, c7, c8, c9, c10⟩ := id c
  refine kx_Sp.imp (x_Tc_due (d := 24) c1 D A i1 c2 AV DV V c5 u i4a c6.1 td (by omega) c6.2.1 a1) (fun v h1 hq => ?_)
  obtain ⟨rfl, hf⟩ := hq
  have w := hf.gw (Z := nvr)
  have hc1 : h1.2.2.2.2 = h.2.2.2.2 := by rw [hf.1]
  have cc : gC D A U rs AV DV V u td s1 s2 b n B M K pu f0 f1 h1 := ⟨c1.fc hf, ⟨c2.fd hf, c2x.gw w⟩, pcU c3 w i11 (fun a j q => by unfold FdC; omega), pcR c4 w i11 (fun a j q => by unfold FdC; omega), pcV c5 w i11 (fun a j q => ⟨by unfold FdC; omega, id⟩) ⟨id, fun _ => id⟩, pcI c6 w i11 (fun a j q => by unfold FdC; omega), pcT c7 w i11 (fun a j q => by unfold FdC; omega), pcB c8 w i11 (fun a j q => by unfold FdC; omega), pcF c9 w i11 (fun a j q => by unfold FdC; omega), pcQ c10 w i11 (fun a j q => by unfold FdC; omega)⟩
  have mm := m.fx w i11 (fun a j q => by unfold FdC at q; unfold pC; omega) (fun _ _ q => q.elim) (fun _ _ q => q.elim)
  clear c m
  obtain ⟨m1, m2, m3, m4, m5, m6, m7, m8, m9, m10, m11, m12⟩ := id mm
  refine ⟨_, rfl, m1.k 0 rfl, kx_Sp.imp (y_due (d := 23) m1 nw T i8 D i1 m2 (V u) td u i4a (i3 u i4a).1 (m6 u i4a) m7.1 m7.2.1 (by omega) a1) (fun v2 h2 hq2 => ?_)⟩
  obtain ⟨rfl, hf2⟩ := hq2
  have w2 := hf2.gw (Z := nvr)
  have hc2 : h2.2.2.2.2 = h1.2.2.2.2 := by rw [hf2.1]
  exact ⟨rfl, D, A, U, rs, AV, DV, V, u, td, s1, s2, b, n, B, M, K, pu, f0, f1, nw, T, z, i.up hk (by omega) (by omega), cc.fy w2 (by omega) (fun a j q => by unfold FdM FT at q; unfold pM; omega) (fun _ _ q => q.elim), mm.fs w2 (by omega) (fun a j q => by unfold FdM FT at q; omega)⟩
theorem st_lost {l : Launch} {g : kx_G} {k : Nat} {h : kx_Mem} (hk : k < 512) (hG : Glob k h) (a1 a2 : Int32) : Bth l g m_Tc_lost m_Mo_lost [.int a1, .int a2] k h 0 0 := by
  obtain ⟨D, A, U, rs, AV, DV, V, u, td, s1, s2, b, n, B, M, K, pu, f0, f1, nw, T, z, i, c, m⟩ := hG
  obtain ⟨i1, i2, i3, ⟨i4a, i4b, i4c, i4d⟩, i5, i6, ⟨i7a, i7b⟩, ⟨i8, i9, i10⟩, i11, i12, i13⟩ := id i
  obtain ⟨c1, ⟨c2, c2x⟩, c3, c4, c5, c6, c7, c8, c9, c10⟩ := id c
  refine kx_Sp.imp (x_Tc_lost (d := 25) c1 D.2.1 i1.2.1 c2.2.1 a1 a2) (fun v h1 hq => ?_)
  obtain ⟨rfl, hf⟩ := hq
  have w := hf.gw
  have hc1 : h1.2.2.2.2 = h.2.2.2.2 := by rw [hf.1]
  have cc := c.fs w i11 (fun a j q => by simp at q; omega) (fun _ _ => id)
  have mm := m.fx w i11 (fun a j q => by simp at q; unfold pC; omega) (fun _ _ q => q.elim) (fun _ _ q => q.elim)
  clear c m
  obtain ⟨m1, m2, m3, m4, m5, m6, m7, m8, m9, m10, m11, m12⟩ := id mm
  have o2 := i1.2.1.1
  by_cases e9 : 0 ≤ a1 ∧ a1 < nI D.2.1.1
  · obtain ⟨q9, hq9, rfl⟩ := valP (n := D.2.1.1) (by omega) e9
    refine ⟨_, rfl, m1.k 0 rfl, kx_Sp.imp (y_lost (d := 27) m1 D.2.1 i1.2.1 m2.2.1 q9 hq9 a2) (fun v2 h2 hq2 => ?_)⟩
    obtain ⟨rfl, hf2⟩ := hq2
    have w2 := hf2.gw (Z := nvr)
    have hc2 : h2.2.2.2.2 = h1.2.2.2.2 := by rw [hf2.1]
    rw [if_pos e9, nI_clamp (by omega)]
    exact ⟨rfl, D, A, U, rs, AV, DV, V, u, td, s1, s2, b, n, B, M, K, pu, f0, f1, nw, T, z, i.up hk (by omega) (by omega), cc.fy w2 (by omega) (fun a j q => by unfold FT at q; unfold pM; omega) (fun _ _ q => q.elim), mm.fs w2 (by omega) (fun a j q => by unfold FT at q; omega)⟩
  · refine ⟨_, rfl, m1.k 0 rfl, kx_Sp.imp (y_lostN (d := 28) m1 D.2.1 i1.2.1 m2.2.1 a1 e9 a2) (fun v2 h2 hq2 => ?_)⟩
    obtain ⟨rfl, he2⟩ := hq2
    rw [he2, if_neg e9]
    exact ⟨rfl, D, A, U, rs, AV, DV, V, u, td, s1, s2, b, n, B, M, K, pu, f0, f1, nw, T, z, i.up hk (by omega) (by omega), cc, mm⟩
