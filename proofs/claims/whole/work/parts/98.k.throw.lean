/-! building: the Stop -/
def m_Ex_init : kx_M := (⟨"java/lang/Exception", "<init>", "(Ljava/lang/String;Ljava/lang/Throwable;ZZ)V"⟩, prog_20_method_5_code, 5, (none))
def t_Ex_init : List (Nat × Instr × Nat) := [(0, .aload_n 0, 1), (1, .aload_n 1, 1), (2, .aload_n 2, 1), (3, .iload_n 3, 1), (4, .iload 4, 2), (6, .invokespecial 16, 3), (9, .return_, 1)]
theorem d_Ex_init : kx_dk m_Ex_init.2.1 t_Ex_init = true := by decide +kernel
theorem w_Ex_init : kx_MW m_Ex_init 4 := ⟨kx_in 1566 (by decide +kernel) rfl, kx_in 16 (by decide +kernel) rfl, by decide +kernel, by decide +kernel, by decide, by decide +kernel⟩
theorem wi_Ex_init : Cond.instanceMethod m_Ex_init.1 ∈ kx_good := kx_in 1565 (by decide +kernel) rfl
theorem lk_St_1 : kx_LK "TreatyClaimsModel$Stop" 1 m_Ex_init := Or.inl (kx_in 1564 (by decide +kernel) rfl)
def m_Tw_init : kx_M := (⟨"java/lang/Throwable", "<init>", "(Ljava/lang/String;Ljava/lang/Throwable;ZZ)V"⟩, prog_29_method_5_code, 5, (none))
def t_Tw_init : List (Nat × Instr × Nat) := [(0, .aload_n 0, 1), (1, .invokespecial 1, 3), (4, .aload_n 0, 1), (5, .aload_n 0, 1), (6, .putfield 7, 3), (9, .aload_n 0, 1), (10, .getstatic 13, 3), (13, .putfield 17, 3), (16, .aload_n 0, 1), (17, .getstatic 20, 3), (20, .putfield 24, 3), (23, .iload 4, 2), (25, .ifCond .eq 11, 3), (28, .aload_n 0, 1), (29, .invokevirtual 27, 3), (32, .pop, 1), (33, .goto 8, 3), (36, .aload_n 0, 1), (37, .aconst_null, 1), (38, .putfield 17, 3), (41, .aload_n 0, 1), (42, .aload_n 1, 1), (43, .putfield 31, 3), (46, .aload_n 0, 1), (47, .aload_n 2, 1), (48, .putfield 7, 3), (51, .iload_n 3, 1), (52, .ifCond .ne 8, 3), (55, .aload_n 0, 1), (56, .aconst_null, 1), (57, .putfield 24, 3), (60, .return_, 1)]
theorem d_Tw_init : kx_dk m_Tw_init.2.1 t_Tw_init = true := by decide +kernel
theorem w_Tw_init : kx_MW m_Tw_init 4 := ⟨kx_in 1569 (by decide +kernel) rfl, kx_in 15 (by decide +kernel) rfl, by decide +kernel, by decide +kernel, by decide, by decide +kernel⟩
theorem wi_Tw_init : Cond.instanceMethod m_Tw_init.1 ∈ kx_good := kx_in 1568 (by decide +kernel) rfl
theorem lk_Ex_16 : kx_LK "java/lang/Exception" 16 m_Tw_init := Or.inl (kx_in 1567 (by decide +kernel) rfl)
theorem oi_Tw : Cond.methodLink "java/lang/Throwable" 1 objectInit ∈ kx_good := kx_in 1547 (by decide +kernel) rfl
theorem fl_Tw_7 : kx_FL "java/lang/Throwable" 7 13 0 := ⟨(kx_C13, kx_T13, 6), "java/lang/Throwable", rfl, by decide, Or.inl (kx_in 1572 (by decide +kernel) rfl), Or.inl rfl⟩
theorem fl_Tw_17 : kx_FL "java/lang/Throwable" 17 13 1 := ⟨(kx_C13, kx_T13, 6), "java/lang/Throwable", rfl, by decide, Or.inl (kx_in 1573 (by decide +kernel) rfl), Or.inl rfl⟩
theorem fl_Tw_24 : kx_FL "java/lang/Throwable" 24 13 2 := ⟨(kx_C13, kx_T13, 6), "java/lang/Throwable", rfl, by decide, Or.inl (kx_in 1574 (by decide +kernel) rfl), Or.inl rfl⟩
theorem fl_Tw_31 : kx_FL "java/lang/Throwable" 31 13 3 := ⟨(kx_C13, kx_T13, 6), "java/lang/Throwable", rfl, by decide, Or.inl (kx_in 1571 (by decide +kernel) rfl), Or.inl rfl⟩
theorem kl_T1 : Cond.fieldLink "java/lang/Throwable" 13 "java/lang/Throwable" "UNASSIGNED_STACK" "[Ljava/lang/StackTraceElement;" ∈ kx_good ∧ Cond.laysStatic "java/lang/Throwable" "UNASSIGNED_STACK" "[Ljava/lang/StackTraceElement;" ∈ lw_tbl := ⟨kx_in 1548 (by decide +kernel) rfl, List.mem_append_right _ (List.mem_of_getElem? (i := 1549) (by decide +kernel))⟩
theorem kl_T2 : Cond.fieldLink "java/lang/Throwable" 20 "java/lang/Throwable" "SUPPRESSED_SENTINEL" "Ljava/util/List;" ∈ kx_good ∧ Cond.laysStatic "java/lang/Throwable" "SUPPRESSED_SENTINEL" "Ljava/util/List;" ∈ lw_tbl := ⟨kx_in 1550 (by decide +kernel) rfl, List.mem_append_right _ (List.mem_of_getElem? (i := 1551) (by decide +kernel))⟩
theorem kl_T3 : Cond.initialized "java/lang/Throwable" ∈ lw_tbl := List.mem_append_right _ (List.mem_of_getElem? (i := 15) (by decide +kernel))
theorem Bd.setRo {E : Nat → Nat → Int32 → Prop} {R T : List (Nat × Nat × Nat)} {L : List Nat} {N : Nat} {h : kx_Mem} {a j : Nat} {v : Option Nat} (hB : Bd E R T L N h) (hn : ∀ q ∈ R, q.1 ≠ a) : Bd E R T L N (kx_setR h a j v) := by
  obtain ⟨b1, b2, ⟨b4, b5⟩, b6, b7, b8⟩ := hB
  refine ⟨b1, b2, ⟨fun q hq => ?_, b5⟩, b6, b7, b8⟩
  show kx_up h.2.2.1 a j v q.1 q.2.1 = _
  rw [kx_up_ne (hn q hq)]; exact b4 q hq
theorem kx_putO {f : kx_F} {cells slots pc : Nat} {lv : List (Option Value)} {st : List Value} {h : kx_Mem} {E : Nat → Nat → Int32 → Prop} {R T : List (Nat × Nat × Nat)} {L : List Nat} {N o j ci idx : Nat} {v : Option Nat} (hB : Bd E R T L N h) (hmo : (o, ci + 1, 0) ∈ T) (hno : ∀ q ∈ R, q.1 ≠ o) (hN : N ≤ 1000000) (hf : kx_FL f.2.2.1.1.cls idx ci j) (hwr : kx_wr f.2.2.1 ci j = true) (htr : (kx_ty ci j).isReference = true) (hdp : decode f.2.2.1.2.1 pc = .ok (.putfield idx, 3)) (k : ∀ h', Bd E R T L N h' → kx_X f cells slots (pc + 3) lv st h') : kx_X f cells slots pc lv (kx_rf v :: .ref o :: st) h := by
  have ho : o < N := hB.2.1.2 _ hmo
  have hko : h.2.2.2.1 o = (ci + 1, 0) := hB.2.2.1.2 _ hmo
  exact kx_putR hf (by rw [hko]) (by omega) hwr htr hdp (k _ (hB.setRo hno))
theorem x_Tw_init {l : Launch} {g : kx_G} {d : Nat} {h : kx_Mem} (E : Nat → Nat → Int32 → Prop) (R T : List (Nat × Nat × Nat)) (L : List Nat) (N o : Nat) (hB : Bd E R T L N h) (hmo : (o, 14, 0) ∈ T) (hno : ∀ q ∈ R, q.1 ≠ o) (hN : N < 1000) : kx_Sp l g m_Tw_init [.ref o, .null, .null, .int 0, .int 0] h (d + 1) 0 0 (fun v h' => v = none ∧ Bd E R T L N h') := by
  refine kx_enter_e (lv := [_, _, _, _, _]) (by decide +kernel) (Nat.le_of_ble_eq_true rfl) rfl ?_
  refine kx_aload_n (pc := 0) (kx_dd d_Tw_init 0 rfl) rfl rfl ?_
  refine kx_objInit (pc := 1) oi_Tw oi_2 oi_3 (kx_dd d_Tw_init 1 rfl) (Nat.le_of_ble_eq_true rfl) (Nat.le_of_ble_eq_true rfl) ?_
  refine kx_aload_n (pc := 4) (kx_dd d_Tw_init 2 rfl) rfl rfl ?_
  refine kx_aload_n (pc := 5) (kx_dd d_Tw_init 3 rfl) rfl rfl ?_
  refine kx_putO (pc := 6) (v := some o) hB hmo hno (by omega) fl_Tw_7 rfl rfl (kx_dd d_Tw_init 4 rfl) (fun h hB => ?_)
  refine kx_aload_n (pc := 9) (kx_dd d_Tw_init 5 rfl) rfl rfl ?_
  refine kx_getQ0 (pc := 10) kl_T1.1 (fun U H hE hR => kx_Zq (k := 204) hE hR kl_T1.2 kl_T3 (List.mem_of_getElem? (i := 2) rfl)) (kx_dd d_Tw_init 6 rfl) (fun r1 => ?_)
  refine kx_putO (pc := 13) (v := r1) hB hmo hno (by omega) fl_Tw_17 rfl rfl (kx_dd d_Tw_init 7 rfl) (fun h hB => ?_)
  refine kx_aload_n (pc := 16) (kx_dd d_Tw_init 8 rfl) rfl rfl ?_
  refine kx_getQ0 (pc := 17) kl_T2.1 (fun U H hE hR => kx_Zq (k := 203) hE hR kl_T2.2 kl_T3 (List.mem_of_getElem? (i := 1) rfl)) (kx_dd d_Tw_init 9 rfl) (fun r2 => ?_)
  refine kx_putO (pc := 20) (v := r2) hB hmo hno (by omega) fl_Tw_24 rfl rfl (kx_dd d_Tw_init 10 rfl) (fun h hB => ?_)
  refine kx_iload (pc := 23) (kx_dd d_Tw_init 11 rfl) rfl ?_
  refine kx_if_eq (pc := 25) (tgt := 36) (kx_dd d_Tw_init 12 rfl) rfl (fun _ => ?_) (fun z => absurd rfl z)
  refine kx_aload_n (pc := 36) (kx_dd d_Tw_init 17 rfl) rfl rfl ?_
  refine kx_null (pc := 37) (kx_dd d_Tw_init 18 rfl) ?_
  refine kx_putO (pc := 38) (v := none) hB hmo hno (by omega) fl_Tw_17 rfl rfl (kx_dd d_Tw_init 19 rfl) (fun h hB => ?_)
  refine kx_aload_n (pc := 41) (kx_dd d_Tw_init 20 rfl) rfl rfl ?_
  refine kx_aload_nN (pc := 42) (kx_dd d_Tw_init 21 rfl) rfl rfl ?_
  refine kx_putO (pc := 43) (v := none) hB hmo hno (by omega) fl_Tw_31 rfl rfl (kx_dd d_Tw_init 22 rfl) (fun h hB => ?_)
  refine kx_aload_n (pc := 46) (kx_dd d_Tw_init 23 rfl) rfl rfl ?_
  refine kx_aload_nN (pc := 47) (kx_dd d_Tw_init 24 rfl) rfl rfl ?_
  refine kx_putO (pc := 48) (v := none) hB hmo hno (by omega) fl_Tw_7 rfl rfl (kx_dd d_Tw_init 25 rfl) (fun h hB => ?_)
  refine kx_iload_n (pc := 51) (kx_dd d_Tw_init 26 rfl) rfl rfl ?_
  refine kx_if_ne (pc := 52) (tgt := 60) (kx_dd d_Tw_init 27 rfl) rfl (fun z => absurd rfl z) (fun _ => ?_)
  refine kx_aload_n (pc := 55) (kx_dd d_Tw_init 28 rfl) rfl rfl ?_
  refine kx_null (pc := 56) (kx_dd d_Tw_init 29 rfl) ?_
  refine kx_putO (pc := 57) (v := none) hB hmo hno (by omega) fl_Tw_24 rfl rfl (kx_dd d_Tw_init 30 rfl) (fun h hB => ?_)
  exact kx_vret (pc := 60) rfl (kx_dd d_Tw_init 31 rfl) (Nat.le_refl _) (Nat.le_refl _) ⟨rfl, hB⟩
theorem x_Ex_init {l : Launch} {g : kx_G} {d : Nat} {h : kx_Mem} (E : Nat → Nat → Int32 → Prop) (R T : List (Nat × Nat × Nat)) (L : List Nat) (N o : Nat) (hB : Bd E R T L N h) (hmo : (o, 14, 0) ∈ T) (hno : ∀ q ∈ R, q.1 ≠ o) (hN : N < 1000) : kx_Sp l g m_Ex_init [.ref o, .null, .null, .int 0, .int 0] h (d + 2) 0 0 (fun v h' => v = none ∧ Bd E R T L N h') := by
  refine kx_enter_e (lv := [_, _, _, _, _]) (by decide +kernel) (Nat.le_of_ble_eq_true rfl) rfl ?_
  refine kx_aload_n (pc := 0) (kx_dd d_Ex_init 0 rfl) rfl rfl ?_
  refine kx_aload_nN (pc := 1) (kx_dd d_Ex_init 1 rfl) rfl rfl ?_
  refine kx_aload_nN (pc := 2) (kx_dd d_Ex_init 2 rfl) rfl rfl ?_
  refine kx_iload_n (pc := 3) (kx_dd d_Ex_init 3 rfl) rfl rfl ?_
  refine kx_iload (pc := 4) (kx_dd d_Ex_init 4 rfl) rfl ?_
  refine kx_invI (pc := 6) (a := o) (as := [_, _, _, _]) rfl (kx_dd d_Ex_init 5 rfl) ⟨lk_Ex_16, rfl, wi_Tw_init⟩ w_Tw_init rfl rfl (Nat.le_of_ble_eq_true rfl) (x_Tw_init (d := d) E R T L N o hB hmo hno hN) (Nat.le_refl _) ⟨Nat.le_refl _, Nat.le_refl _⟩ (fun v h' hq => ?_)
  obtain ⟨rfl, hB⟩ := hq
  exact kx_vret (pc := 9) rfl (kx_dd d_Ex_init 6 rfl) (Nat.le_refl _) (Nat.le_refl _) ⟨rfl, hB⟩
theorem x_St_init {l : Launch} {g : kx_G} {d : Nat} {h : kx_Mem} (E : Nat → Nat → Int32 → Prop) (R T : List (Nat × Nat × Nat)) (L : List Nat) (N o : Nat) (hB : Bd E R T L N h) (hmo : (o, 14, 0) ∈ T) (hno : ∀ q ∈ R, q.1 ≠ o) (hN : N < 1000) : kx_Sp l g m_St_init [.ref o] h (d + 3) 0 0 (fun v h' => v = none ∧ Bd E R T L N h') := by
  refine kx_enter_e (lv := [_]) (by decide +kernel) (Nat.le_of_ble_eq_true rfl) rfl ?_
  refine kx_aload_n (pc := 0) (kx_dd d_St_init 0 rfl) rfl rfl ?_
  refine kx_null (pc := 1) (kx_dd d_St_init 1 rfl) ?_
  refine kx_null (pc := 2) (kx_dd d_St_init 2 rfl) ?_
  refine kx_iconst (pc := 3) (v := 0) (kx_dd d_St_init 3 rfl) rfl ?_
  refine kx_iconst (pc := 4) (v := 0) (kx_dd d_St_init 4 rfl) rfl ?_
  refine kx_invI (pc := 5) (a := o) (as := [_, _, _, _]) rfl (kx_dd d_St_init 5 rfl) ⟨lk_St_1, rfl, wi_Ex_init⟩ w_Ex_init rfl rfl (Nat.le_of_ble_eq_true rfl) (x_Ex_init (d := d) E R T L N o hB hmo hno hN) (Nat.le_refl _) ⟨Nat.le_refl _, Nat.le_refl _⟩ (fun v h' hq => ?_)
  obtain ⟨rfl, hB⟩ := hq
  exact kx_vret (pc := 8) rfl (kx_dd d_St_init 6 rfl) (Nat.le_refl _) (Nat.le_refl _) ⟨rfl, hB⟩
