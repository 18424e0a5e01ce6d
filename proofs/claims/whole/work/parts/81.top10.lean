/-! top-level: the class: about, weakest, lacks -/
theorem x_Tc_about {l : Launch} {g : kx_G} {d : Nat} {h : kx_Mem} (hs : SC h) (D : DK) (A : DA) (ho : DKok D) (hp : DKc D A h) (a w : Int32) : kx_Sp l g m_Tc_about [.ref 0, .int a, .int w] h (d + 4) 0 0 (fun v h' => v = some (.int (if 0 ≤ a ∧ a < nI D.2.2.1.1 then detC D a.toNatClampNeg w else -9)) ∧ h' = h) := by
  have o1 := ho.2.2.1.1
  by_cases e9 : 0 ≤ a ∧ a < nI D.2.2.1.1
  · obtain ⟨a9, ha9, rfl⟩ := valP (n := D.2.2.1.1) (by omega) e9
    refine kx_enter_e (lv := [_, _, _, _]) (by decide +kernel) (Nat.le_of_ble_eq_true rfl) rfl ?_
    refine kx_aload_n (pc := 0) (kx_dd d_Tc_about 0 rfl) rfl rfl ?_
    refine kx_getR (pc := 1) (b := 39) fl_Tc_57 (hs.k 0 rfl) rfl (hs.r 6 rfl) (kx_dd d_Tc_about 1 rfl) ?_
    refine kx_iload_n (pc := 4) (kx_dd d_Tc_about 2 rfl) rfl rfl ?_
    refine kx_invV (pc := 5) (a := 39) (as := [_]) (kx_dd d_Tc_about 3 rfl) ⟨lk_Tc_190, wi_Do_claimAt, we_Do_claimAt⟩ w_Do_claimAt (hs.k 39 rfl) rfl rfl rfl rfl (Nat.le_of_ble_eq_true rfl) (x_Do_claimAt (d := d) hs D A ho hp a9 ha9) (Nat.le_refl _) ⟨Nat.le_refl _, Nat.le_refl _⟩ (fun v h' hq => ?_)
    obtain ⟨rfl, he⟩ := hq
    rw [he]
    clear he
    refine kx_astore_ne (pc := 8) (lv' := [_, _, _, _]) (kx_dd d_Tc_about 4 rfl) rfl (Nat.le_of_ble_eq_true rfl) rfl ?_
    refine kx_aload_n (pc := 9) (kx_dd d_Tc_about 5 rfl) rfl rfl ?_
    refine kx_ifnonnull (pc := 10) (tgt := 18) (kx_dd d_Tc_about 6 rfl) rfl ?_
    refine kx_aload_n (pc := 18) (kx_dd d_Tc_about 9 rfl) rfl rfl ?_
    refine kx_iload_n (pc := 19) (kx_dd d_Tc_about 10 rfl) rfl rfl ?_
    refine kx_invV (pc := 20) (a := (A.1 a9)) (as := [_]) (kx_dd d_Tc_about 11 rfl) ⟨lk_Tc_242, wi_Cl_detail, we_Cl_detail⟩ w_Cl_detail (congrArg Prod.fst (hp.2.2.2.2.1.2 a9 ha9).2.2.1) rfl rfl rfl rfl (Nat.le_of_ble_eq_true rfl) (x_Cl_detail (d := d + 3) hs D A ho hp a9 ha9 w) (Nat.le_refl _) ⟨Nat.le_refl _, Nat.le_refl _⟩ (fun v h' hq => ?_)
    obtain ⟨rfl, he⟩ := hq
    rw [he]
    clear he
    refine kx_iret (pc := 23) rfl (kx_dd d_Tc_about 12 rfl) (Nat.le_refl _) (Nat.le_refl _) ?_
    exact ⟨by rw [if_pos e9, nI_clamp (by omega)], rfl⟩
  · skip
    refine kx_enter_e (lv := [_, _, _, _]) (by decide +kernel) (Nat.le_of_ble_eq_true rfl) rfl ?_
    refine kx_aload_n (pc := 0) (kx_dd d_Tc_about 0 rfl) rfl rfl ?_
    refine kx_getR (pc := 1) (b := 39) fl_Tc_57 (hs.k 0 rfl) rfl (hs.r 6 rfl) (kx_dd d_Tc_about 1 rfl) ?_
    refine kx_iload_n (pc := 4) (kx_dd d_Tc_about 2 rfl) rfl rfl ?_
    refine kx_invV (pc := 5) (a := 39) (as := [_]) (kx_dd d_Tc_about 3 rfl) ⟨lk_Tc_190, wi_Do_claimAt, we_Do_claimAt⟩ w_Do_claimAt (hs.k 39 rfl) rfl rfl rfl rfl (Nat.le_of_ble_eq_true rfl) (x_Do_claimAtN (d := d + 2) hs D A ho hp a e9) (Nat.le_refl _) ⟨Nat.le_refl _, Nat.le_refl _⟩ (fun v h' hq => ?_)
    obtain ⟨rfl, he⟩ := hq
    rw [he]
    clear he
    refine kx_astore_neN (pc := 8) (lv' := [_, _, _, _]) (kx_dd d_Tc_about 4 rfl) rfl (Nat.le_of_ble_eq_true rfl) rfl ?_
    refine kx_aload_nN (pc := 9) (kx_dd d_Tc_about 5 rfl) rfl rfl ?_
    refine kx_ifnonnullN (pc := 10) (kx_dd d_Tc_about 6 rfl) ?_
    refine kx_bipush (pc := 13) (v := -9) (kx_dd d_Tc_about 7 rfl) rfl ?_
    refine kx_goto (pc := 15) (tgt := 23) (kx_dd d_Tc_about 8 rfl) rfl ?_
    refine kx_iret (pc := 23) rfl (kx_dd d_Tc_about 12 rfl) (Nat.le_refl _) (Nat.le_refl _) ?_
    exact ⟨by rw [if_neg e9], rfl⟩
noncomputable def weaA (D : DK) (V : Nat → RU) (a b c : Int32) : Int32 := @ite _ (askP D a b c) (Classical.propDecidable _) (if faiF D (V b.toNatClampNeg) a.toNatClampNeg c.toNatClampNeg = 0 then oI (wkF (V b.toNatClampNeg) (D.2.2.1.2.2 a.toNatClampNeg) (hadF D (V b.toNatClampNeg) a.toNatClampNeg c.toNatClampNeg)) else -1) (-2)
theorem x_Tc_weakest {l : Launch} {g : kx_G} {d : Nat} {h : kx_Mem} (hs : SC h) (D : DK) (A : DA) (ho : DKok D) (hp : DKc D A h) (AV : Nat → Nat) (DV : Nat) (V : Nat → RU) (hV : CVs AV DV V h) (a b c : Int32) : kx_Sp l g m_Tc_weakest [.ref 0, .int a, .int b, .int c] h (d + 5) 0 0 (fun v h' => v = some (.int (weaA D V a b c)) ∧ h' = h) := by
  have o1 := ho.2.2.1.1
  by_cases e9 : 0 ≤ a ∧ a < nI D.2.2.1.1
  · by_cases e8 : vrs b
    · skip
      obtain ⟨a9, ha9, rfl⟩ := valP (n := D.2.2.1.1) (by omega) e9
      obtain ⟨b9, hb9, rfl⟩ := vrs_n e8
      refine kx_enter_e (lv := [_, _, _, _, _, _]) (by decide +kernel) (Nat.le_of_ble_eq_true rfl) rfl ?_
      refine kx_aload_n (pc := 0) (kx_dd d_Tc_weakest 0 rfl) rfl rfl ?_
      refine kx_getR (pc := 1) (b := 39) fl_Tc_57 (hs.k 0 rfl) rfl (hs.r 6 rfl) (kx_dd d_Tc_weakest 1 rfl) ?_
      refine kx_iload_n (pc := 4) (kx_dd d_Tc_weakest 2 rfl) rfl rfl ?_
      refine kx_invV (pc := 5) (a := 39) (as := [_]) (kx_dd d_Tc_weakest 3 rfl) ⟨lk_Tc_190, wi_Do_claimAt, we_Do_claimAt⟩ w_Do_claimAt (hs.k 39 rfl) rfl rfl rfl rfl (Nat.le_of_ble_eq_true rfl) (x_Do_claimAt (d := d + 1) hs D A ho hp a9 ha9) (Nat.le_refl _) ⟨Nat.le_refl _, Nat.le_refl _⟩ (fun v h' hq => ?_)
      obtain ⟨rfl, he⟩ := hq
      rw [he]
      clear he
      refine kx_astore_e (pc := 8) (lv' := [_, _, _, _, _, _]) (kx_dd d_Tc_weakest 4 rfl) (Nat.le_of_ble_eq_true rfl) rfl ?_
      refine kx_aload_n (pc := 10) (kx_dd d_Tc_weakest 5 rfl) rfl rfl ?_
      refine kx_iload_n (pc := 11) (kx_dd d_Tc_weakest 6 rfl) rfl rfl ?_
      refine kx_invV (pc := 12) (a := 0) (as := [_]) (kx_dd d_Tc_weakest 7 rfl) ⟨lk_Tc_151, wi_Tc_versionAt, we_Tc_versionAt⟩ w_Tc_versionAt (hs.k 0 rfl) rfl rfl rfl rfl (Nat.le_of_ble_eq_true rfl) (x_Tc_versionV (d := d + 3) hs AV DV V hV b9 hb9) (Nat.le_refl _) ⟨Nat.le_refl _, Nat.le_refl _⟩ (fun v h' hq => ?_)
      obtain ⟨rfl, he⟩ := hq
      rw [he]
      clear he
      refine kx_astore_e (pc := 15) (lv' := [_, _, _, _, _, _]) (kx_dd d_Tc_weakest 8 rfl) (Nat.le_of_ble_eq_true rfl) rfl ?_
      refine kx_aload (pc := 17) (kx_dd d_Tc_weakest 9 rfl) rfl ?_
      refine kx_ifnull (pc := 19) (kx_dd d_Tc_weakest 10 rfl) ?_
      refine kx_aload (pc := 22) (kx_dd d_Tc_weakest 11 rfl) rfl ?_
      refine kx_ifnull (pc := 24) (kx_dd d_Tc_weakest 12 rfl) ?_
      refine kx_iload_n (pc := 27) (kx_dd d_Tc_weakest 13 rfl) rfl rfl ?_
      refine kx_invS (pc := 28) (as := [_]) (kx_dd d_Tc_weakest 14 rfl) ⟨lk_Tc_105, wt_Tc_isDay⟩ w_Tc_isDay rfl rfl (Nat.le_of_ble_eq_true rfl) (x_Tc_isDay (d := d + 3) c) (Nat.le_refl _) ⟨Nat.le_refl _, Nat.le_refl _⟩ (fun v h' hq => ?_)
      obtain ⟨rfl, he⟩ := hq
      rw [he]
      clear he
      refine kx_if_ne (pc := 31) (tgt := 37) (kx_dd d_Tc_weakest 15 rfl) rfl (fun c31 => ?_) (fun c31 => ?_)
      · have c31 := (bP_ti _).mp c31
        obtain ⟨c9, hc9, rfl⟩ := valD c31
        refine kx_aload_n (pc := 37) (kx_dd d_Tc_weakest 18 rfl) rfl rfl ?_
        refine kx_getR (pc := 38) (b := 39) fl_Tc_57 (hs.k 0 rfl) rfl (hs.r 6 rfl) (kx_dd d_Tc_weakest 19 rfl) ?_
        refine kx_aload (pc := 41) (kx_dd d_Tc_weakest 20 rfl) rfl ?_
        refine kx_aload (pc := 43) (kx_dd d_Tc_weakest 21 rfl) rfl ?_
        refine kx_iload_n (pc := 45) (kx_dd d_Tc_weakest 22 rfl) rfl rfl ?_
        refine kx_invV (pc := 46) (a := 39) (as := [_, _, _]) (kx_dd d_Tc_weakest 23 rfl) ⟨lk_Tc_214, wi_Do_failuresOf, we_Do_failuresOf⟩ w_Do_failuresOf (hs.k 39 rfl) rfl rfl rfl rfl (Nat.le_of_ble_eq_true rfl) (x_Do_failuresOf (d := d) hs D A ho hp (AV b9) (IsRu.of hs (hV.2.2 b9 hb9).2.1) (V b9) (hV.2.2 b9 hb9).2.2.2.1 (hV.2.2 b9 hb9).2.2.2.2.1 a9 ha9 c9 (by omega)) (Nat.le_refl _) ⟨Nat.le_refl _, Nat.le_refl _⟩ (fun v h' hq => ?_)
        obtain ⟨rfl, he⟩ := hq
        rw [he]
        clear he
        refine kx_if_eq (pc := 49) (tgt := 54) (kx_dd d_Tc_weakest 24 rfl) rfl (fun c49 => ?_) (fun c49 => ?_)
        · refine kx_aload (pc := 54) (kx_dd d_Tc_weakest 27 rfl) rfl ?_
          refine kx_aload (pc := 56) (kx_dd d_Tc_weakest 28 rfl) rfl ?_
          refine kx_getL (pc := 58) fl_Tc_224 (congrArg Prod.fst (hp.2.2.2.2.1.2 a9 ha9).2.2.1) rfl (kx_dd d_Tc_weakest 29 rfl) ?_
          rw [show h.2.1 (A.1 a9) 6 = lN (D.2.2.1.2.2 a9) from (hp.2.2.2.2.1.2 a9 ha9).2.2.2.2]
          refine kx_aload_n (pc := 61) (kx_dd d_Tc_weakest 30 rfl) rfl rfl ?_
          refine kx_getR (pc := 62) (b := 39) fl_Tc_57 (hs.k 0 rfl) rfl (hs.r 6 rfl) (kx_dd d_Tc_weakest 31 rfl) ?_
          refine kx_aload (pc := 65) (kx_dd d_Tc_weakest 32 rfl) rfl ?_
          refine kx_aload (pc := 67) (kx_dd d_Tc_weakest 33 rfl) rfl ?_
          refine kx_iload_n (pc := 69) (kx_dd d_Tc_weakest 34 rfl) rfl rfl ?_
          refine kx_invV (pc := 70) (a := 39) (as := [_, _, _]) (kx_dd d_Tc_weakest 35 rfl) ⟨lk_Tc_218, wi_Do_hadKinds, we_Do_hadKinds⟩ w_Do_hadKinds (hs.k 39 rfl) rfl rfl rfl rfl (Nat.le_of_ble_eq_true rfl) (x_Do_hadKinds (d := d + 1) hs D A ho hp (AV b9) (IsRu.of hs (hV.2.2 b9 hb9).2.1) (V b9) (hV.2.2 b9 hb9).2.2.2.1 (hV.2.2 b9 hb9).2.2.2.2.1 a9 ha9 c9 (by omega)) (Nat.le_refl _) ⟨Nat.le_refl _, Nat.le_refl _⟩ (fun v h' hq => ?_)
          obtain ⟨rfl, he⟩ := hq
          rw [he]
          clear he
          refine kx_invV (pc := 73) (a := (AV b9)) (as := [_, _]) (kx_dd d_Tc_weakest 36 rfl) ⟨lk_Tc_232, wi_Ru_weakestKind, we_Ru_weakestKind⟩ w_Ru_weakestKind (congrArg Prod.fst (IsRu.of hs (hV.2.2 b9 hb9).2.1).1) rfl rfl rfl rfl (Nat.le_of_ble_eq_true rfl) (x_Ru_weakestKind (d := d + 1) (AV b9) (IsRu.of hs (hV.2.2 b9 hb9).2.1) (V b9) (hV.2.2 b9 hb9).2.2.2.1 (hV.2.2 b9 hb9).2.2.2.2.1 (D.2.2.1.2.2 a9) _ (ho.2.2.1.2 a9 ha9).2.2.2.2.2.2.2.2.2.2.2.2.2.2.2.2.2 (hadF_lt (hV.2.2 b9 hb9).2.2.2.1)) (Nat.le_refl _) ⟨Nat.le_refl _, Nat.le_refl _⟩ (fun v h' hq => ?_)
          obtain ⟨rfl, he⟩ := hq
          rw [he]
          clear he
          refine kx_iret (pc := 76) rfl (kx_dd d_Tc_weakest 37 rfl) (Nat.le_refl _) (Nat.le_refl _) ?_
          rw [nI_z (Nat.lt_of_lt_of_le faiF_lt (by decide))] at c49
          refine ⟨?_, rfl⟩
          unfold weaA
          rw [if_pos ⟨e9, e8, c31⟩, nI_clamp (by omega), nI_clamp (by omega), nI_clamp (by omega)]
          rw [if_pos c49]
        · refine kx_iconst (pc := 52) (v := -1) (kx_dd d_Tc_weakest 25 rfl) rfl ?_
          refine kx_iret (pc := 53) rfl (kx_dd d_Tc_weakest 26 rfl) (Nat.le_refl _) (Nat.le_refl _) ?_
          rw [nI_z (Nat.lt_of_lt_of_le faiF_lt (by decide))] at c49
          refine ⟨?_, rfl⟩
          unfold weaA
          rw [if_pos ⟨e9, e8, c31⟩, nI_clamp (by omega), nI_clamp (by omega), nI_clamp (by omega)]
          rw [if_neg c49]
      · refine kx_bipush (pc := 34) (v := -2) (kx_dd d_Tc_weakest 16 rfl) rfl ?_
        refine kx_iret (pc := 36) rfl (kx_dd d_Tc_weakest 17 rfl) (Nat.le_refl _) (Nat.le_refl _) ?_
        exact ⟨by unfold weaA; rw [if_neg (fun z => bP_0.mp c31 z.2.2)], rfl⟩
    · skip
      obtain ⟨a9, ha9, rfl⟩ := valP (n := D.2.2.1.1) (by omega) e9
      refine kx_enter_e (lv := [_, _, _, _, _, _]) (by decide +kernel) (Nat.le_of_ble_eq_true rfl) rfl ?_
      refine kx_aload_n (pc := 0) (kx_dd d_Tc_weakest 0 rfl) rfl rfl ?_
      refine kx_getR (pc := 1) (b := 39) fl_Tc_57 (hs.k 0 rfl) rfl (hs.r 6 rfl) (kx_dd d_Tc_weakest 1 rfl) ?_
      refine kx_iload_n (pc := 4) (kx_dd d_Tc_weakest 2 rfl) rfl rfl ?_
      refine kx_invV (pc := 5) (a := 39) (as := [_]) (kx_dd d_Tc_weakest 3 rfl) ⟨lk_Tc_190, wi_Do_claimAt, we_Do_claimAt⟩ w_Do_claimAt (hs.k 39 rfl) rfl rfl rfl rfl (Nat.le_of_ble_eq_true rfl) (x_Do_claimAt (d := d + 1) hs D A ho hp a9 ha9) (Nat.le_refl _) ⟨Nat.le_refl _, Nat.le_refl _⟩ (fun v h' hq => ?_)
      obtain ⟨rfl, he⟩ := hq
      rw [he]
      clear he
      refine kx_astore_e (pc := 8) (lv' := [_, _, _, _, _, _]) (kx_dd d_Tc_weakest 4 rfl) (Nat.le_of_ble_eq_true rfl) rfl ?_
      refine kx_aload_n (pc := 10) (kx_dd d_Tc_weakest 5 rfl) rfl rfl ?_
      refine kx_iload_n (pc := 11) (kx_dd d_Tc_weakest 6 rfl) rfl rfl ?_
      refine kx_invV (pc := 12) (a := 0) (as := [_]) (kx_dd d_Tc_weakest 7 rfl) ⟨lk_Tc_151, wi_Tc_versionAt, we_Tc_versionAt⟩ w_Tc_versionAt (hs.k 0 rfl) rfl rfl rfl rfl (Nat.le_of_ble_eq_true rfl) (x_Tc_versionN (d := d + 3) hs b e8) (Nat.le_refl _) ⟨Nat.le_refl _, Nat.le_refl _⟩ (fun v h' hq => ?_)
      obtain ⟨rfl, he⟩ := hq
      rw [he]
      clear he
      refine kx_astore_eN (pc := 15) (lv' := [_, _, _, _, _, _]) (kx_dd d_Tc_weakest 8 rfl) (Nat.le_of_ble_eq_true rfl) rfl ?_
      refine kx_aload (pc := 17) (kx_dd d_Tc_weakest 9 rfl) rfl ?_
      refine kx_ifnull (pc := 19) (kx_dd d_Tc_weakest 10 rfl) ?_
      refine kx_aloadN (pc := 22) (kx_dd d_Tc_weakest 11 rfl) rfl ?_
      refine kx_ifnullN (pc := 24) (tgt := 34) (kx_dd d_Tc_weakest 12 rfl) rfl ?_
      refine kx_bipush (pc := 34) (v := -2) (kx_dd d_Tc_weakest 16 rfl) rfl ?_
      refine kx_iret (pc := 36) rfl (kx_dd d_Tc_weakest 17 rfl) (Nat.le_refl _) (Nat.le_refl _) ?_
      exact ⟨by unfold weaA; rw [if_neg (fun z => e8 z.2.1)], rfl⟩
  · by_cases e8 : vrs b
    · skip
      obtain ⟨b9, hb9, rfl⟩ := vrs_n e8
      refine kx_enter_e (lv := [_, _, _, _, _, _]) (by decide +kernel) (Nat.le_of_ble_eq_true rfl) rfl ?_
      refine kx_aload_n (pc := 0) (kx_dd d_Tc_weakest 0 rfl) rfl rfl ?_
      refine kx_getR (pc := 1) (b := 39) fl_Tc_57 (hs.k 0 rfl) rfl (hs.r 6 rfl) (kx_dd d_Tc_weakest 1 rfl) ?_
      refine kx_iload_n (pc := 4) (kx_dd d_Tc_weakest 2 rfl) rfl rfl ?_
      refine kx_invV (pc := 5) (a := 39) (as := [_]) (kx_dd d_Tc_weakest 3 rfl) ⟨lk_Tc_190, wi_Do_claimAt, we_Do_claimAt⟩ w_Do_claimAt (hs.k 39 rfl) rfl rfl rfl rfl (Nat.le_of_ble_eq_true rfl) (x_Do_claimAtN (d := d + 3) hs D A ho hp a e9) (Nat.le_refl _) ⟨Nat.le_refl _, Nat.le_refl _⟩ (fun v h' hq => ?_)
      obtain ⟨rfl, he⟩ := hq
      rw [he]
      clear he
      refine kx_astore_eN (pc := 8) (lv' := [_, _, _, _, _, _]) (kx_dd d_Tc_weakest 4 rfl) (Nat.le_of_ble_eq_true rfl) rfl ?_
      refine kx_aload_n (pc := 10) (kx_dd d_Tc_weakest 5 rfl) rfl rfl ?_
      refine kx_iload_n (pc := 11) (kx_dd d_Tc_weakest 6 rfl) rfl rfl ?_
      refine kx_invV (pc := 12) (a := 0) (as := [_]) (kx_dd d_Tc_weakest 7 rfl) ⟨lk_Tc_151, wi_Tc_versionAt, we_Tc_versionAt⟩ w_Tc_versionAt (hs.k 0 rfl) rfl rfl rfl rfl (Nat.le_of_ble_eq_true rfl) (x_Tc_versionV (d := d + 3) hs AV DV V hV b9 hb9) (Nat.le_refl _) ⟨Nat.le_refl _, Nat.le_refl _⟩ (fun v h' hq => ?_)
      obtain ⟨rfl, he⟩ := hq
      rw [he]
      clear he
      refine kx_astore_e (pc := 15) (lv' := [_, _, _, _, _, _]) (kx_dd d_Tc_weakest 8 rfl) (Nat.le_of_ble_eq_true rfl) rfl ?_
      refine kx_aloadN (pc := 17) (kx_dd d_Tc_weakest 9 rfl) rfl ?_
      refine kx_ifnullN (pc := 19) (tgt := 34) (kx_dd d_Tc_weakest 10 rfl) rfl ?_
      refine kx_bipush (pc := 34) (v := -2) (kx_dd d_Tc_weakest 16 rfl) rfl ?_
      refine kx_iret (pc := 36) rfl (kx_dd d_Tc_weakest 17 rfl) (Nat.le_refl _) (Nat.le_refl _) ?_
      exact ⟨by unfold weaA; rw [if_neg (fun z => e9 z.1)], rfl⟩
    · skip
      refine kx_enter_e (lv := [_, _, _, _, _, _]) (by decide +kernel) (Nat.le_of_ble_eq_true rfl) rfl ?_
      refine kx_aload_n (pc := 0) (kx_dd d_Tc_weakest 0 rfl) rfl rfl ?_
      refine kx_getR (pc := 1) (b := 39) fl_Tc_57 (hs.k 0 rfl) rfl (hs.r 6 rfl) (kx_dd d_Tc_weakest 1 rfl) ?_
      refine kx_iload_n (pc := 4) (kx_dd d_Tc_weakest 2 rfl) rfl rfl ?_
      refine kx_invV (pc := 5) (a := 39) (as := [_]) (kx_dd d_Tc_weakest 3 rfl) ⟨lk_Tc_190, wi_Do_claimAt, we_Do_claimAt⟩ w_Do_claimAt (hs.k 39 rfl) rfl rfl rfl rfl (Nat.le_of_ble_eq_true rfl) (x_Do_claimAtN (d := d + 3) hs D A ho hp a e9) (Nat.le_refl _) ⟨Nat.le_refl _, Nat.le_refl _⟩ (fun v h' hq => ?_)
      obtain ⟨rfl, he⟩ := hq
      rw [he]
      clear he
      refine kx_astore_eN (pc := 8) (lv' := [_, _, _, _, _, _]) (kx_dd d_Tc_weakest 4 rfl) (Nat.le_of_ble_eq_true rfl) rfl ?_
      refine kx_aload_n (pc := 10) (kx_dd d_Tc_weakest 5 rfl) rfl rfl ?_
      refine kx_iload_n (pc := 11) (kx_dd d_Tc_weakest 6 rfl) rfl rfl ?_
      refine kx_invV (pc := 12) (a := 0) (as := [_]) (kx_dd d_Tc_weakest 7 rfl) ⟨lk_Tc_151, wi_Tc_versionAt, we_Tc_versionAt⟩ w_Tc_versionAt (hs.k 0 rfl) rfl rfl rfl rfl (Nat.le_of_ble_eq_true rfl) (x_Tc_versionN (d := d + 3) hs b e8) (Nat.le_refl _) ⟨Nat.le_refl _, Nat.le_refl _⟩ (fun v h' hq => ?_)
      obtain ⟨rfl, he⟩ := hq
      rw [he]
      clear he
      refine kx_astore_eN (pc := 15) (lv' := [_, _, _, _, _, _]) (kx_dd d_Tc_weakest 8 rfl) (Nat.le_of_ble_eq_true rfl) rfl ?_
      refine kx_aloadN (pc := 17) (kx_dd d_Tc_weakest 9 rfl) rfl ?_
      refine kx_ifnullN (pc := 19) (tgt := 34) (kx_dd d_Tc_weakest 10 rfl) rfl ?_
      refine kx_bipush (pc := 34) (v := -2) (kx_dd d_Tc_weakest 16 rfl) rfl ?_
      refine kx_iret (pc := 36) rfl (kx_dd d_Tc_weakest 17 rfl) (Nat.le_refl _) (Nat.le_refl _) ?_
      exact ⟨by unfold weaA; rw [if_neg (fun z => e9 z.1)], rfl⟩
