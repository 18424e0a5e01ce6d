/-! top-level: beside -/
noncomputable def besA (D : DK) (V : Nat → RU) (td : Nat) (a b : Int32) : Int32 := @ite _ (vrs a ∧ vrs b) (Classical.propDecidable _) (nI (besN D (V a.toNatClampNeg) (V b.toNatClampNeg) td D.2.2.1.1)) (-2)
theorem x_Tc_beside {l : Launch} {g : kx_G} {d : Nat} {h : kx_Mem} (hs : SC h) (D : DK) (A : DA) (ho : DKok D) (hp : DKc D A h) (AV : Nat → Nat) (DV : Nat) (V : Nat → RU) (hV : CVs AV DV V h) (td : Nat) (htd : td < 2 ^ 31) (hck : h.1 0 9 = nI td) (a b : Int32) : kx_Sp l g m_Tc_beside [.ref 0, .int a, .int b] h (d + 6) 0 0 (fun v h' => v = some (.int (besA D V td a b)) ∧ h' = h) := by
  by_cases e9 : vrs a
  · by_cases e8 : vrs b
    · skip
      obtain ⟨a9, ha9, rfl⟩ := vrs_n e9
      obtain ⟨b9, hb9, rfl⟩ := vrs_n e8
      refine kx_enter_e (lv := [_, _, _, _, _]) (by decide +kernel) (Nat.le_of_ble_eq_true rfl) rfl ?_
      refine kx_aload_n (pc := 0) (kx_dd d_Tc_beside 0 rfl) rfl rfl ?_
      refine kx_iload_n (pc := 1) (kx_dd d_Tc_beside 1 rfl) rfl rfl ?_
      refine kx_invV (pc := 2) (a := 0) (as := [_]) (kx_dd d_Tc_beside 2 rfl) ⟨lk_Tc_151, wi_Tc_versionAt, we_Tc_versionAt⟩ w_Tc_versionAt (hs.k 0 rfl) rfl rfl rfl rfl (Nat.le_of_ble_eq_true rfl) (x_Tc_versionV (d := d + 4) hs AV DV V hV a9 ha9) (Nat.le_refl _) ⟨Nat.le_refl _, Nat.le_refl _⟩ (fun v h' hq => ?_)
      obtain ⟨rfl, he⟩ := hq
      rw [he]
      clear he
      refine kx_astore_ne (pc := 5) (lv' := [_, _, _, _, _]) (kx_dd d_Tc_beside 3 rfl) rfl (Nat.le_of_ble_eq_true rfl) rfl ?_
      refine kx_aload_n (pc := 6) (kx_dd d_Tc_beside 4 rfl) rfl rfl ?_
      refine kx_iload_n (pc := 7) (kx_dd d_Tc_beside 5 rfl) rfl rfl ?_
      refine kx_invV (pc := 8) (a := 0) (as := [_]) (kx_dd d_Tc_beside 6 rfl) ⟨lk_Tc_151, wi_Tc_versionAt, we_Tc_versionAt⟩ w_Tc_versionAt (hs.k 0 rfl) rfl rfl rfl rfl (Nat.le_of_ble_eq_true rfl) (x_Tc_versionV (d := d + 4) hs AV DV V hV b9 hb9) (Nat.le_refl _) ⟨Nat.le_refl _, Nat.le_refl _⟩ (fun v h' hq => ?_)
      obtain ⟨rfl, he⟩ := hq
      rw [he]
      clear he
      refine kx_astore_e (pc := 11) (lv' := [_, _, _, _, _]) (kx_dd d_Tc_beside 7 rfl) (Nat.le_of_ble_eq_true rfl) rfl ?_
      refine kx_aload_n (pc := 13) (kx_dd d_Tc_beside 8 rfl) rfl rfl ?_
      refine kx_ifnull (pc := 14) (kx_dd d_Tc_beside 9 rfl) ?_
      refine kx_aload (pc := 17) (kx_dd d_Tc_beside 10 rfl) rfl ?_
      refine kx_ifnonnull (pc := 19) (tgt := 25) (kx_dd d_Tc_beside 11 rfl) rfl ?_
      refine kx_aload_n (pc := 25) (kx_dd d_Tc_beside 14 rfl) rfl rfl ?_
      refine kx_getR (pc := 26) (b := 39) fl_Tc_57 (hs.k 0 rfl) rfl (hs.r 6 rfl) (kx_dd d_Tc_beside 15 rfl) ?_
      refine kx_aload_n (pc := 29) (kx_dd d_Tc_beside 16 rfl) rfl rfl ?_
      refine kx_aload (pc := 30) (kx_dd d_Tc_beside 17 rfl) rfl ?_
      refine kx_aload_n (pc := 32) (kx_dd d_Tc_beside 18 rfl) rfl rfl ?_
      refine kx_getI (pc := 33) fl_Tc_94 (hs.k 0 rfl) rfl (kx_dd d_Tc_beside 19 rfl) ?_
      rw [hck]
      refine kx_invV (pc := 36) (a := 39) (as := [_, _, _]) (kx_dd d_Tc_beside 20 rfl) ⟨lk_Tc_235, wi_Do_provenByOneAlone, we_Do_provenByOneAlone⟩ w_Do_provenByOneAlone (hs.k 39 rfl) rfl rfl rfl rfl (Nat.le_of_ble_eq_true rfl) (x_Do_provenByOneAlone (d := d) hs D A ho hp (AV a9) (IsRu.of hs (hV.2.2 a9 ha9).2.1) (V a9) (hV.2.2 a9 ha9).2.2.2.1 (hV.2.2 a9 ha9).2.2.2.2.1 (AV b9) (IsRu.of hs (hV.2.2 b9 hb9).2.1) (V b9) (hV.2.2 b9 hb9).2.2.2.1 (hV.2.2 b9 hb9).2.2.2.2.1 td htd) (Nat.le_refl _) ⟨Nat.le_refl _, Nat.le_refl _⟩ (fun v h' hq => ?_)
      obtain ⟨rfl, he⟩ := hq
      rw [he]
      clear he
      refine kx_iret (pc := 39) rfl (kx_dd d_Tc_beside 21 rfl) (Nat.le_refl _) (Nat.le_refl _) ?_
      exact ⟨by unfold besA; rw [if_pos ⟨e9, e8⟩, nI_clamp (by omega), nI_clamp (by omega)], rfl⟩
    · skip
      obtain ⟨a9, ha9, rfl⟩ := vrs_n e9
      refine kx_enter_e (lv := [_, _, _, _, _]) (by decide +kernel) (Nat.le_of_ble_eq_true rfl) rfl ?_
      refine kx_aload_n (pc := 0) (kx_dd d_Tc_beside 0 rfl) rfl rfl ?_
      refine kx_iload_n (pc := 1) (kx_dd d_Tc_beside 1 rfl) rfl rfl ?_
      refine kx_invV (pc := 2) (a := 0) (as := [_]) (kx_dd d_Tc_beside 2 rfl) ⟨lk_Tc_151, wi_Tc_versionAt, we_Tc_versionAt⟩ w_Tc_versionAt (hs.k 0 rfl) rfl rfl rfl rfl (Nat.le_of_ble_eq_true rfl) (x_Tc_versionV (d := d + 4) hs AV DV V hV a9 ha9) (Nat.le_refl _) ⟨Nat.le_refl _, Nat.le_refl _⟩ (fun v h' hq => ?_)
      obtain ⟨rfl, he⟩ := hq
      rw [he]
      clear he
      refine kx_astore_ne (pc := 5) (lv' := [_, _, _, _, _]) (kx_dd d_Tc_beside 3 rfl) rfl (Nat.le_of_ble_eq_true rfl) rfl ?_
      refine kx_aload_n (pc := 6) (kx_dd d_Tc_beside 4 rfl) rfl rfl ?_
      refine kx_iload_n (pc := 7) (kx_dd d_Tc_beside 5 rfl) rfl rfl ?_
      refine kx_invV (pc := 8) (a := 0) (as := [_]) (kx_dd d_Tc_beside 6 rfl) ⟨lk_Tc_151, wi_Tc_versionAt, we_Tc_versionAt⟩ w_Tc_versionAt (hs.k 0 rfl) rfl rfl rfl rfl (Nat.le_of_ble_eq_true rfl) (x_Tc_versionN (d := d + 4) hs b e8) (Nat.le_refl _) ⟨Nat.le_refl _, Nat.le_refl _⟩ (fun v h' hq => ?_)
      obtain ⟨rfl, he⟩ := hq
      rw [he]
      clear he
      refine kx_astore_eN (pc := 11) (lv' := [_, _, _, _, _]) (kx_dd d_Tc_beside 7 rfl) (Nat.le_of_ble_eq_true rfl) rfl ?_
      refine kx_aload_n (pc := 13) (kx_dd d_Tc_beside 8 rfl) rfl rfl ?_
      refine kx_ifnull (pc := 14) (kx_dd d_Tc_beside 9 rfl) ?_
      refine kx_aloadN (pc := 17) (kx_dd d_Tc_beside 10 rfl) rfl ?_
      refine kx_ifnonnullN (pc := 19) (kx_dd d_Tc_beside 11 rfl) ?_
      refine kx_bipush (pc := 22) (v := -2) (kx_dd d_Tc_beside 12 rfl) rfl ?_
      refine kx_iret (pc := 24) rfl (kx_dd d_Tc_beside 13 rfl) (Nat.le_refl _) (Nat.le_refl _) ?_
      exact ⟨by unfold besA; rw [if_neg (fun z => e8 z.2)], rfl⟩
  · by_cases e8 : vrs b
    · skip
      obtain ⟨b9, hb9, rfl⟩ := vrs_n e8
      refine kx_enter_e (lv := [_, _, _, _, _]) (by decide +kernel) (Nat.le_of_ble_eq_true rfl) rfl ?_
      refine kx_aload_n (pc := 0) (kx_dd d_Tc_beside 0 rfl) rfl rfl ?_
      refine kx_iload_n (pc := 1) (kx_dd d_Tc_beside 1 rfl) rfl rfl ?_
      refine kx_invV (pc := 2) (a := 0) (as := [_]) (kx_dd d_Tc_beside 2 rfl) ⟨lk_Tc_151, wi_Tc_versionAt, we_Tc_versionAt⟩ w_Tc_versionAt (hs.k 0 rfl) rfl rfl rfl rfl (Nat.le_of_ble_eq_true rfl) (x_Tc_versionN (d := d + 4) hs a e9) (Nat.le_refl _) ⟨Nat.le_refl _, Nat.le_refl _⟩ (fun v h' hq => ?_)
      obtain ⟨rfl, he⟩ := hq
      rw [he]
      clear he
      refine kx_astore_neN (pc := 5) (lv' := [_, _, _, _, _]) (kx_dd d_Tc_beside 3 rfl) rfl (Nat.le_of_ble_eq_true rfl) rfl ?_
      refine kx_aload_n (pc := 6) (kx_dd d_Tc_beside 4 rfl) rfl rfl ?_
      refine kx_iload_n (pc := 7) (kx_dd d_Tc_beside 5 rfl) rfl rfl ?_
      refine kx_invV (pc := 8) (a := 0) (as := [_]) (kx_dd d_Tc_beside 6 rfl) ⟨lk_Tc_151, wi_Tc_versionAt, we_Tc_versionAt⟩ w_Tc_versionAt (hs.k 0 rfl) rfl rfl rfl rfl (Nat.le_of_ble_eq_true rfl) (x_Tc_versionV (d := d + 4) hs AV DV V hV b9 hb9) (Nat.le_refl _) ⟨Nat.le_refl _, Nat.le_refl _⟩ (fun v h' hq => ?_)
      obtain ⟨rfl, he⟩ := hq
      rw [he]
      clear he
      refine kx_astore_e (pc := 11) (lv' := [_, _, _, _, _]) (kx_dd d_Tc_beside 7 rfl) (Nat.le_of_ble_eq_true rfl) rfl ?_
      refine kx_aload_nN (pc := 13) (kx_dd d_Tc_beside 8 rfl) rfl rfl ?_
      refine kx_ifnullN (pc := 14) (tgt := 22) (kx_dd d_Tc_beside 9 rfl) rfl ?_
      refine kx_bipush (pc := 22) (v := -2) (kx_dd d_Tc_beside 12 rfl) rfl ?_
      refine kx_iret (pc := 24) rfl (kx_dd d_Tc_beside 13 rfl) (Nat.le_refl _) (Nat.le_refl _) ?_
      exact ⟨by unfold besA; rw [if_neg (fun z => e9 z.1)], rfl⟩
    · skip
      refine kx_enter_e (lv := [_, _, _, _, _]) (by decide +kernel) (Nat.le_of_ble_eq_true rfl) rfl ?_
      refine kx_aload_n (pc := 0) (kx_dd d_Tc_beside 0 rfl) rfl rfl ?_
      refine kx_iload_n (pc := 1) (kx_dd d_Tc_beside 1 rfl) rfl rfl ?_
      refine kx_invV (pc := 2) (a := 0) (as := [_]) (kx_dd d_Tc_beside 2 rfl) ⟨lk_Tc_151, wi_Tc_versionAt, we_Tc_versionAt⟩ w_Tc_versionAt (hs.k 0 rfl) rfl rfl rfl rfl (Nat.le_of_ble_eq_true rfl) (x_Tc_versionN (d := d + 4) hs a e9) (Nat.le_refl _) ⟨Nat.le_refl _, Nat.le_refl _⟩ (fun v h' hq => ?_)
      obtain ⟨rfl, he⟩ := hq
      rw [he]
      clear he
      refine kx_astore_neN (pc := 5) (lv' := [_, _, _, _, _]) (kx_dd d_Tc_beside 3 rfl) rfl (Nat.le_of_ble_eq_true rfl) rfl ?_
      refine kx_aload_n (pc := 6) (kx_dd d_Tc_beside 4 rfl) rfl rfl ?_
      refine kx_iload_n (pc := 7) (kx_dd d_Tc_beside 5 rfl) rfl rfl ?_
      refine kx_invV (pc := 8) (a := 0) (as := [_]) (kx_dd d_Tc_beside 6 rfl) ⟨lk_Tc_151, wi_Tc_versionAt, we_Tc_versionAt⟩ w_Tc_versionAt (hs.k 0 rfl) rfl rfl rfl rfl (Nat.le_of_ble_eq_true rfl) (x_Tc_versionN (d := d + 4) hs b e8) (Nat.le_refl _) ⟨Nat.le_refl _, Nat.le_refl _⟩ (fun v h' hq => ?_)
      obtain ⟨rfl, he⟩ := hq
      rw [he]
      clear he
      refine kx_astore_eN (pc := 11) (lv' := [_, _, _, _, _]) (kx_dd d_Tc_beside 7 rfl) (Nat.le_of_ble_eq_true rfl) rfl ?_
      refine kx_aload_nN (pc := 13) (kx_dd d_Tc_beside 8 rfl) rfl rfl ?_
      refine kx_ifnullN (pc := 14) (tgt := 22) (kx_dd d_Tc_beside 9 rfl) rfl ?_
      refine kx_bipush (pc := 22) (v := -2) (kx_dd d_Tc_beside 12 rfl) rfl ?_
      refine kx_iret (pc := 24) rfl (kx_dd d_Tc_beside 13 rfl) (Nat.le_refl _) (Nat.le_refl _) ?_
      exact ⟨by unfold besA; rw [if_neg (fun z => e9 z.1)], rfl⟩
theorem y_beside_loop {l : Launch} {g : kx_G} {d : Nat} {h : kx_Mem} (hm : SM h) (nw : Nat) (T : Nat → Nat) (hwt : WTok nw T) (D : DK) (ho : DKok D) (hp : DKm D nw T h) (V : Nat → RU) (hV : ∀ u, u < 4 → RUok (V u) ∧ RUm (V u) u nw T h) (td : Nat) (htd : td < 2 ^ 31) (hck : h.1 84 36 = nI td) (a9 : Nat) (ha9 : a9 < 4) (b9 : Nat) (hb9 : b9 < 4) : ∀ n k, k + n = D.2.2.1.1 →  kx_X (l, g, m_Mo_beside, d + 5, 0, 0, (fun v h' => v = some (.int (nI (besN D (V a9) (V b9) td D.2.2.1.1))) ∧ h' = h)) 0 0 22 [some (.ref 84), some (.int (nI a9)), some (.int (nI b9)), some (.int (nI (besN D (V a9) (V b9) td k))), some (.int (nI k))] [] (h) := by
  intro n
  induction n with
  | zero =>
    intro k hk 
    have hk0 : k = D.2.2.1.1 := by omega
    subst hk0
    have e51 : h.1 84 51 = nI D.2.2.1.1 := hp.2.2.1.1
    refine kx_iload (pc := 22) (kx_dd d_Mo_beside 12 rfl) rfl ?_
    refine kx_aload_n (pc := 24) (kx_dd d_Mo_beside 13 rfl) rfl rfl ?_
    refine kx_getI (pc := 25) fl_Mo_510 (hm.k 0 rfl) rfl (kx_dd d_Mo_beside 14 rfl) ?_
    refine kx_icmp_ge (pc := 28) (tgt := 73) (kx_dd d_Mo_beside 15 rfl) rfl (fun c28 => ?_) (fun c28 => ?_)
    · refine kx_iload_n (pc := 73) (kx_dd d_Mo_beside 38 rfl) rfl rfl ?_
      refine kx_iret (pc := 74) rfl (kx_dd d_Mo_beside 39 rfl) (Nat.le_refl _) (Nat.le_refl _) ?_
      exact ⟨rfl, rfl⟩
    · exact absurd (by rw [e51]; exact Int32.le_refl _) c28
  | succ n ih =>
    intro k hk 
    have o1 := ho.2.2.1.1
    have e51 : h.1 84 51 = nI D.2.2.1.1 := hp.2.2.1.1
    refine kx_iload (pc := 22) (kx_dd d_Mo_beside 12 rfl) rfl ?_
    refine kx_aload_n (pc := 24) (kx_dd d_Mo_beside 13 rfl) rfl rfl ?_
    refine kx_getI (pc := 25) fl_Mo_510 (hm.k 0 rfl) rfl (kx_dd d_Mo_beside 14 rfl) ?_
    refine kx_icmp_ge (pc := 28) (tgt := 73) (kx_dd d_Mo_beside 15 rfl) rfl (fun c28 => ?_) (fun c28 => ?_)
    · exact absurd c28 (by rw [e51]; exact nI_ge (by omega) (by omega))
    · refine kx_iload_n (pc := 31) (kx_dd d_Mo_beside 16 rfl) rfl rfl ?_
      refine kx_aload_n (pc := 32) (kx_dd d_Mo_beside 17 rfl) rfl rfl ?_
      refine kx_iload (pc := 33) (kx_dd d_Mo_beside 18 rfl) rfl ?_
      refine kx_iload_n (pc := 35) (kx_dd d_Mo_beside 19 rfl) rfl rfl ?_
      refine kx_aload_n (pc := 36) (kx_dd d_Mo_beside 20 rfl) rfl rfl ?_
      refine kx_getI (pc := 37) fl_Mo_426 (hm.k 0 rfl) rfl (kx_dd d_Mo_beside 21 rfl) ?_
      rw [hck]
      refine kx_invV (pc := 40) (a := 84) (as := [_, _, _]) (kx_dd d_Mo_beside 22 rfl) ⟨lk_Mo_556, wi_Mo_failsOf, we_Mo_failsOf⟩ w_Mo_failsOf (hm.k 0 rfl) rfl rfl rfl rfl (Nat.le_of_ble_eq_true rfl) (y_failsOf (d := d) hm nw T hwt D ho hp (V a9) (hV a9 ha9).1 a9 (by omega) (hV a9 ha9).2 k (by omega) td htd) (Nat.le_refl _) ⟨Nat.le_refl _, Nat.le_refl _⟩ (fun v h' hq => ?_)
      obtain ⟨rfl, he⟩ := hq
      rw [he]
      clear he
      refine kx_if_ne (pc := 43) (tgt := 64) (kx_dd d_Mo_beside 23 rfl) rfl (fun c43 => ?_) (fun c43 => ?_)
      · refine kx_iconst (pc := 64) (v := 0) (kx_dd d_Mo_beside 33 rfl) rfl ?_
        refine kx_iadd (pc := 65) (kx_dd d_Mo_beside 34 rfl) ?_
        refine kx_istore_ne (pc := 66) (lv' := [_, _, _, _, _]) (kx_dd d_Mo_beside 35 rfl) rfl (Nat.le_of_ble_eq_true rfl) rfl ?_
        refine kx_iinc_e (pc := 67) (v := nI (k + 1)) (lv' := [_, _, _, _, _]) (kx_dd d_Mo_beside 36 rfl) rfl (Nat.le_of_ble_eq_true rfl) (nI_1 k) rfl ?_
        refine kx_goto (pc := 70) (tgt := 22) (kx_dd d_Mo_beside 37 rfl) rfl ?_
        rw [nI_z (Nat.lt_of_lt_of_le faiF_lt (by decide))] at c43
        have e : besN D (V a9) (V b9) td (k + 1) = besN D (V a9) (V b9) td k := if_neg (fun z => c43 z.1)
        have ih1 := ih (k + 1) (by omega)
        rw [e] at ih1
        rw [Int32.add_zero]
        exact ih1
      · refine kx_aload_n (pc := 46) (kx_dd d_Mo_beside 24 rfl) rfl rfl ?_
        refine kx_iload (pc := 47) (kx_dd d_Mo_beside 25 rfl) rfl ?_
        refine kx_iload_n (pc := 49) (kx_dd d_Mo_beside 26 rfl) rfl rfl ?_
        refine kx_aload_n (pc := 50) (kx_dd d_Mo_beside 27 rfl) rfl rfl ?_
        refine kx_getI (pc := 51) fl_Mo_426 (hm.k 0 rfl) rfl (kx_dd d_Mo_beside 28 rfl) ?_
        rw [hck]
        refine kx_invV (pc := 54) (a := 84) (as := [_, _, _]) (kx_dd d_Mo_beside 29 rfl) ⟨lk_Mo_556, wi_Mo_failsOf, we_Mo_failsOf⟩ w_Mo_failsOf (hm.k 0 rfl) rfl rfl rfl rfl (Nat.le_of_ble_eq_true rfl) (y_failsOf (d := d) hm nw T hwt D ho hp (V b9) (hV b9 hb9).1 b9 (by omega) (hV b9 hb9).2 k (by omega) td htd) (Nat.le_refl _) ⟨Nat.le_refl _, Nat.le_refl _⟩ (fun v h' hq => ?_)
        obtain ⟨rfl, he⟩ := hq
        rw [he]
        clear he
        refine kx_if_eq (pc := 57) (tgt := 64) (kx_dd d_Mo_beside 30 rfl) rfl (fun c57 => ?_) (fun c57 => ?_)
        · refine kx_iconst (pc := 64) (v := 0) (kx_dd d_Mo_beside 33 rfl) rfl ?_
          refine kx_iadd (pc := 65) (kx_dd d_Mo_beside 34 rfl) ?_
          refine kx_istore_ne (pc := 66) (lv' := [_, _, _, _, _]) (kx_dd d_Mo_beside 35 rfl) rfl (Nat.le_of_ble_eq_true rfl) rfl ?_
          refine kx_iinc_e (pc := 67) (v := nI (k + 1)) (lv' := [_, _, _, _, _]) (kx_dd d_Mo_beside 36 rfl) rfl (Nat.le_of_ble_eq_true rfl) (nI_1 k) rfl ?_
          refine kx_goto (pc := 70) (tgt := 22) (kx_dd d_Mo_beside 37 rfl) rfl ?_
          rw [nI_z (Nat.lt_of_lt_of_le faiF_lt (by decide))] at c43
          rw [nI_z (Nat.lt_of_lt_of_le faiF_lt (by decide))] at c57
          have e : besN D (V a9) (V b9) td (k + 1) = besN D (V a9) (V b9) td k := if_neg (fun z => z.2 c57)
          have ih1 := ih (k + 1) (by omega)
          rw [e] at ih1
          rw [Int32.add_zero]
          exact ih1
        · refine kx_iconst (pc := 60) (v := 1) (kx_dd d_Mo_beside 31 rfl) rfl ?_
          refine kx_goto (pc := 61) (tgt := 65) (kx_dd d_Mo_beside 32 rfl) rfl ?_
          refine kx_iadd (pc := 65) (kx_dd d_Mo_beside 34 rfl) ?_
          refine kx_istore_ne (pc := 66) (lv' := [_, _, _, _, _]) (kx_dd d_Mo_beside 35 rfl) rfl (Nat.le_of_ble_eq_true rfl) rfl ?_
          refine kx_iinc_e (pc := 67) (v := nI (k + 1)) (lv' := [_, _, _, _, _]) (kx_dd d_Mo_beside 36 rfl) rfl (Nat.le_of_ble_eq_true rfl) (nI_1 k) rfl ?_
          refine kx_goto (pc := 70) (tgt := 22) (kx_dd d_Mo_beside 37 rfl) rfl ?_
          rw [nI_z (Nat.lt_of_lt_of_le faiF_lt (by decide))] at c43
          rw [nI_z (Nat.lt_of_lt_of_le faiF_lt (by decide))] at c57
          have e : besN D (V a9) (V b9) td (k + 1) = besN D (V a9) (V b9) td k + 1 := if_pos ⟨c43, c57⟩
          have ih1 := ih (k + 1) (by omega)
          rw [e, ← nI_1] at ih1
          exact ih1
theorem y_beside {l : Launch} {g : kx_G} {d : Nat} {h : kx_Mem} (hm : SM h) (nw : Nat) (T : Nat → Nat) (hwt : WTok nw T) (D : DK) (ho : DKok D) (hp : DKm D nw T h) (V : Nat → RU) (hV : ∀ u, u < 4 → RUok (V u) ∧ RUm (V u) u nw T h) (td : Nat) (htd : td < 2 ^ 31) (hck : h.1 84 36 = nI td) (a b : Int32) : kx_Sp l g m_Mo_beside [.ref 84, .int a, .int b] h (d + 5) 0 0 (fun v h' => v = some (.int (besA D V td a b)) ∧ h' = h) := by
  refine kx_enter_e (lv := [_, _, _, _, _]) (by decide +kernel) (Nat.le_of_ble_eq_true rfl) rfl ?_
  refine kx_iload_n (pc := 0) (kx_dd d_Mo_beside 0 rfl) rfl rfl ?_
  refine kx_invS (pc := 1) (as := [_]) (kx_dd d_Mo_beside 1 rfl) ⟨lk_Mo_239, wt_Mo_isVersion⟩ w_Mo_isVersion rfl rfl (Nat.le_of_ble_eq_true rfl) (y_isVersion (d := d + 3) a) (Nat.le_refl _) ⟨Nat.le_refl _, Nat.le_refl _⟩ (fun v h' hq => ?_)
  obtain ⟨rfl, he⟩ := hq
  rw [he]
  clear he
  refine kx_if_eq (pc := 4) (tgt := 14) (kx_dd d_Mo_beside 2 rfl) rfl (fun c4 => ?_) (fun c4 => ?_)
  · refine kx_bipush (pc := 14) (v := -2) (kx_dd d_Mo_beside 6 rfl) rfl ?_
    refine kx_iret (pc := 16) rfl (kx_dd d_Mo_beside 7 rfl) (Nat.le_refl _) (Nat.le_refl _) ?_
    exact ⟨by unfold besA; rw [if_neg (fun z => bP_0.mp c4 z.1)], rfl⟩
  · refine kx_iload_n (pc := 7) (kx_dd d_Mo_beside 3 rfl) rfl rfl ?_
    refine kx_invS (pc := 8) (as := [_]) (kx_dd d_Mo_beside 4 rfl) ⟨lk_Mo_239, wt_Mo_isVersion⟩ w_Mo_isVersion rfl rfl (Nat.le_of_ble_eq_true rfl) (y_isVersion (d := d + 3) b) (Nat.le_refl _) ⟨Nat.le_refl _, Nat.le_refl _⟩ (fun v h' hq => ?_)
    obtain ⟨rfl, he⟩ := hq
    rw [he]
    clear he
    refine kx_if_ne (pc := 11) (tgt := 17) (kx_dd d_Mo_beside 5 rfl) rfl (fun c11 => ?_) (fun c11 => ?_)
    · have c4 : vrs a := (bP_ti _).mp c4
      have c11 : vrs b := (bP_ti _).mp c11
      obtain ⟨a9, ha9, rfl⟩ := vrs_n c4
      obtain ⟨b9, hb9, rfl⟩ := vrs_n c11
      refine kx_iconst (pc := 17) (v := 0) (kx_dd d_Mo_beside 8 rfl) rfl ?_
      refine kx_istore_ne (pc := 18) (lv' := [_, _, _, _, _]) (kx_dd d_Mo_beside 9 rfl) rfl (Nat.le_of_ble_eq_true rfl) rfl ?_
      refine kx_iconst (pc := 19) (v := 0) (kx_dd d_Mo_beside 10 rfl) rfl ?_
      refine kx_istore_e (pc := 20) (lv' := [_, _, _, _, _]) (kx_dd d_Mo_beside 11 rfl) (Nat.le_of_ble_eq_true rfl) rfl ?_
      refine kx_mono (fun v h' z => ?_) (y_beside_loop hm nw T hwt D ho hp V hV td htd hck a9 ha9 b9 hb9 D.2.2.1.1 0 (by omega))
      refine ⟨?_, z.2⟩
      rw [z.1]
      unfold besA
      rw [if_pos ⟨c4, c11⟩, nI_clamp (by omega), nI_clamp (by omega)]
    · refine kx_bipush (pc := 14) (v := -2) (kx_dd d_Mo_beside 6 rfl) rfl ?_
      refine kx_iret (pc := 16) rfl (kx_dd d_Mo_beside 7 rfl) (Nat.le_refl _) (Nat.le_refl _) ?_
      exact ⟨by unfold besA; rw [if_neg (fun z => bP_0.mp c11 z.2)], rfl⟩
