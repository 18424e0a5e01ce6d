/-! top-level: fails, points, withdraw, mark -/
def askP (D : DK) (a b c : Int32) : Prop := (0 ≤ a ∧ a < nI D.2.2.1.1) ∧ vrs b ∧ (0 ≤ c ∧ c ≤ 1999)
noncomputable def faiA (D : DK) (V : Nat → RU) (a b c : Int32) : Int32 := @ite _ (askP D a b c) (Classical.propDecidable _) (nI (faiF D (V b.toNatClampNeg) a.toNatClampNeg c.toNatClampNeg)) (-2)
noncomputable def ptsA (D : DK) (V : Nat → RU) (a b c : Int32) : Int32 := @ite _ (askP D a b c) (Classical.propDecidable _) (nI (ptF (V b.toNatClampNeg) (hadF D (V b.toNatClampNeg) a.toNatClampNeg c.toNatClampNeg))) (-2)
theorem x_Tc_versionN {l : Launch} {g : kx_G} {d : Nat} {h : kx_Mem} (hs : SC h) (q : Int32) (hq : ¬ vrs q) : kx_Sp l g m_Tc_versionAt [.ref 0, .int q] h (d + 1) 0 0 (fun v h' => v = some .null ∧ h' = h) := by
  refine kx_enter_e (lv := [_, _]) (by decide +kernel) (Nat.le_of_ble_eq_true rfl) rfl ?_
  refine kx_iload_n (pc := 0) (kx_dd d_Tc_versionAt 0 rfl) rfl rfl ?_
  refine kx_iconst (pc := 1) (v := 0) (kx_dd d_Tc_versionAt 1 rfl) rfl ?_
  refine kx_iconst (pc := 2) (v := 3) (kx_dd d_Tc_versionAt 2 rfl) rfl ?_
  refine kx_invS (pc := 3) (as := [_, _, _]) (kx_dd d_Tc_versionAt 3 rfl) ⟨lk_Tc_90, wt_Tc_within⟩ w_Tc_within rfl rfl (Nat.le_of_ble_eq_true rfl) (x_Tc_within (d := d) q 0 3) (Nat.le_refl _) ⟨Nat.le_refl _, Nat.le_refl _⟩ (fun v h' hq => ?_)
  obtain ⟨rfl, he⟩ := hq
  rw [he]
  clear he
  refine kx_if_eq (pc := 6) (tgt := 18) (kx_dd d_Tc_versionAt 4 rfl) rfl (fun c6 => ?_) (fun c6 => ?_)
  · refine kx_null (pc := 18) (kx_dd d_Tc_versionAt 10 rfl) ?_
    refine kx_aret (pc := 19) (r := none) rfl (Or.inl ⟨_, rfl⟩) (kx_dd d_Tc_versionAt 11 rfl) (Nat.le_refl _) (Nat.le_refl _) ?_
    exact ⟨rfl, rfl⟩
  · exact absurd ((bP_ti _).mp c6) hq
theorem x_Tc_fails {l : Launch} {g : kx_G} {d : Nat} {h : kx_Mem} (hs : SC h) (D : DK) (A : DA) (ho : DKok D) (hp : DKc D A h) (AV : Nat → Nat) (DV : Nat) (V : Nat → RU) (hV : CVs AV DV V h) (a b c : Int32) : kx_Sp l g m_Tc_fails [.ref 0, .int a, .int b, .int c] h (d + 5) 0 0 (fun v h' => v = some (.int (faiA D V a b c)) ∧ h' = h) := by
  have o1 := ho.2.2.1.1
  by_cases e9 : 0 ≤ a ∧ a < nI D.2.2.1.1
  · by_cases e8 : vrs b
    · skip
      obtain ⟨a9, ha9, rfl⟩ := valP (n := D.2.2.1.1) (by omega) e9
      obtain ⟨b9, hb9, rfl⟩ := vrs_n e8
      refine kx_enter_e (lv := [_, _, _, _, _, _]) (by decide +kernel) (Nat.le_of_ble_eq_true rfl) rfl ?_
      refine kx_aload_n (pc := 0) (kx_dd d_Tc_fails 0 rfl) rfl rfl ?_
      refine kx_getR (pc := 1) (b := 39) fl_Tc_57 (hs.k 0 rfl) rfl (hs.r 6 rfl) (kx_dd d_Tc_fails 1 rfl) ?_
      refine kx_iload_n (pc := 4) (kx_dd d_Tc_fails 2 rfl) rfl rfl ?_
      refine kx_invV (pc := 5) (a := 39) (as := [_]) (kx_dd d_Tc_fails 3 rfl) ⟨lk_Tc_190, wi_Do_claimAt, we_Do_claimAt⟩ w_Do_claimAt (hs.k 39 rfl) rfl rfl rfl rfl (Nat.le_of_ble_eq_true rfl) (x_Do_claimAt (d := d + 1) hs D A ho hp a9 ha9) (Nat.le_refl _) ⟨Nat.le_refl _, Nat.le_refl _⟩ (fun v h' hq => ?_)
      obtain ⟨rfl, he⟩ := hq
      rw [he]
      clear he
      refine kx_astore_e (pc := 8) (lv' := [_, _, _, _, _, _]) (kx_dd d_Tc_fails 4 rfl) (Nat.le_of_ble_eq_true rfl) rfl ?_
      refine kx_aload_n (pc := 10) (kx_dd d_Tc_fails 5 rfl) rfl rfl ?_
      refine kx_iload_n (pc := 11) (kx_dd d_Tc_fails 6 rfl) rfl rfl ?_
      refine kx_invV (pc := 12) (a := 0) (as := [_]) (kx_dd d_Tc_fails 7 rfl) ⟨lk_Tc_151, wi_Tc_versionAt, we_Tc_versionAt⟩ w_Tc_versionAt (hs.k 0 rfl) rfl rfl rfl rfl (Nat.le_of_ble_eq_true rfl) (x_Tc_versionV (d := d + 3) hs AV DV V hV b9 hb9) (Nat.le_refl _) ⟨Nat.le_refl _, Nat.le_refl _⟩ (fun v h' hq => ?_)
      obtain ⟨rfl, he⟩ := hq
      rw [he]
      clear he
      refine kx_astore_e (pc := 15) (lv' := [_, _, _, _, _, _]) (kx_dd d_Tc_fails 8 rfl) (Nat.le_of_ble_eq_true rfl) rfl ?_
      refine kx_aload (pc := 17) (kx_dd d_Tc_fails 9 rfl) rfl ?_
      refine kx_ifnull (pc := 19) (kx_dd d_Tc_fails 10 rfl) ?_
      refine kx_aload (pc := 22) (kx_dd d_Tc_fails 11 rfl) rfl ?_
      refine kx_ifnull (pc := 24) (kx_dd d_Tc_fails 12 rfl) ?_
      refine kx_iload_n (pc := 27) (kx_dd d_Tc_fails 13 rfl) rfl rfl ?_
      refine kx_invS (pc := 28) (as := [_]) (kx_dd d_Tc_fails 14 rfl) ⟨lk_Tc_105, wt_Tc_isDay⟩ w_Tc_isDay rfl rfl (Nat.le_of_ble_eq_true rfl) (x_Tc_isDay (d := d + 3) c) (Nat.le_refl _) ⟨Nat.le_refl _, Nat.le_refl _⟩ (fun v h' hq => ?_)
      obtain ⟨rfl, he⟩ := hq
      rw [he]
      clear he
      refine kx_if_ne (pc := 31) (tgt := 37) (kx_dd d_Tc_fails 15 rfl) rfl (fun c31 => ?_) (fun c31 => ?_)
      · have c31 := (bP_ti _).mp c31
        obtain ⟨c9, hc9, rfl⟩ := valD c31
        refine kx_aload_n (pc := 37) (kx_dd d_Tc_fails 18 rfl) rfl rfl ?_
        refine kx_getR (pc := 38) (b := 39) fl_Tc_57 (hs.k 0 rfl) rfl (hs.r 6 rfl) (kx_dd d_Tc_fails 19 rfl) ?_
        refine kx_aload (pc := 41) (kx_dd d_Tc_fails 20 rfl) rfl ?_
        refine kx_aload (pc := 43) (kx_dd d_Tc_fails 21 rfl) rfl ?_
        refine kx_iload_n (pc := 45) (kx_dd d_Tc_fails 22 rfl) rfl rfl ?_
        refine kx_invV (pc := 46) (a := 39) (as := [_, _, _]) (kx_dd d_Tc_fails 23 rfl) ⟨lk_Tc_214, wi_Do_failuresOf, we_Do_failuresOf⟩ w_Do_failuresOf (hs.k 39 rfl) rfl rfl rfl rfl (Nat.le_of_ble_eq_true rfl) (x_Do_failuresOf (d := d) hs D A ho hp (AV b9) (IsRu.of hs (hV.2.2 b9 hb9).2.1) (V b9) (hV.2.2 b9 hb9).2.2.2.1 (hV.2.2 b9 hb9).2.2.2.2.1 a9 ha9 c9 (by omega)) (Nat.le_refl _) ⟨Nat.le_refl _, Nat.le_refl _⟩ (fun v h' hq => ?_)
        obtain ⟨rfl, he⟩ := hq
        rw [he]
        clear he
        refine kx_iret (pc := 49) rfl (kx_dd d_Tc_fails 24 rfl) (Nat.le_refl _) (Nat.le_refl _) ?_
        refine ⟨?_, rfl⟩
        unfold faiA
        rw [if_pos ⟨e9, e8, c31⟩, nI_clamp (by omega), nI_clamp (by omega), nI_clamp (by omega)]
      · refine kx_bipush (pc := 34) (v := -2) (kx_dd d_Tc_fails 16 rfl) rfl ?_
        refine kx_iret (pc := 36) rfl (kx_dd d_Tc_fails 17 rfl) (Nat.le_refl _) (Nat.le_refl _) ?_
        exact ⟨by unfold faiA; rw [if_neg (fun z => bP_0.mp c31 z.2.2)], rfl⟩
    · skip
      obtain ⟨a9, ha9, rfl⟩ := valP (n := D.2.2.1.1) (by omega) e9
      refine kx_enter_e (lv := [_, _, _, _, _, _]) (by decide +kernel) (Nat.le_of_ble_eq_true rfl) rfl ?_
      refine kx_aload_n (pc := 0) (kx_dd d_Tc_fails 0 rfl) rfl rfl ?_
      refine kx_getR (pc := 1) (b := 39) fl_Tc_57 (hs.k 0 rfl) rfl (hs.r 6 rfl) (kx_dd d_Tc_fails 1 rfl) ?_
      refine kx_iload_n (pc := 4) (kx_dd d_Tc_fails 2 rfl) rfl rfl ?_
      refine kx_invV (pc := 5) (a := 39) (as := [_]) (kx_dd d_Tc_fails 3 rfl) ⟨lk_Tc_190, wi_Do_claimAt, we_Do_claimAt⟩ w_Do_claimAt (hs.k 39 rfl) rfl rfl rfl rfl (Nat.le_of_ble_eq_true rfl) (x_Do_claimAt (d := d + 1) hs D A ho hp a9 ha9) (Nat.le_refl _) ⟨Nat.le_refl _, Nat.le_refl _⟩ (fun v h' hq => ?_)
      obtain ⟨rfl, he⟩ := hq
      rw [he]
      clear he
      refine kx_astore_e (pc := 8) (lv' := [_, _, _, _, _, _]) (kx_dd d_Tc_fails 4 rfl) (Nat.le_of_ble_eq_true rfl) rfl ?_
      refine kx_aload_n (pc := 10) (kx_dd d_Tc_fails 5 rfl) rfl rfl ?_
      refine kx_iload_n (pc := 11) (kx_dd d_Tc_fails 6 rfl) rfl rfl ?_
      refine kx_invV (pc := 12) (a := 0) (as := [_]) (kx_dd d_Tc_fails 7 rfl) ⟨lk_Tc_151, wi_Tc_versionAt, we_Tc_versionAt⟩ w_Tc_versionAt (hs.k 0 rfl) rfl rfl rfl rfl (Nat.le_of_ble_eq_true rfl) (x_Tc_versionN (d := d + 3) hs b e8) (Nat.le_refl _) ⟨Nat.le_refl _, Nat.le_refl _⟩ (fun v h' hq => ?_)
      obtain ⟨rfl, he⟩ := hq
      rw [he]
      clear he
      refine kx_astore_eN (pc := 15) (lv' := [_, _, _, _, _, _]) (kx_dd d_Tc_fails 8 rfl) (Nat.le_of_ble_eq_true rfl) rfl ?_
      refine kx_aload (pc := 17) (kx_dd d_Tc_fails 9 rfl) rfl ?_
      refine kx_ifnull (pc := 19) (kx_dd d_Tc_fails 10 rfl) ?_
      refine kx_aloadN (pc := 22) (kx_dd d_Tc_fails 11 rfl) rfl ?_
      refine kx_ifnullN (pc := 24) (tgt := 34) (kx_dd d_Tc_fails 12 rfl) rfl ?_
      refine kx_bipush (pc := 34) (v := -2) (kx_dd d_Tc_fails 16 rfl) rfl ?_
      refine kx_iret (pc := 36) rfl (kx_dd d_Tc_fails 17 rfl) (Nat.le_refl _) (Nat.le_refl _) ?_
      exact ⟨by unfold faiA; rw [if_neg (fun z => e8 z.2.1)], rfl⟩
  · by_cases e8 : vrs b
    · skip
      obtain ⟨b9, hb9, rfl⟩ := vrs_n e8
      refine kx_enter_e (lv := [_, _, _, _, _, _]) (by decide +kernel) (Nat.le_of_ble_eq_true rfl) rfl ?_
      refine kx_aload_n (pc := 0) (kx_dd d_Tc_fails 0 rfl) rfl rfl ?_
      refine kx_getR (pc := 1) (b := 39) fl_Tc_57 (hs.k 0 rfl) rfl (hs.r 6 rfl) (kx_dd d_Tc_fails 1 rfl) ?_
      refine kx_iload_n (pc := 4) (kx_dd d_Tc_fails 2 rfl) rfl rfl ?_
      refine kx_invV (pc := 5) (a := 39) (as := [_]) (kx_dd d_Tc_fails 3 rfl) ⟨lk_Tc_190, wi_Do_claimAt, we_Do_claimAt⟩ w_Do_claimAt (hs.k 39 rfl) rfl rfl rfl rfl (Nat.le_of_ble_eq_true rfl) (x_Do_claimAtN (d := d + 3) hs D A ho hp a e9) (Nat.le_refl _) ⟨Nat.le_refl _, Nat.le_refl _⟩ (fun v h' hq => ?_)
      obtain ⟨rfl, he⟩ := hq
      rw [he]
      clear he
      refine kx_astore_eN (pc := 8) (lv' := [_, _, _, _, _, _]) (kx_dd d_Tc_fails 4 rfl) (Nat.le_of_ble_eq_true rfl) rfl ?_
      refine kx_aload_n (pc := 10) (kx_dd d_Tc_fails 5 rfl) rfl rfl ?_
      refine kx_iload_n (pc := 11) (kx_dd d_Tc_fails 6 rfl) rfl rfl ?_
      refine kx_invV (pc := 12) (a := 0) (as := [_]) (kx_dd d_Tc_fails 7 rfl) ⟨lk_Tc_151, wi_Tc_versionAt, we_Tc_versionAt⟩ w_Tc_versionAt (hs.k 0 rfl) rfl rfl rfl rfl (Nat.le_of_ble_eq_true rfl) (x_Tc_versionV (d := d + 3) hs AV DV V hV b9 hb9) (Nat.le_refl _) ⟨Nat.le_refl _, Nat.le_refl _⟩ (fun v h' hq => ?_)
      obtain ⟨rfl, he⟩ := hq
      rw [he]
      clear he
      refine kx_astore_e (pc := 15) (lv' := [_, _, _, _, _, _]) (kx_dd d_Tc_fails 8 rfl) (Nat.le_of_ble_eq_true rfl) rfl ?_
      refine kx_aloadN (pc := 17) (kx_dd d_Tc_fails 9 rfl) rfl ?_
      refine kx_ifnullN (pc := 19) (tgt := 34) (kx_dd d_Tc_fails 10 rfl) rfl ?_
      refine kx_bipush (pc := 34) (v := -2) (kx_dd d_Tc_fails 16 rfl) rfl ?_
      refine kx_iret (pc := 36) rfl (kx_dd d_Tc_fails 17 rfl) (Nat.le_refl _) (Nat.le_refl _) ?_
      exact ⟨by unfold faiA; rw [if_neg (fun z => e9 z.1)], rfl⟩
    · skip
      refine kx_enter_e (lv := [_, _, _, _, _, _]) (by decide +kernel) (Nat.le_of_ble_eq_true rfl) rfl ?_
      refine kx_aload_n (pc := 0) (kx_dd d_Tc_fails 0 rfl) rfl rfl ?_
      refine kx_getR (pc := 1) (b := 39) fl_Tc_57 (hs.k 0 rfl) rfl (hs.r 6 rfl) (kx_dd d_Tc_fails 1 rfl) ?_
      refine kx_iload_n (pc := 4) (kx_dd d_Tc_fails 2 rfl) rfl rfl ?_
      refine kx_invV (pc := 5) (a := 39) (as := [_]) (kx_dd d_Tc_fails 3 rfl) ⟨lk_Tc_190, wi_Do_claimAt, we_Do_claimAt⟩ w_Do_claimAt (hs.k 39 rfl) rfl rfl rfl rfl (Nat.le_of_ble_eq_true rfl) (x_Do_claimAtN (d := d + 3) hs D A ho hp a e9) (Nat.le_refl _) ⟨Nat.le_refl _, Nat.le_refl _⟩ (fun v h' hq => ?_)
      obtain ⟨rfl, he⟩ := hq
      rw [he]
      clear he
      refine kx_astore_eN (pc := 8) (lv' := [_, _, _, _, _, _]) (kx_dd d_Tc_fails 4 rfl) (Nat.le_of_ble_eq_true rfl) rfl ?_
      refine kx_aload_n (pc := 10) (kx_dd d_Tc_fails 5 rfl) rfl rfl ?_
      refine kx_iload_n (pc := 11) (kx_dd d_Tc_fails 6 rfl) rfl rfl ?_
      refine kx_invV (pc := 12) (a := 0) (as := [_]) (kx_dd d_Tc_fails 7 rfl) ⟨lk_Tc_151, wi_Tc_versionAt, we_Tc_versionAt⟩ w_Tc_versionAt (hs.k 0 rfl) rfl rfl rfl rfl (Nat.le_of_ble_eq_true rfl) (x_Tc_versionN (d := d + 3) hs b e8) (Nat.le_refl _) ⟨Nat.le_refl _, Nat.le_refl _⟩ (fun v h' hq => ?_)
      obtain ⟨rfl, he⟩ := hq
      rw [he]
      clear he
      refine kx_astore_eN (pc := 15) (lv' := [_, _, _, _, _, _]) (kx_dd d_Tc_fails 8 rfl) (Nat.le_of_ble_eq_true rfl) rfl ?_
      refine kx_aloadN (pc := 17) (kx_dd d_Tc_fails 9 rfl) rfl ?_
      refine kx_ifnullN (pc := 19) (tgt := 34) (kx_dd d_Tc_fails 10 rfl) rfl ?_
      refine kx_bipush (pc := 34) (v := -2) (kx_dd d_Tc_fails 16 rfl) rfl ?_
      refine kx_iret (pc := 36) rfl (kx_dd d_Tc_fails 17 rfl) (Nat.le_refl _) (Nat.le_refl _) ?_
      exact ⟨by unfold faiA; rw [if_neg (fun z => e9 z.1)], rfl⟩
theorem x_Tc_points {l : Launch} {g : kx_G} {d : Nat} {h : kx_Mem} (hs : SC h) (D : DK) (A : DA) (ho : DKok D) (hp : DKc D A h) (AV : Nat → Nat) (DV : Nat) (V : Nat → RU) (hV : CVs AV DV V h) (a b c : Int32) : kx_Sp l g m_Tc_points [.ref 0, .int a, .int b, .int c] h (d + 5) 0 0 (fun v h' => v = some (.int (ptsA D V a b c)) ∧ h' = h) := by
  have o1 := ho.2.2.1.1
  by_cases e9 : 0 ≤ a ∧ a < nI D.2.2.1.1
  · by_cases e8 : vrs b
    · skip
      obtain ⟨a9, ha9, rfl⟩ := valP (n := D.2.2.1.1) (by omega) e9
      obtain ⟨b9, hb9, rfl⟩ := vrs_n e8
      refine kx_enter_e (lv := [_, _, _, _, _, _]) (by decide +kernel) (Nat.le_of_ble_eq_true rfl) rfl ?_
      refine kx_aload_n (pc := 0) (kx_dd d_Tc_points 0 rfl) rfl rfl ?_
      refine kx_getR (pc := 1) (b := 39) fl_Tc_57 (hs.k 0 rfl) rfl (hs.r 6 rfl) (kx_dd d_Tc_points 1 rfl) ?_
      refine kx_iload_n (pc := 4) (kx_dd d_Tc_points 2 rfl) rfl rfl ?_
      refine kx_invV (pc := 5) (a := 39) (as := [_]) (kx_dd d_Tc_points 3 rfl) ⟨lk_Tc_190, wi_Do_claimAt, we_Do_claimAt⟩ w_Do_claimAt (hs.k 39 rfl) rfl rfl rfl rfl (Nat.le_of_ble_eq_true rfl) (x_Do_claimAt (d := d + 1) hs D A ho hp a9 ha9) (Nat.le_refl _) ⟨Nat.le_refl _, Nat.le_refl _⟩ (fun v h' hq => ?_)
      obtain ⟨rfl, he⟩ := hq
      rw [he]
      clear he
      refine kx_astore_e (pc := 8) (lv' := [_, _, _, _, _, _]) (kx_dd d_Tc_points 4 rfl) (Nat.le_of_ble_eq_true rfl) rfl ?_
      refine kx_aload_n (pc := 10) (kx_dd d_Tc_points 5 rfl) rfl rfl ?_
      refine kx_iload_n (pc := 11) (kx_dd d_Tc_points 6 rfl) rfl rfl ?_
      refine kx_invV (pc := 12) (a := 0) (as := [_]) (kx_dd d_Tc_points 7 rfl) ⟨lk_Tc_151, wi_Tc_versionAt, we_Tc_versionAt⟩ w_Tc_versionAt (hs.k 0 rfl) rfl rfl rfl rfl (Nat.le_of_ble_eq_true rfl) (x_Tc_versionV (d := d + 3) hs AV DV V hV b9 hb9) (Nat.le_refl _) ⟨Nat.le_refl _, Nat.le_refl _⟩ (fun v h' hq => ?_)
      obtain ⟨rfl, he⟩ := hq
      rw [he]
      clear he
      refine kx_astore_e (pc := 15) (lv' := [_, _, _, _, _, _]) (kx_dd d_Tc_points 8 rfl) (Nat.le_of_ble_eq_true rfl) rfl ?_
      refine kx_aload (pc := 17) (kx_dd d_Tc_points 9 rfl) rfl ?_
      refine kx_ifnull (pc := 19) (kx_dd d_Tc_points 10 rfl) ?_
      refine kx_aload (pc := 22) (kx_dd d_Tc_points 11 rfl) rfl ?_
      refine kx_ifnull (pc := 24) (kx_dd d_Tc_points 12 rfl) ?_
      refine kx_iload_n (pc := 27) (kx_dd d_Tc_points 13 rfl) rfl rfl ?_
      refine kx_invS (pc := 28) (as := [_]) (kx_dd d_Tc_points 14 rfl) ⟨lk_Tc_105, wt_Tc_isDay⟩ w_Tc_isDay rfl rfl (Nat.le_of_ble_eq_true rfl) (x_Tc_isDay (d := d + 3) c) (Nat.le_refl _) ⟨Nat.le_refl _, Nat.le_refl _⟩ (fun v h' hq => ?_)
      obtain ⟨rfl, he⟩ := hq
      rw [he]
      clear he
      refine kx_if_ne (pc := 31) (tgt := 37) (kx_dd d_Tc_points 15 rfl) rfl (fun c31 => ?_) (fun c31 => ?_)
      · have c31 := (bP_ti _).mp c31
        obtain ⟨c9, hc9, rfl⟩ := valD c31
        refine kx_aload (pc := 37) (kx_dd d_Tc_points 18 rfl) rfl ?_
        refine kx_aload_n (pc := 39) (kx_dd d_Tc_points 19 rfl) rfl rfl ?_
        refine kx_getR (pc := 40) (b := 39) fl_Tc_57 (hs.k 0 rfl) rfl (hs.r 6 rfl) (kx_dd d_Tc_points 20 rfl) ?_
        refine kx_aload (pc := 43) (kx_dd d_Tc_points 21 rfl) rfl ?_
        refine kx_aload (pc := 45) (kx_dd d_Tc_points 22 rfl) rfl ?_
        refine kx_iload_n (pc := 47) (kx_dd d_Tc_points 23 rfl) rfl rfl ?_
        refine kx_invV (pc := 48) (a := 39) (as := [_, _, _]) (kx_dd d_Tc_points 24 rfl) ⟨lk_Tc_218, wi_Do_hadKinds, we_Do_hadKinds⟩ w_Do_hadKinds (hs.k 39 rfl) rfl rfl rfl rfl (Nat.le_of_ble_eq_true rfl) (x_Do_hadKinds (d := d + 1) hs D A ho hp (AV b9) (IsRu.of hs (hV.2.2 b9 hb9).2.1) (V b9) (hV.2.2 b9 hb9).2.2.2.1 (hV.2.2 b9 hb9).2.2.2.2.1 a9 ha9 c9 (by omega)) (Nat.le_refl _) ⟨Nat.le_refl _, Nat.le_refl _⟩ (fun v h' hq => ?_)
        obtain ⟨rfl, he⟩ := hq
        rw [he]
        clear he
        refine kx_invV (pc := 51) (a := (AV b9)) (as := [_]) (kx_dd d_Tc_points 25 rfl) ⟨lk_Tc_221, wi_Ru_pointsOf, we_Ru_pointsOf⟩ w_Ru_pointsOf (congrArg Prod.fst (IsRu.of hs (hV.2.2 b9 hb9).2.1).1) rfl rfl rfl rfl (Nat.le_of_ble_eq_true rfl) (x_Ru_pointsOf (d := d + 4) (AV b9) (IsRu.of hs (hV.2.2 b9 hb9).2.1) (V b9) (hV.2.2 b9 hb9).2.2.2.1 (hV.2.2 b9 hb9).2.2.2.2.1 _ (by have := hadF_lt (D := D) (r := V b9) (hV.2.2 b9 hb9).2.2.2.1 (c := a9) (kn := c9); omega)) (Nat.le_refl _) ⟨Nat.le_refl _, Nat.le_refl _⟩ (fun v h' hq => ?_)
        obtain ⟨rfl, he⟩ := hq
        rw [he]
        clear he
        refine kx_iret (pc := 54) rfl (kx_dd d_Tc_points 26 rfl) (Nat.le_refl _) (Nat.le_refl _) ?_
        refine ⟨?_, rfl⟩
        unfold ptsA
        rw [if_pos ⟨e9, e8, c31⟩, nI_clamp (by omega), nI_clamp (by omega), nI_clamp (by omega)]
      · refine kx_bipush (pc := 34) (v := -2) (kx_dd d_Tc_points 16 rfl) rfl ?_
        refine kx_iret (pc := 36) rfl (kx_dd d_Tc_points 17 rfl) (Nat.le_refl _) (Nat.le_refl _) ?_
        exact ⟨by unfold ptsA; rw [if_neg (fun z => bP_0.mp c31 z.2.2)], rfl⟩
    · skip
      obtain ⟨a9, ha9, rfl⟩ := valP (n := D.2.2.1.1) (by omega) e9
      refine kx_enter_e (lv := [_, _, _, _, _, _]) (by decide +kernel) (Nat.le_of_ble_eq_true rfl) rfl ?_
      refine kx_aload_n (pc := 0) (kx_dd d_Tc_points 0 rfl) rfl rfl ?_
      refine kx_getR (pc := 1) (b := 39) fl_Tc_57 (hs.k 0 rfl) rfl (hs.r 6 rfl) (kx_dd d_Tc_points 1 rfl) ?_
      refine kx_iload_n (pc := 4) (kx_dd d_Tc_points 2 rfl) rfl rfl ?_
      refine kx_invV (pc := 5) (a := 39) (as := [_]) (kx_dd d_Tc_points 3 rfl) ⟨lk_Tc_190, wi_Do_claimAt, we_Do_claimAt⟩ w_Do_claimAt (hs.k 39 rfl) rfl rfl rfl rfl (Nat.le_of_ble_eq_true rfl) (x_Do_claimAt (d := d + 1) hs D A ho hp a9 ha9) (Nat.le_refl _) ⟨Nat.le_refl _, Nat.le_refl _⟩ (fun v h' hq => ?_)
      obtain ⟨rfl, he⟩ := hq
      rw [he]
      clear he
      refine kx_astore_e (pc := 8) (lv' := [_, _, _, _, _, _]) (kx_dd d_Tc_points 4 rfl) (Nat.le_of_ble_eq_true rfl) rfl ?_
      refine kx_aload_n (pc := 10) (kx_dd d_Tc_points 5 rfl) rfl rfl ?_
      refine kx_iload_n (pc := 11) (kx_dd d_Tc_points 6 rfl) rfl rfl ?_
      refine kx_invV (pc := 12) (a := 0) (as := [_]) (kx_dd d_Tc_points 7 rfl) ⟨lk_Tc_151, wi_Tc_versionAt, we_Tc_versionAt⟩ w_Tc_versionAt (hs.k 0 rfl) rfl rfl rfl rfl (Nat.le_of_ble_eq_true rfl) (x_Tc_versionN (d := d + 3) hs b e8) (Nat.le_refl _) ⟨Nat.le_refl _, Nat.le_refl _⟩ (fun v h' hq => ?_)
      obtain ⟨rfl, he⟩ := hq
      rw [he]
      clear he
      refine kx_astore_eN (pc := 15) (lv' := [_, _, _, _, _, _]) (kx_dd d_Tc_points 8 rfl) (Nat.le_of_ble_eq_true rfl) rfl ?_
      refine kx_aload (pc := 17) (kx_dd d_Tc_points 9 rfl) rfl ?_
      refine kx_ifnull (pc := 19) (kx_dd d_Tc_points 10 rfl) ?_
      refine kx_aloadN (pc := 22) (kx_dd d_Tc_points 11 rfl) rfl ?_
      refine kx_ifnullN (pc := 24) (tgt := 34) (kx_dd d_Tc_points 12 rfl) rfl ?_
      refine kx_bipush (pc := 34) (v := -2) (kx_dd d_Tc_points 16 rfl) rfl ?_
      refine kx_iret (pc := 36) rfl (kx_dd d_Tc_points 17 rfl) (Nat.le_refl _) (Nat.le_refl _) ?_
      exact ⟨by unfold ptsA; rw [if_neg (fun z => e8 z.2.1)], rfl⟩
  · by_cases e8 : vrs b
    · skip
      obtain ⟨b9, hb9, rfl⟩ := vrs_n e8
      refine kx_enter_e (lv := [_, _, _, _, _, _]) (by decide +kernel) (Nat.le_of_ble_eq_true rfl) rfl ?_
      refine kx_aload_n (pc := 0) (kx_dd d_Tc_points 0 rfl) rfl rfl ?_
      refine kx_getR (pc := 1) (b := 39) fl_Tc_57 (hs.k 0 rfl) rfl (hs.r 6 rfl) (kx_dd d_Tc_points 1 rfl) ?_
      refine kx_iload_n (pc := 4) (kx_dd d_Tc_points 2 rfl) rfl rfl ?_
      refine kx_invV (pc := 5) (a := 39) (as := [_]) (kx_dd d_Tc_points 3 rfl) ⟨lk_Tc_190, wi_Do_claimAt, we_Do_claimAt⟩ w_Do_claimAt (hs.k 39 rfl) rfl rfl rfl rfl (Nat.le_of_ble_eq_true rfl) (x_Do_claimAtN (d := d + 3) hs D A ho hp a e9) (Nat.le_refl _) ⟨Nat.le_refl _, Nat.le_refl _⟩ (fun v h' hq => ?_)
      obtain ⟨rfl, he⟩ := hq
      rw [he]
      clear he
      refine kx_astore_eN (pc := 8) (lv' := [_, _, _, _, _, _]) (kx_dd d_Tc_points 4 rfl) (Nat.le_of_ble_eq_true rfl) rfl ?_
      refine kx_aload_n (pc := 10) (kx_dd d_Tc_points 5 rfl) rfl rfl ?_
      refine kx_iload_n (pc := 11) (kx_dd d_Tc_points 6 rfl) rfl rfl ?_
      refine kx_invV (pc := 12) (a := 0) (as := [_]) (kx_dd d_Tc_points 7 rfl) ⟨lk_Tc_151, wi_Tc_versionAt, we_Tc_versionAt⟩ w_Tc_versionAt (hs.k 0 rfl) rfl rfl rfl rfl (Nat.le_of_ble_eq_true rfl) (x_Tc_versionV (d := d + 3) hs AV DV V hV b9 hb9) (Nat.le_refl _) ⟨Nat.le_refl _, Nat.le_refl _⟩ (fun v h' hq => ?_)
      obtain ⟨rfl, he⟩ := hq
      rw [he]
      clear he
      refine kx_astore_e (pc := 15) (lv' := [_, _, _, _, _, _]) (kx_dd d_Tc_points 8 rfl) (Nat.le_of_ble_eq_true rfl) rfl ?_
      refine kx_aloadN (pc := 17) (kx_dd d_Tc_points 9 rfl) rfl ?_
      refine kx_ifnullN (pc := 19) (tgt := 34) (kx_dd d_Tc_points 10 rfl) rfl ?_
      refine kx_bipush (pc := 34) (v := -2) (kx_dd d_Tc_points 16 rfl) rfl ?_
      refine kx_iret (pc := 36) rfl (kx_dd d_Tc_points 17 rfl) (Nat.le_refl _) (Nat.le_refl _) ?_
      exact ⟨by unfold ptsA; rw [if_neg (fun z => e9 z.1)], rfl⟩
    · skip
      refine kx_enter_e (lv := [_, _, _, _, _, _]) (by decide +kernel) (Nat.le_of_ble_eq_true rfl) rfl ?_
      refine kx_aload_n (pc := 0) (kx_dd d_Tc_points 0 rfl) rfl rfl ?_
      refine kx_getR (pc := 1) (b := 39) fl_Tc_57 (hs.k 0 rfl) rfl (hs.r 6 rfl) (kx_dd d_Tc_points 1 rfl) ?_
      refine kx_iload_n (pc := 4) (kx_dd d_Tc_points 2 rfl) rfl rfl ?_
      refine kx_invV (pc := 5) (a := 39) (as := [_]) (kx_dd d_Tc_points 3 rfl) ⟨lk_Tc_190, wi_Do_claimAt, we_Do_claimAt⟩ w_Do_claimAt (hs.k 39 rfl) rfl rfl rfl rfl (Nat.le_of_ble_eq_true rfl) (x_Do_claimAtN (d := d + 3) hs D A ho hp a e9) (Nat.le_refl _) ⟨Nat.le_refl _, Nat.le_refl _⟩ (fun v h' hq => ?_)
      obtain ⟨rfl, he⟩ := hq
      rw [he]
      clear he
      refine kx_astore_eN (pc := 8) (lv' := [_, _, _, _, _, _]) (kx_dd d_Tc_points 4 rfl) (Nat.le_of_ble_eq_true rfl) rfl ?_
      refine kx_aload_n (pc := 10) (kx_dd d_Tc_points 5 rfl) rfl rfl ?_
      refine kx_iload_n (pc := 11) (kx_dd d_Tc_points 6 rfl) rfl rfl ?_
      refine kx_invV (pc := 12) (a := 0) (as := [_]) (kx_dd d_Tc_points 7 rfl) ⟨lk_Tc_151, wi_Tc_versionAt, we_Tc_versionAt⟩ w_Tc_versionAt (hs.k 0 rfl) rfl rfl rfl rfl (Nat.le_of_ble_eq_true rfl) (x_Tc_versionN (d := d + 3) hs b e8) (Nat.le_refl _) ⟨Nat.le_refl _, Nat.le_refl _⟩ (fun v h' hq => ?_)
      obtain ⟨rfl, he⟩ := hq
      rw [he]
      clear he
      refine kx_astore_eN (pc := 15) (lv' := [_, _, _, _, _, _]) (kx_dd d_Tc_points 8 rfl) (Nat.le_of_ble_eq_true rfl) rfl ?_
      refine kx_aloadN (pc := 17) (kx_dd d_Tc_points 9 rfl) rfl ?_
      refine kx_ifnullN (pc := 19) (tgt := 34) (kx_dd d_Tc_points 10 rfl) rfl ?_
      refine kx_bipush (pc := 34) (v := -2) (kx_dd d_Tc_points 16 rfl) rfl ?_
      refine kx_iret (pc := 36) rfl (kx_dd d_Tc_points 17 rfl) (Nat.le_refl _) (Nat.le_refl _) ?_
      exact ⟨by unfold ptsA; rw [if_neg (fun z => e9 z.1)], rfl⟩
theorem y_isAsked {l : Launch} {g : kx_G} {d : Nat} {h : kx_Mem} (hm : SM h) (nw : Nat) (T : Nat → Nat) (hwt : WTok nw T) (D : DK) (ho : DKok D) (hp : DKm D nw T h) (a b c : Int32) : kx_Sp l g m_Mo_isAsked [.ref 84, .int a, .int b, .int c] h (d + 2) 0 0 (fun v h' => v = some (.int (bP (askP D a b c))) ∧ h' = h) := by
  refine kx_enter_e (lv := [_, _, _, _]) (by decide +kernel) (Nat.le_of_ble_eq_true rfl) rfl ?_
  refine kx_aload_n (pc := 0) (kx_dd d_Mo_isAsked 0 rfl) rfl rfl ?_
  refine kx_iload_n (pc := 1) (kx_dd d_Mo_isAsked 1 rfl) rfl rfl ?_
  refine kx_invV (pc := 2) (a := 84) (as := [_]) (kx_dd d_Mo_isAsked 2 rfl) ⟨lk_Mo_520, wi_Mo_isClaim, we_Mo_isClaim⟩ w_Mo_isClaim (hm.k 0 rfl) rfl rfl rfl rfl (Nat.le_of_ble_eq_true rfl) (y_isClaim (d := d) hm nw T hwt D ho hp a) (Nat.le_refl _) ⟨Nat.le_refl _, Nat.le_refl _⟩ (fun v h' hq => ?_)
  obtain ⟨rfl, he⟩ := hq
  rw [he]
  clear he
  refine kx_if_eq (pc := 5) (tgt := 26) (kx_dd d_Mo_isAsked 3 rfl) rfl (fun c5 => ?_) (fun c5 => ?_)
  · refine kx_iconst (pc := 26) (v := 0) (kx_dd d_Mo_isAsked 12 rfl) rfl ?_
    refine kx_zret (pc := 27) rfl rfl (kx_dd d_Mo_isAsked 13 rfl) (Nat.le_refl _) (Nat.le_refl _) ?_
    exact ⟨by rw [bP_f (fun z => bP_0.mp c5 z.1)], rfl⟩
  · refine kx_iload_n (pc := 8) (kx_dd d_Mo_isAsked 4 rfl) rfl rfl ?_
    refine kx_invS (pc := 9) (as := [_]) (kx_dd d_Mo_isAsked 5 rfl) ⟨lk_Mo_239, wt_Mo_isVersion⟩ w_Mo_isVersion rfl rfl (Nat.le_of_ble_eq_true rfl) (y_isVersion (d := d) b) (Nat.le_refl _) ⟨Nat.le_refl _, Nat.le_refl _⟩ (fun v h' hq => ?_)
    obtain ⟨rfl, he⟩ := hq
    rw [he]
    clear he
    refine kx_if_eq (pc := 12) (tgt := 26) (kx_dd d_Mo_isAsked 6 rfl) rfl (fun c12 => ?_) (fun c12 => ?_)
    · refine kx_iconst (pc := 26) (v := 0) (kx_dd d_Mo_isAsked 12 rfl) rfl ?_
      refine kx_zret (pc := 27) rfl rfl (kx_dd d_Mo_isAsked 13 rfl) (Nat.le_refl _) (Nat.le_refl _) ?_
      exact ⟨by rw [bP_f (fun z => bP_0.mp c12 z.2.1)], rfl⟩
    · refine kx_iload_n (pc := 15) (kx_dd d_Mo_isAsked 7 rfl) rfl rfl ?_
      refine kx_invS (pc := 16) (as := [_]) (kx_dd d_Mo_isAsked 8 rfl) ⟨lk_Mo_441, wt_Mo_isDay⟩ w_Mo_isDay rfl rfl (Nat.le_of_ble_eq_true rfl) (y_isDay (d := d) c) (Nat.le_refl _) ⟨Nat.le_refl _, Nat.le_refl _⟩ (fun v h' hq => ?_)
      obtain ⟨rfl, he⟩ := hq
      rw [he]
      clear he
      refine kx_if_eq (pc := 19) (tgt := 26) (kx_dd d_Mo_isAsked 9 rfl) rfl (fun c19 => ?_) (fun c19 => ?_)
      · refine kx_iconst (pc := 26) (v := 0) (kx_dd d_Mo_isAsked 12 rfl) rfl ?_
        refine kx_zret (pc := 27) rfl rfl (kx_dd d_Mo_isAsked 13 rfl) (Nat.le_refl _) (Nat.le_refl _) ?_
        exact ⟨by rw [bP_f (fun z => bP_0.mp c19 z.2.2)], rfl⟩
      · refine kx_iconst (pc := 22) (v := 1) (kx_dd d_Mo_isAsked 10 rfl) rfl ?_
        refine kx_goto (pc := 23) (tgt := 27) (kx_dd d_Mo_isAsked 11 rfl) rfl ?_
        refine kx_zret (pc := 27) rfl rfl (kx_dd d_Mo_isAsked 13 rfl) (Nat.le_refl _) (Nat.le_refl _) ?_
        exact ⟨by rw [bP_t ⟨(bP_ti _).mp c5, (bP_ti _).mp c12, (bP_ti _).mp c19⟩], rfl⟩
theorem y_fails {l : Launch} {g : kx_G} {d : Nat} {h : kx_Mem} (hm : SM h) (nw : Nat) (T : Nat → Nat) (hwt : WTok nw T) (D : DK) (ho : DKok D) (hp : DKm D nw T h) (V : Nat → RU) (hV : ∀ u, u < 4 → RUok (V u) ∧ RUm (V u) u nw T h) (a b c : Int32) : kx_Sp l g m_Mo_fails [.ref 84, .int a, .int b, .int c] h (d + 5) 0 0 (fun v h' => v = some (.int (faiA D V a b c)) ∧ h' = h) := by
  have o1 := ho.2.2.1.1
  refine kx_enter_e (lv := [_, _, _, _]) (by decide +kernel) (Nat.le_of_ble_eq_true rfl) rfl ?_
  refine kx_aload_n (pc := 0) (kx_dd d_Mo_fails 0 rfl) rfl rfl ?_
  refine kx_iload_n (pc := 1) (kx_dd d_Mo_fails 1 rfl) rfl rfl ?_
  refine kx_iload_n (pc := 2) (kx_dd d_Mo_fails 2 rfl) rfl rfl ?_
  refine kx_iload_n (pc := 3) (kx_dd d_Mo_fails 3 rfl) rfl rfl ?_
  refine kx_invV (pc := 4) (a := 84) (as := [_, _, _]) (kx_dd d_Mo_fails 4 rfl) ⟨lk_Mo_553, wi_Mo_isAsked, we_Mo_isAsked⟩ w_Mo_isAsked (hm.k 0 rfl) rfl rfl rfl rfl (Nat.le_of_ble_eq_true rfl) (y_isAsked (d := d + 2) hm nw T hwt D ho hp a b c) (Nat.le_refl _) ⟨Nat.le_refl _, Nat.le_refl _⟩ (fun v h' hq => ?_)
  obtain ⟨rfl, he⟩ := hq
  rw [he]
  clear he
  refine kx_if_eq (pc := 7) (tgt := 20) (kx_dd d_Mo_fails 5 rfl) rfl (fun c7 => ?_) (fun c7 => ?_)
  · refine kx_bipush (pc := 20) (v := -2) (kx_dd d_Mo_fails 12 rfl) rfl ?_
    refine kx_iret (pc := 22) rfl (kx_dd d_Mo_fails 13 rfl) (Nat.le_refl _) (Nat.le_refl _) ?_
    exact ⟨by unfold faiA; rw [if_neg (bP_0.mp c7)], rfl⟩
  · have c7 := (bP_ti _).mp c7
    obtain ⟨a9, ha9, rfl⟩ := valP (n := D.2.2.1.1) (by omega) c7.1
    obtain ⟨b9, hb9, rfl⟩ := vrs_n c7.2.1
    obtain ⟨c9, hc9, rfl⟩ := valD c7.2.2
    refine kx_aload_n (pc := 10) (kx_dd d_Mo_fails 6 rfl) rfl rfl ?_
    refine kx_iload_n (pc := 11) (kx_dd d_Mo_fails 7 rfl) rfl rfl ?_
    refine kx_iload_n (pc := 12) (kx_dd d_Mo_fails 8 rfl) rfl rfl ?_
    refine kx_iload_n (pc := 13) (kx_dd d_Mo_fails 9 rfl) rfl rfl ?_
    refine kx_invV (pc := 14) (a := 84) (as := [_, _, _]) (kx_dd d_Mo_fails 10 rfl) ⟨lk_Mo_556, wi_Mo_failsOf, we_Mo_failsOf⟩ w_Mo_failsOf (hm.k 0 rfl) rfl rfl rfl rfl (Nat.le_of_ble_eq_true rfl) (y_failsOf (d := d) hm nw T hwt D ho hp (V b9) (hV b9 hb9).1 b9 (by omega) (hV b9 hb9).2 a9 ha9 c9 (by omega)) (Nat.le_refl _) ⟨Nat.le_refl _, Nat.le_refl _⟩ (fun v h' hq => ?_)
    obtain ⟨rfl, he⟩ := hq
    rw [he]
    clear he
    refine kx_goto (pc := 17) (tgt := 22) (kx_dd d_Mo_fails 11 rfl) rfl ?_
    refine kx_iret (pc := 22) rfl (kx_dd d_Mo_fails 13 rfl) (Nat.le_refl _) (Nat.le_refl _) ?_
    refine ⟨?_, rfl⟩
    unfold faiA
    rw [if_pos c7, nI_clamp (by omega), nI_clamp (by omega), nI_clamp (by omega)]
theorem y_points {l : Launch} {g : kx_G} {d : Nat} {h : kx_Mem} (hm : SM h) (nw : Nat) (T : Nat → Nat) (hwt : WTok nw T) (D : DK) (ho : DKok D) (hp : DKm D nw T h) (V : Nat → RU) (hV : ∀ u, u < 4 → RUok (V u) ∧ RUm (V u) u nw T h) (a b c : Int32) : kx_Sp l g m_Mo_points [.ref 84, .int a, .int b, .int c] h (d + 5) 0 0 (fun v h' => v = some (.int (ptsA D V a b c)) ∧ h' = h) := by
  have o1 := ho.2.2.1.1
  refine kx_enter_e (lv := [_, _, _, _]) (by decide +kernel) (Nat.le_of_ble_eq_true rfl) rfl ?_
  refine kx_aload_n (pc := 0) (kx_dd d_Mo_points 0 rfl) rfl rfl ?_
  refine kx_iload_n (pc := 1) (kx_dd d_Mo_points 1 rfl) rfl rfl ?_
  refine kx_iload_n (pc := 2) (kx_dd d_Mo_points 2 rfl) rfl rfl ?_
  refine kx_iload_n (pc := 3) (kx_dd d_Mo_points 3 rfl) rfl rfl ?_
  refine kx_invV (pc := 4) (a := 84) (as := [_, _, _]) (kx_dd d_Mo_points 4 rfl) ⟨lk_Mo_553, wi_Mo_isAsked, we_Mo_isAsked⟩ w_Mo_isAsked (hm.k 0 rfl) rfl rfl rfl rfl (Nat.le_of_ble_eq_true rfl) (y_isAsked (d := d + 2) hm nw T hwt D ho hp a b c) (Nat.le_refl _) ⟨Nat.le_refl _, Nat.le_refl _⟩ (fun v h' hq => ?_)
  obtain ⟨rfl, he⟩ := hq
  rw [he]
  clear he
  refine kx_if_eq (pc := 7) (tgt := 25) (kx_dd d_Mo_points 5 rfl) rfl (fun c7 => ?_) (fun c7 => ?_)
  · refine kx_bipush (pc := 25) (v := -2) (kx_dd d_Mo_points 15 rfl) rfl ?_
    refine kx_iret (pc := 27) rfl (kx_dd d_Mo_points 16 rfl) (Nat.le_refl _) (Nat.le_refl _) ?_
    exact ⟨by unfold ptsA; rw [if_neg (bP_0.mp c7)], rfl⟩
  · have c7 := (bP_ti _).mp c7
    obtain ⟨a9, ha9, rfl⟩ := valP (n := D.2.2.1.1) (by omega) c7.1
    obtain ⟨b9, hb9, rfl⟩ := vrs_n c7.2.1
    obtain ⟨c9, hc9, rfl⟩ := valD c7.2.2
    refine kx_aload_n (pc := 10) (kx_dd d_Mo_points 6 rfl) rfl rfl ?_
    refine kx_iload_n (pc := 11) (kx_dd d_Mo_points 7 rfl) rfl rfl ?_
    refine kx_aload_n (pc := 12) (kx_dd d_Mo_points 8 rfl) rfl rfl ?_
    refine kx_iload_n (pc := 13) (kx_dd d_Mo_points 9 rfl) rfl rfl ?_
    refine kx_iload_n (pc := 14) (kx_dd d_Mo_points 10 rfl) rfl rfl ?_
    refine kx_iload_n (pc := 15) (kx_dd d_Mo_points 11 rfl) rfl rfl ?_
    refine kx_invV (pc := 16) (a := 84) (as := [_, _, _]) (kx_dd d_Mo_points 12 rfl) ⟨lk_Mo_547, wi_Mo_hadOf, we_Mo_hadOf⟩ w_Mo_hadOf (hm.k 0 rfl) rfl rfl rfl rfl (Nat.le_of_ble_eq_true rfl) (y_hadOf (d := d + 1) hm nw T hwt D ho hp (V b9) (hV b9 hb9).1 b9 (by omega) (hV b9 hb9).2 a9 ha9 c9 (by omega)) (Nat.le_refl _) ⟨Nat.le_refl _, Nat.le_refl _⟩ (fun v h' hq => ?_)
    obtain ⟨rfl, he⟩ := hq
    rw [he]
    clear he
    refine kx_invV (pc := 19) (a := 84) (as := [_, _]) (kx_dd d_Mo_points 13 rfl) ⟨lk_Mo_532, wi_Mo_weighs, we_Mo_weighs⟩ w_Mo_weighs (hm.k 0 rfl) rfl rfl rfl rfl (Nat.le_of_ble_eq_true rfl) (y_weighs (d := d + 4) hm nw T hwt (V b9) (hV b9 hb9).1 b9 (by omega) (hV b9 hb9).2 _ (by have := hadF_lt (D := D) (r := V b9) (hV b9 hb9).1 (c := a9) (kn := c9); omega)) (Nat.le_refl _) ⟨Nat.le_refl _, Nat.le_refl _⟩ (fun v h' hq => ?_)
    obtain ⟨rfl, he⟩ := hq
    rw [he]
    clear he
    refine kx_goto (pc := 22) (tgt := 27) (kx_dd d_Mo_points 14 rfl) rfl ?_
    refine kx_iret (pc := 27) rfl (kx_dd d_Mo_points 16 rfl) (Nat.le_refl _) (Nat.le_refl _) ?_
    refine ⟨?_, rfl⟩
    unfold ptsA
    rw [if_pos c7, nI_clamp (by omega), nI_clamp (by omega), nI_clamp (by omega)]
