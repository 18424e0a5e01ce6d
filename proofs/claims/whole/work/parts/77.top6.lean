/-! top-level: forged, due -/
noncomputable def forA (D : DK) (a b : Int32) : Int32 := if (0 ≤ a ∧ a < nI D.2.2.2.1) ∧ (0 ≤ b ∧ b ≤ 1999) then bP (forP D a.toNatClampNeg b.toNatClampNeg) else -2
noncomputable def dueA (D : DK) (r : RU) (td : Nat) (a : Int32) : Int32 := if 0 ≤ a ∧ a < nI D.2.2.1.1 then nI (dueF D r td a.toNatClampNeg) else -2
theorem x_Tc_versionV {l : Launch} {g : kx_G} {d : Nat} {h : kx_Mem} (hs : SC h) (AV : Nat → Nat) (DV : Nat) (V : Nat → RU) (hV : CVs AV DV V h) (v9 : Nat) (hv9 : v9 < 4) : kx_Sp l g m_Tc_versionAt [.ref 0, .int (nI v9)] h (d + 1) 0 0 (fun v h' => v = some (.ref (AV v9)) ∧ h' = h) := by
  refine kx_enter_e (lv := [_, _]) (by decide +kernel) (Nat.le_of_ble_eq_true rfl) rfl ?_
  refine kx_iload_n (pc := 0) (kx_dd d_Tc_versionAt 0 rfl) rfl rfl ?_
  refine kx_iconst (pc := 1) (v := 0) (kx_dd d_Tc_versionAt 1 rfl) rfl ?_
  refine kx_iconst (pc := 2) (v := 3) (kx_dd d_Tc_versionAt 2 rfl) rfl ?_
  refine kx_invS (pc := 3) (as := [_, _, _]) (kx_dd d_Tc_versionAt 3 rfl) ⟨lk_Tc_90, wt_Tc_within⟩ w_Tc_within rfl rfl (Nat.le_of_ble_eq_true rfl) (x_Tc_within (d := d) (nI v9) 0 3) (Nat.le_refl _) ⟨Nat.le_refl _, Nat.le_refl _⟩ (fun v h' hq => ?_)
  obtain ⟨rfl, he⟩ := hq
  rw [he]
  clear he
  refine kx_if_eq (pc := 6) (tgt := 18) (kx_dd d_Tc_versionAt 4 rfl) rfl (fun c6 => ?_) (fun c6 => ?_)
  · exact absurd (vrs_i hv9) (bP_0.mp c6)
  · refine kx_aload_n (pc := 9) (kx_dd d_Tc_versionAt 5 rfl) rfl rfl ?_
    refine kx_getR (pc := 10) (b := 13) fl_Tc_27 (hs.k 0 rfl) rfl (hs.r 2 rfl) (kx_dd d_Tc_versionAt 6 rfl) ?_
    refine kx_iload_n (pc := 13) (kx_dd d_Tc_versionAt 7 rfl) rfl rfl ?_
    refine kx_aldn (pc := 14) (b := (AV v9)) v9 (hs.t 13 rfl) (by decide) rfl hv9 (by decide) (hV.2.2 v9 hv9).1 (kx_dd d_Tc_versionAt 8 rfl) ?_
    refine kx_goto (pc := 15) (tgt := 19) (kx_dd d_Tc_versionAt 9 rfl) rfl ?_
    refine kx_aret (pc := 19) (r := some ((AV v9))) rfl (Or.inl ⟨_, rfl⟩) (kx_dd d_Tc_versionAt 11 rfl) (Nat.le_refl _) (Nat.le_refl _) ?_
    exact ⟨rfl, rfl⟩
theorem x_Tc_forged {l : Launch} {g : kx_G} {d : Nat} {h : kx_Mem} (hs : SC h) (D : DK) (A : DA) (ho : DKok D) (hp : DKc D A h) (a b : Int32) : kx_Sp l g m_Tc_forged [.ref 0, .int a, .int b] h (d + 4) 0 0 (fun v h' => v = some (.int (forA D a b)) ∧ h' = h) := by
  have o1 := ho.2.2.2.1
  by_cases e9 : 0 ≤ a ∧ a < nI D.2.2.2.1
  · skip
    obtain ⟨a9, ha9, rfl⟩ := valP (n := D.2.2.2.1) (by omega) e9
    refine kx_enter_e (lv := [_, _, _, _]) (by decide +kernel) (Nat.le_of_ble_eq_true rfl) rfl ?_
    refine kx_aload_n (pc := 0) (kx_dd d_Tc_forged 0 rfl) rfl rfl ?_
    refine kx_getR (pc := 1) (b := 39) fl_Tc_57 (hs.k 0 rfl) rfl (hs.r 6 rfl) (kx_dd d_Tc_forged 1 rfl) ?_
    refine kx_iload_n (pc := 4) (kx_dd d_Tc_forged 2 rfl) rfl rfl ?_
    refine kx_invV (pc := 5) (a := 39) (as := [_]) (kx_dd d_Tc_forged 3 rfl) ⟨lk_Tc_206, wi_Do_paperAt, we_Do_paperAt⟩ w_Do_paperAt (hs.k 39 rfl) rfl rfl rfl rfl (Nat.le_of_ble_eq_true rfl) (x_Do_paperAt (d := d) hs D A ho hp a9 ha9) (Nat.le_refl _) ⟨Nat.le_refl _, Nat.le_refl _⟩ (fun v h' hq => ?_)
    obtain ⟨rfl, he⟩ := hq
    rw [he]
    clear he
    refine kx_astore_ne (pc := 8) (lv' := [_, _, _, _]) (kx_dd d_Tc_forged 4 rfl) rfl (Nat.le_of_ble_eq_true rfl) rfl ?_
    refine kx_aload_n (pc := 9) (kx_dd d_Tc_forged 5 rfl) rfl rfl ?_
    refine kx_ifnull (pc := 10) (kx_dd d_Tc_forged 6 rfl) ?_
    refine kx_iload_n (pc := 13) (kx_dd d_Tc_forged 7 rfl) rfl rfl ?_
    refine kx_invS (pc := 14) (as := [_]) (kx_dd d_Tc_forged 8 rfl) ⟨lk_Tc_105, wt_Tc_isDay⟩ w_Tc_isDay rfl rfl (Nat.le_of_ble_eq_true rfl) (x_Tc_isDay (d := d + 2) b) (Nat.le_refl _) ⟨Nat.le_refl _, Nat.le_refl _⟩ (fun v h' hq => ?_)
    obtain ⟨rfl, he⟩ := hq
    rw [he]
    clear he
    refine kx_if_ne (pc := 17) (tgt := 23) (kx_dd d_Tc_forged 9 rfl) rfl (fun c17 => ?_) (fun c17 => ?_)
    · have c17 := (bP_ti _).mp c17
      obtain ⟨b9, hb9, rfl⟩ := valD c17
      refine kx_aload_n (pc := 23) (kx_dd d_Tc_forged 12 rfl) rfl rfl ?_
      refine kx_getR (pc := 24) (b := 39) fl_Tc_57 (hs.k 0 rfl) rfl (hs.r 6 rfl) (kx_dd d_Tc_forged 13 rfl) ?_
      refine kx_aload_n (pc := 27) (kx_dd d_Tc_forged 14 rfl) rfl rfl ?_
      refine kx_iload_n (pc := 28) (kx_dd d_Tc_forged 15 rfl) rfl rfl ?_
      refine kx_invV (pc := 29) (a := 39) (as := [_, _]) (kx_dd d_Tc_forged 16 rfl) ⟨lk_Tc_210, wi_Do_isForged, we_Do_isForged⟩ w_Do_isForged (hs.k 39 rfl) rfl rfl rfl rfl (Nat.le_of_ble_eq_true rfl) (x_Do_isForged (d := d + 1) hs D A ho hp a9 ha9 b9 (by omega)) (Nat.le_refl _) ⟨Nat.le_refl _, Nat.le_refl _⟩ (fun v h' hq => ?_)
      obtain ⟨rfl, he⟩ := hq
      rw [he]
      clear he
      refine kx_if_eq (pc := 32) (tgt := 39) (kx_dd d_Tc_forged 17 rfl) rfl (fun c32 => ?_) (fun c32 => ?_)
      · refine kx_iconst (pc := 39) (v := 0) (kx_dd d_Tc_forged 20 rfl) rfl ?_
        refine kx_iret (pc := 40) rfl (kx_dd d_Tc_forged 21 rfl) (Nat.le_refl _) (Nat.le_refl _) ?_
        refine ⟨?_, rfl⟩
        unfold forA
        rw [if_pos ⟨e9, c17⟩, nI_clamp (by omega), nI_clamp (by omega)]
        rw [bP_f (bP_0.mp c32)]
      · refine kx_iconst (pc := 35) (v := 1) (kx_dd d_Tc_forged 18 rfl) rfl ?_
        refine kx_goto (pc := 36) (tgt := 40) (kx_dd d_Tc_forged 19 rfl) rfl ?_
        refine kx_iret (pc := 40) rfl (kx_dd d_Tc_forged 21 rfl) (Nat.le_refl _) (Nat.le_refl _) ?_
        refine ⟨?_, rfl⟩
        unfold forA
        rw [if_pos ⟨e9, c17⟩, nI_clamp (by omega), nI_clamp (by omega)]
        rw [bP_t ((bP_ti _).mp c32)]
    · refine kx_bipush (pc := 20) (v := -2) (kx_dd d_Tc_forged 10 rfl) rfl ?_
      refine kx_iret (pc := 22) rfl (kx_dd d_Tc_forged 11 rfl) (Nat.le_refl _) (Nat.le_refl _) ?_
      exact ⟨by unfold forA; rw [if_neg (fun z => bP_0.mp c17 z.2)], rfl⟩
  · skip
    refine kx_enter_e (lv := [_, _, _, _]) (by decide +kernel) (Nat.le_of_ble_eq_true rfl) rfl ?_
    refine kx_aload_n (pc := 0) (kx_dd d_Tc_forged 0 rfl) rfl rfl ?_
    refine kx_getR (pc := 1) (b := 39) fl_Tc_57 (hs.k 0 rfl) rfl (hs.r 6 rfl) (kx_dd d_Tc_forged 1 rfl) ?_
    refine kx_iload_n (pc := 4) (kx_dd d_Tc_forged 2 rfl) rfl rfl ?_
    refine kx_invV (pc := 5) (a := 39) (as := [_]) (kx_dd d_Tc_forged 3 rfl) ⟨lk_Tc_206, wi_Do_paperAt, we_Do_paperAt⟩ w_Do_paperAt (hs.k 39 rfl) rfl rfl rfl rfl (Nat.le_of_ble_eq_true rfl) (x_Do_paperAtN (d := d + 2) hs D A ho hp a e9) (Nat.le_refl _) ⟨Nat.le_refl _, Nat.le_refl _⟩ (fun v h' hq => ?_)
    obtain ⟨rfl, he⟩ := hq
    rw [he]
    clear he
    refine kx_astore_neN (pc := 8) (lv' := [_, _, _, _]) (kx_dd d_Tc_forged 4 rfl) rfl (Nat.le_of_ble_eq_true rfl) rfl ?_
    refine kx_aload_nN (pc := 9) (kx_dd d_Tc_forged 5 rfl) rfl rfl ?_
    refine kx_ifnullN (pc := 10) (tgt := 20) (kx_dd d_Tc_forged 6 rfl) rfl ?_
    refine kx_bipush (pc := 20) (v := -2) (kx_dd d_Tc_forged 10 rfl) rfl ?_
    refine kx_iret (pc := 22) rfl (kx_dd d_Tc_forged 11 rfl) (Nat.le_refl _) (Nat.le_refl _) ?_
    exact ⟨by unfold forA; rw [if_neg (fun z => e9 z.1)], rfl⟩
theorem y_forged {l : Launch} {g : kx_G} {d : Nat} {h : kx_Mem} (hm : SM h) (nw : Nat) (T : Nat → Nat) (hwt : WTok nw T) (D : DK) (ho : DKok D) (hp : DKm D nw T h) (a b : Int32) : kx_Sp l g m_Mo_forged [.ref 84, .int a, .int b] h (d + 3) 0 0 (fun v h' => v = some (.int (forA D a b)) ∧ h' = h) := by
  have o1 := ho.2.2.2.1
  have e52 : h.1 84 52 = nI D.2.2.2.1 := hp.2.2.2.1
  refine kx_enter_e (lv := [_, _, _]) (by decide +kernel) (Nat.le_of_ble_eq_true rfl) rfl ?_
  refine kx_iload_n (pc := 0) (kx_dd d_Mo_forged 0 rfl) rfl rfl ?_
  refine kx_i2l (pc := 1) (kx_dd d_Mo_forged 1 rfl) ?_
  refine kx_lconst (pc := 2) (v := 0) (kx_dd d_Mo_forged 2 rfl) rfl ?_
  refine kx_aload_n (pc := 3) (kx_dd d_Mo_forged 3 rfl) rfl rfl ?_
  refine kx_getI (pc := 4) fl_Mo_525 (hm.k 0 rfl) rfl (kx_dd d_Mo_forged 4 rfl) ?_
  refine kx_i2l (pc := 7) (kx_dd d_Mo_forged 5 rfl) ?_
  refine kx_lconst (pc := 8) (v := 1) (kx_dd d_Mo_forged 6 rfl) rfl ?_
  refine kx_lsub (pc := 9) (kx_dd d_Mo_forged 7 rfl) ?_
  refine kx_invS (pc := 10) (as := [_, _, _]) (kx_dd d_Mo_forged 8 rfl) ⟨lk_Mo_5, wt_Mo_in⟩ w_Mo_in rfl rfl (Nat.le_of_ble_eq_true rfl) (y_in (d := d + 2) _ _ _) (Nat.le_refl _) ⟨Nat.le_refl _, Nat.le_refl _⟩ (fun v h' hq => ?_)
  obtain ⟨rfl, he⟩ := hq
  rw [he]
  clear he
  refine kx_if_eq (pc := 13) (tgt := 23) (kx_dd d_Mo_forged 9 rfl) rfl (fun c13 => ?_) (fun c13 => ?_)
  · refine kx_bipush (pc := 23) (v := -2) (kx_dd d_Mo_forged 13 rfl) rfl ?_
    refine kx_goto (pc := 25) (tgt := 42) (kx_dd d_Mo_forged 14 rfl) rfl ?_
    refine kx_iret (pc := 42) rfl (kx_dd d_Mo_forged 23 rfl) (Nat.le_refl _) (Nat.le_refl _) ?_
    have c13 := bP_0.mp c13
    rw [e52, w_le0, w_pred (by omega)] at c13
    exact ⟨by unfold forA; rw [if_neg (fun z => c13 z.1)], rfl⟩
  · refine kx_iload_n (pc := 16) (kx_dd d_Mo_forged 10 rfl) rfl rfl ?_
    refine kx_invS (pc := 17) (as := [_]) (kx_dd d_Mo_forged 11 rfl) ⟨lk_Mo_441, wt_Mo_isDay⟩ w_Mo_isDay rfl rfl (Nat.le_of_ble_eq_true rfl) (y_isDay (d := d + 1) b) (Nat.le_refl _) ⟨Nat.le_refl _, Nat.le_refl _⟩ (fun v h' hq => ?_)
    obtain ⟨rfl, he⟩ := hq
    rw [he]
    clear he
    refine kx_if_ne (pc := 20) (tgt := 28) (kx_dd d_Mo_forged 12 rfl) rfl (fun c20 => ?_) (fun c20 => ?_)
    · have c13 := (bP_ti _).mp c13
      rw [e52, w_le0, w_pred (by omega)] at c13
      have c20 := (bP_ti _).mp c20
      obtain ⟨a9, ha9, rfl⟩ := valP (n := D.2.2.2.1) (by omega) c13
      obtain ⟨b9, hb9, rfl⟩ := valD c20
      refine kx_aload_n (pc := 28) (kx_dd d_Mo_forged 15 rfl) rfl rfl ?_
      refine kx_iload_n (pc := 29) (kx_dd d_Mo_forged 16 rfl) rfl rfl ?_
      refine kx_iload_n (pc := 30) (kx_dd d_Mo_forged 17 rfl) rfl rfl ?_
      refine kx_invV (pc := 31) (a := 84) (as := [_, _]) (kx_dd d_Mo_forged 18 rfl) ⟨lk_Mo_528, wi_Mo_isForged, we_Mo_isForged⟩ w_Mo_isForged (hm.k 0 rfl) rfl rfl rfl rfl (Nat.le_of_ble_eq_true rfl) (y_isForged (d := d) hm nw T hwt D ho hp a9 ha9 b9 (by omega)) (Nat.le_refl _) ⟨Nat.le_refl _, Nat.le_refl _⟩ (fun v h' hq => ?_)
      obtain ⟨rfl, he⟩ := hq
      rw [he]
      clear he
      refine kx_if_eq (pc := 34) (tgt := 41) (kx_dd d_Mo_forged 19 rfl) rfl (fun c34 => ?_) (fun c34 => ?_)
      · refine kx_iconst (pc := 41) (v := 0) (kx_dd d_Mo_forged 22 rfl) rfl ?_
        refine kx_iret (pc := 42) rfl (kx_dd d_Mo_forged 23 rfl) (Nat.le_refl _) (Nat.le_refl _) ?_
        refine ⟨?_, rfl⟩
        unfold forA
        rw [if_pos ⟨c13, c20⟩, nI_clamp (by omega), nI_clamp (by omega)]
        rw [bP_f (bP_0.mp c34)]
      · refine kx_iconst (pc := 37) (v := 1) (kx_dd d_Mo_forged 20 rfl) rfl ?_
        refine kx_goto (pc := 38) (tgt := 42) (kx_dd d_Mo_forged 21 rfl) rfl ?_
        refine kx_iret (pc := 42) rfl (kx_dd d_Mo_forged 23 rfl) (Nat.le_refl _) (Nat.le_refl _) ?_
        refine ⟨?_, rfl⟩
        unfold forA
        rw [if_pos ⟨c13, c20⟩, nI_clamp (by omega), nI_clamp (by omega)]
        rw [bP_t ((bP_ti _).mp c34)]
    · refine kx_bipush (pc := 23) (v := -2) (kx_dd d_Mo_forged 13 rfl) rfl ?_
      refine kx_goto (pc := 25) (tgt := 42) (kx_dd d_Mo_forged 14 rfl) rfl ?_
      refine kx_iret (pc := 42) rfl (kx_dd d_Mo_forged 23 rfl) (Nat.le_refl _) (Nat.le_refl _) ?_
      exact ⟨by unfold forA; rw [if_neg (fun z => bP_0.mp c20 z.2)], rfl⟩
theorem x_Tc_due {l : Launch} {g : kx_G} {d : Nat} {h : kx_Mem} (hs : SC h) (D : DK) (A : DA) (ho : DKok D) (hp : DKc D A h) (AV : Nat → Nat) (DV : Nat) (V : Nat → RU) (hV : CVs AV DV V h) (u : Nat) (hu : u < 4) (hif : h.1 0 10 = nI u) (td : Nat) (htd : td < 2 ^ 31) (hck : h.1 0 9 = nI td) (a : Int32) : kx_Sp l g m_Tc_due [.ref 0, .int a] h (d + 6) 0 0 (fun v h' => v = some (.int (dueA D (V u) td a)) ∧ kx_Fc FdC h h') := by
  have o1 := ho.2.2.1.1
  by_cases e9 : 0 ≤ a ∧ a < nI D.2.2.1.1
  · skip
    obtain ⟨a9, ha9, rfl⟩ := valP (n := D.2.2.1.1) (by omega) e9
    refine kx_enter_e (lv := [_, _, _, _]) (by decide +kernel) (Nat.le_of_ble_eq_true rfl) rfl ?_
    refine kx_aload_n (pc := 0) (kx_dd d_Tc_due 0 rfl) rfl rfl ?_
    refine kx_getR (pc := 1) (b := 39) fl_Tc_57 (hs.k 0 rfl) rfl (hs.r 6 rfl) (kx_dd d_Tc_due 1 rfl) ?_
    refine kx_iload_n (pc := 4) (kx_dd d_Tc_due 2 rfl) rfl rfl ?_
    refine kx_invV (pc := 5) (a := 39) (as := [_]) (kx_dd d_Tc_due 3 rfl) ⟨lk_Tc_190, wi_Do_claimAt, we_Do_claimAt⟩ w_Do_claimAt (hs.k 39 rfl) rfl rfl rfl rfl (Nat.le_of_ble_eq_true rfl) (x_Do_claimAt (d := d + 2) hs D A ho hp a9 ha9) (Nat.le_refl _) ⟨Nat.le_refl _, Nat.le_refl _⟩ (fun v h' hq => ?_)
    obtain ⟨rfl, he⟩ := hq
    rw [he]
    clear he
    refine kx_astore_ne (pc := 8) (lv' := [_, _, _, _]) (kx_dd d_Tc_due 4 rfl) rfl (Nat.le_of_ble_eq_true rfl) rfl ?_
    refine kx_aload_n (pc := 9) (kx_dd d_Tc_due 5 rfl) rfl rfl ?_
    refine kx_aload_n (pc := 10) (kx_dd d_Tc_due 6 rfl) rfl rfl ?_
    refine kx_getI (pc := 11) fl_Tc_148 (hs.k 0 rfl) rfl (kx_dd d_Tc_due 7 rfl) ?_
    rw [hif]
    refine kx_invV (pc := 14) (a := 0) (as := [_]) (kx_dd d_Tc_due 8 rfl) ⟨lk_Tc_151, wi_Tc_versionAt, we_Tc_versionAt⟩ w_Tc_versionAt (hs.k 0 rfl) rfl rfl rfl rfl (Nat.le_of_ble_eq_true rfl) (x_Tc_versionV (d := d + 4) hs AV DV V hV u hu) (Nat.le_refl _) ⟨Nat.le_refl _, Nat.le_refl _⟩ (fun v h' hq => ?_)
    obtain ⟨rfl, he⟩ := hq
    rw [he]
    clear he
    refine kx_astore_ne (pc := 17) (lv' := [_, _, _, _]) (kx_dd d_Tc_due 9 rfl) rfl (Nat.le_of_ble_eq_true rfl) rfl ?_
    refine kx_aload_n (pc := 18) (kx_dd d_Tc_due 10 rfl) rfl rfl ?_
    refine kx_ifnull (pc := 19) (kx_dd d_Tc_due 11 rfl) ?_
    refine kx_aload_n (pc := 22) (kx_dd d_Tc_due 12 rfl) rfl rfl ?_
    refine kx_ifnonnull (pc := 23) (tgt := 29) (kx_dd d_Tc_due 13 rfl) rfl ?_
    refine kx_aload_n (pc := 29) (kx_dd d_Tc_due 16 rfl) rfl rfl ?_
    refine kx_getR (pc := 30) (b := 39) fl_Tc_57 (hs.k 0 rfl) rfl (hs.r 6 rfl) (kx_dd d_Tc_due 17 rfl) ?_
    refine kx_aload_n (pc := 33) (kx_dd d_Tc_due 18 rfl) rfl rfl ?_
    refine kx_aload_n (pc := 34) (kx_dd d_Tc_due 19 rfl) rfl rfl ?_
    refine kx_aload_n (pc := 35) (kx_dd d_Tc_due 20 rfl) rfl rfl ?_
    refine kx_getI (pc := 36) fl_Tc_94 (hs.k 0 rfl) rfl (kx_dd d_Tc_due 21 rfl) ?_
    rw [hck]
    refine kx_invV (pc := 39) (a := 39) (as := [_, _, _]) (kx_dd d_Tc_due 22 rfl) ⟨lk_Tc_243, wi_Do_dueOf, we_Do_dueOf⟩ w_Do_dueOf (hs.k 39 rfl) rfl rfl rfl rfl (Nat.le_of_ble_eq_true rfl) (x_Do_dueOf (d := d) hs D A ho hp (AV u) (hV.2.2 u hu).2.1 (V u) (hV.2.2 u hu).2.2.2.1 (hV.2.2 u hu).2.2.2.2.1 a9 ha9 td htd) (Nat.le_refl _) ⟨Nat.le_refl _, Nat.le_refl _⟩ (fun v h' hq => ?_)
    revert h'
    intro h1 hq
    obtain ⟨rfl, hf9⟩ := hq
    refine kx_iret (pc := 42) rfl (kx_dd d_Tc_due 23 rfl) (Nat.le_refl _) (Nat.le_refl _) ?_
    exact ⟨by unfold dueA; rw [if_pos e9, nI_clamp (by omega)], hf9⟩
  · skip
    refine kx_enter_e (lv := [_, _, _, _]) (by decide +kernel) (Nat.le_of_ble_eq_true rfl) rfl ?_
    refine kx_aload_n (pc := 0) (kx_dd d_Tc_due 0 rfl) rfl rfl ?_
    refine kx_getR (pc := 1) (b := 39) fl_Tc_57 (hs.k 0 rfl) rfl (hs.r 6 rfl) (kx_dd d_Tc_due 1 rfl) ?_
    refine kx_iload_n (pc := 4) (kx_dd d_Tc_due 2 rfl) rfl rfl ?_
    refine kx_invV (pc := 5) (a := 39) (as := [_]) (kx_dd d_Tc_due 3 rfl) ⟨lk_Tc_190, wi_Do_claimAt, we_Do_claimAt⟩ w_Do_claimAt (hs.k 39 rfl) rfl rfl rfl rfl (Nat.le_of_ble_eq_true rfl) (x_Do_claimAtN (d := d + 4) hs D A ho hp a e9) (Nat.le_refl _) ⟨Nat.le_refl _, Nat.le_refl _⟩ (fun v h' hq => ?_)
    obtain ⟨rfl, he⟩ := hq
    rw [he]
    clear he
    refine kx_astore_neN (pc := 8) (lv' := [_, _, _, _]) (kx_dd d_Tc_due 4 rfl) rfl (Nat.le_of_ble_eq_true rfl) rfl ?_
    refine kx_aload_n (pc := 9) (kx_dd d_Tc_due 5 rfl) rfl rfl ?_
    refine kx_aload_n (pc := 10) (kx_dd d_Tc_due 6 rfl) rfl rfl ?_
    refine kx_getI (pc := 11) fl_Tc_148 (hs.k 0 rfl) rfl (kx_dd d_Tc_due 7 rfl) ?_
    rw [hif]
    refine kx_invV (pc := 14) (a := 0) (as := [_]) (kx_dd d_Tc_due 8 rfl) ⟨lk_Tc_151, wi_Tc_versionAt, we_Tc_versionAt⟩ w_Tc_versionAt (hs.k 0 rfl) rfl rfl rfl rfl (Nat.le_of_ble_eq_true rfl) (x_Tc_versionV (d := d + 4) hs AV DV V hV u hu) (Nat.le_refl _) ⟨Nat.le_refl _, Nat.le_refl _⟩ (fun v h' hq => ?_)
    obtain ⟨rfl, he⟩ := hq
    rw [he]
    clear he
    refine kx_astore_ne (pc := 17) (lv' := [_, _, _, _]) (kx_dd d_Tc_due 9 rfl) rfl (Nat.le_of_ble_eq_true rfl) rfl ?_
    refine kx_aload_nN (pc := 18) (kx_dd d_Tc_due 10 rfl) rfl rfl ?_
    refine kx_ifnullN (pc := 19) (tgt := 26) (kx_dd d_Tc_due 11 rfl) rfl ?_
    refine kx_bipush (pc := 26) (v := -2) (kx_dd d_Tc_due 14 rfl) rfl ?_
    refine kx_iret (pc := 28) rfl (kx_dd d_Tc_due 15 rfl) (Nat.le_refl _) (Nat.le_refl _) ?_
    exact ⟨by unfold dueA; rw [if_neg e9], kx_Fc.rf⟩
theorem y_due {l : Launch} {g : kx_G} {d : Nat} {h : kx_Mem} (hm : SM h) (nw : Nat) (T : Nat → Nat) (hwt : WTok nw T) (D : DK) (ho : DKok D) (hp : DKm D nw T h) (r : RU) (td u : Nat) (hu : u < 4) (hro : RUok r) (hrp : RUm r u nw T h) (hif : h.1 84 31 = nI u) (hck : h.1 84 36 = nI td) (htd : td < 2 ^ 31) (a : Int32) : kx_Sp l g m_Mo_due [.ref 84, .int a] h (d + 7) 0 0 (fun v h' => v = some (.int (dueA D r td a)) ∧ kx_Fc FdM h h') := by
  have o1 := ho.2.2.1.1
  refine kx_enter_e (lv := [_, _]) (by decide +kernel) (Nat.le_of_ble_eq_true rfl) rfl ?_
  refine kx_aload_n (pc := 0) (kx_dd d_Mo_due 0 rfl) rfl rfl ?_
  refine kx_iload_n (pc := 1) (kx_dd d_Mo_due 1 rfl) rfl rfl ?_
  refine kx_invV (pc := 2) (a := 84) (as := [_]) (kx_dd d_Mo_due 2 rfl) ⟨lk_Mo_520, wi_Mo_isClaim, we_Mo_isClaim⟩ w_Mo_isClaim (hm.k 0 rfl) rfl rfl rfl rfl (Nat.le_of_ble_eq_true rfl) (y_isClaim (d := d + 5) hm nw T hwt D ho hp a) (Nat.le_refl _) ⟨Nat.le_refl _, Nat.le_refl _⟩ (fun v h' hq => ?_)
  obtain ⟨rfl, he⟩ := hq
  rw [he]
  clear he
  refine kx_if_eq (pc := 5) (tgt := 16) (kx_dd d_Mo_due 3 rfl) rfl (fun c5 => ?_) (fun c5 => ?_)
  · refine kx_bipush (pc := 16) (v := -2) (kx_dd d_Mo_due 8 rfl) rfl ?_
    refine kx_iret (pc := 18) rfl (kx_dd d_Mo_due 9 rfl) (Nat.le_refl _) (Nat.le_refl _) ?_
    exact ⟨by unfold dueA; rw [if_neg (bP_0.mp c5)], kx_Fc.rf⟩
  · have c5 := (bP_ti _).mp c5
    obtain ⟨a9, ha9, rfl⟩ := valP (n := D.2.2.1.1) (by omega) c5
    refine kx_aload_n (pc := 8) (kx_dd d_Mo_due 4 rfl) rfl rfl ?_
    refine kx_iload_n (pc := 9) (kx_dd d_Mo_due 5 rfl) rfl rfl ?_
    refine kx_invV (pc := 10) (a := 84) (as := [_]) (kx_dd d_Mo_due 6 rfl) ⟨lk_Mo_564, wi_Mo_dueOf, we_Mo_dueOf⟩ w_Mo_dueOf (hm.k 0 rfl) rfl rfl rfl rfl (Nat.le_of_ble_eq_true rfl) (y_dueOf (d := d) hm nw T hwt D ho hp r td u hu hro hrp hif hck htd a9 ha9) (Nat.le_refl _) ⟨Nat.le_refl _, Nat.le_refl _⟩ (fun v h' hq => ?_)
    revert h'
    intro h1 hq
    obtain ⟨rfl, hf9⟩ := hq
    refine kx_goto (pc := 13) (tgt := 18) (kx_dd d_Mo_due 7 rfl) rfl ?_
    refine kx_iret (pc := 18) rfl (kx_dd d_Mo_due 9 rfl) (Nat.le_refl _) (Nat.le_refl _) ?_
    exact ⟨by unfold dueA; rw [if_pos c5, nI_clamp (by omega)], hf9⟩
