/-! top-level: nationOn, deadOn, rateOn, pass, sides, person -/
noncomputable def noA (s : PS) (a b c : Int32) : Int32 := if (0 ≤ a ∧ a < nI s.1) ∧ (0 ≤ b ∧ b ≤ 1999) ∧ (0 ≤ c ∧ c ≤ 1999) then nI (natF s a.toNatClampNeg b.toNatClampNeg c.toNatClampNeg) else -2
noncomputable def doA (s : PS) (a b c : Int32) : Int32 := if (0 ≤ a ∧ a < nI s.1) ∧ (0 ≤ b ∧ b ≤ 1999) ∧ (0 ≤ c ∧ c ≤ 1999) then bP (deadP s a.toNatClampNeg b.toNatClampNeg c.toNatClampNeg) else -2
noncomputable def roA (s : RS) (a b : Int32) : Int32 := if (0 ≤ a ∧ a ≤ 3) ∧ (0 ≤ b ∧ b ≤ 1999) then nI (ratF s a.toNatClampNeg b.toNatClampNeg) else -2
theorem val3 {a : Int32} (h : 0 ≤ a ∧ a ≤ 3) : ∃ k, k ≤ 3 ∧ a = nI k := by
  obtain ⟨k, hk, e⟩ := vrs_n h
  exact ⟨k, by omega, e⟩
theorem bP_ti (c : Prop) : (bP c = 0 → False) ↔ c := ⟨fun h => Classical.not_not.mp (fun x => h (bP_0.mpr x)), fun h x => bP_0.mp x h⟩
theorem x_Tc_nationOn {l : Launch} {g : kx_G} {d : Nat} {h : kx_Mem} (hs : SC h) (s : PS) (ho : PSok s) (hp : PSc s h) (a b c : Int32) : kx_Sp l g m_Tc_nationOn [.ref 0, .int a, .int b, .int c] h (d + 3) 0 0 (fun v h' => v = some (.int (noA s a b c)) ∧ h' = h) := by
  have e14 : h.1 14 0 = nI s.1 := hp.1
  have o1 := ho.1
  refine kx_enter_e (lv := [_, _, _, _]) (by decide +kernel) (Nat.le_of_ble_eq_true rfl) rfl ?_
  refine kx_aload_n (pc := 0) (kx_dd d_Tc_nationOn 0 rfl) rfl rfl ?_
  refine kx_getR (pc := 1) (b := 14) fl_Tc_34 (hs.k 0 rfl) rfl (hs.r 3 rfl) (kx_dd d_Tc_nationOn 1 rfl) ?_
  refine kx_iload_n (pc := 4) (kx_dd d_Tc_nationOn 2 rfl) rfl rfl ?_
  refine kx_invV (pc := 5) (a := 14) (as := [_]) (kx_dd d_Tc_nationOn 3 rfl) ⟨lk_Tc_101, wi_Pe_has, we_Pe_has⟩ w_Pe_has (hs.k 14 rfl) rfl rfl rfl rfl (Nat.le_of_ble_eq_true rfl) (x_Pe_has (d := d + 2) hs a) (Nat.le_refl _) ⟨Nat.le_refl _, Nat.le_refl _⟩ (fun v h' hq => ?_)
  obtain ⟨rfl, he⟩ := hq
  rw [he]
  clear he
  refine kx_if_eq (pc := 8) (tgt := 25) (kx_dd d_Tc_nationOn 4 rfl) rfl (fun c8 => ?_) (fun c8 => ?_)
  · refine kx_bipush (pc := 25) (v := -2) (kx_dd d_Tc_nationOn 11 rfl) rfl ?_
    refine kx_iret (pc := 27) rfl (kx_dd d_Tc_nationOn 12 rfl) (Nat.le_refl _) (Nat.le_refl _) ?_
    rw [bP_0] at c8
    rw [e14] at c8
    exact ⟨by unfold noA; rw [if_neg (fun z => c8 z.1)], rfl⟩
  · refine kx_iload_n (pc := 11) (kx_dd d_Tc_nationOn 5 rfl) rfl rfl ?_
    refine kx_invS (pc := 12) (as := [_]) (kx_dd d_Tc_nationOn 6 rfl) ⟨lk_Tc_105, wt_Tc_isDay⟩ w_Tc_isDay rfl rfl (Nat.le_of_ble_eq_true rfl) (x_Tc_isDay (d := d + 1) b) (Nat.le_refl _) ⟨Nat.le_refl _, Nat.le_refl _⟩ (fun v h' hq => ?_)
    obtain ⟨rfl, he⟩ := hq
    rw [he]
    clear he
    refine kx_if_eq (pc := 15) (tgt := 25) (kx_dd d_Tc_nationOn 7 rfl) rfl (fun c15 => ?_) (fun c15 => ?_)
    · refine kx_bipush (pc := 25) (v := -2) (kx_dd d_Tc_nationOn 11 rfl) rfl ?_
      refine kx_iret (pc := 27) rfl (kx_dd d_Tc_nationOn 12 rfl) (Nat.le_refl _) (Nat.le_refl _) ?_
      rw [bP_0] at c15
      exact ⟨by unfold noA; rw [if_neg (fun z => c15 z.2.1)], rfl⟩
    · refine kx_iload_n (pc := 18) (kx_dd d_Tc_nationOn 8 rfl) rfl rfl ?_
      refine kx_invS (pc := 19) (as := [_]) (kx_dd d_Tc_nationOn 9 rfl) ⟨lk_Tc_105, wt_Tc_isDay⟩ w_Tc_isDay rfl rfl (Nat.le_of_ble_eq_true rfl) (x_Tc_isDay (d := d + 1) c) (Nat.le_refl _) ⟨Nat.le_refl _, Nat.le_refl _⟩ (fun v h' hq => ?_)
      obtain ⟨rfl, he⟩ := hq
      rw [he]
      clear he
      refine kx_if_ne (pc := 22) (tgt := 28) (kx_dd d_Tc_nationOn 10 rfl) rfl (fun c22 => ?_) (fun c22 => ?_)
      · have c8 : 0 ≤ a ∧ a < h.1 14 0 := (bP_ti _).mp c8
        have c15 : (0 ≤ b ∧ b ≤ 1999) := (bP_ti _).mp c15
        have c22 : (0 ≤ c ∧ c ≤ 1999) := (bP_ti _).mp c22
        rw [e14] at c8
        obtain ⟨p9, hp9, rfl⟩ := valP (n := s.1) (by omega) c8
        obtain ⟨d9, hd9, rfl⟩ := valD c15
        obtain ⟨k9, hk9, rfl⟩ := valD c22
        refine kx_aload_n (pc := 28) (kx_dd d_Tc_nationOn 13 rfl) rfl rfl ?_
        refine kx_getR (pc := 29) (b := 14) fl_Tc_34 (hs.k 0 rfl) rfl (hs.r 3 rfl) (kx_dd d_Tc_nationOn 14 rfl) ?_
        refine kx_iload_n (pc := 32) (kx_dd d_Tc_nationOn 15 rfl) rfl rfl ?_
        refine kx_iload_n (pc := 33) (kx_dd d_Tc_nationOn 16 rfl) rfl rfl ?_
        refine kx_iload_n (pc := 34) (kx_dd d_Tc_nationOn 17 rfl) rfl rfl ?_
        refine kx_invV (pc := 35) (a := 14) (as := [_, _, _]) (kx_dd d_Tc_nationOn 18 rfl) ⟨lk_Tc_111, wi_Pe_nationFor, we_Pe_nationFor⟩ w_Pe_nationFor (hs.k 14 rfl) rfl rfl rfl rfl (Nat.le_of_ble_eq_true rfl) (x_Pe_nationFor (d := d + 1) hs s ho hp p9 d9 k9 (by omega) (by omega) (by omega)) (Nat.le_refl _) ⟨Nat.le_refl _, Nat.le_refl _⟩ (fun v h' hq => ?_)
        obtain ⟨rfl, he⟩ := hq
        rw [he]
        clear he
        refine kx_iret (pc := 38) rfl (kx_dd d_Tc_nationOn 19 rfl) (Nat.le_refl _) (Nat.le_refl _) ?_
        refine ⟨?_, rfl⟩
        unfold noA
        rw [if_pos ⟨c8, c15, c22⟩, nI_clamp (by omega), nI_clamp (by omega), nI_clamp (by omega)]
      · refine kx_bipush (pc := 25) (v := -2) (kx_dd d_Tc_nationOn 11 rfl) rfl ?_
        refine kx_iret (pc := 27) rfl (kx_dd d_Tc_nationOn 12 rfl) (Nat.le_refl _) (Nat.le_refl _) ?_
        rw [bP_0] at c22
        exact ⟨by unfold noA; rw [if_neg (fun z => c22 z.2.2)], rfl⟩
theorem x_Tc_deadOn {l : Launch} {g : kx_G} {d : Nat} {h : kx_Mem} (hs : SC h) (s : PS) (ho : PSok s) (hp : PSc s h) (a b c : Int32) : kx_Sp l g m_Tc_deadOn [.ref 0, .int a, .int b, .int c] h (d + 3) 0 0 (fun v h' => v = some (.int (doA s a b c)) ∧ h' = h) := by
  have e14 : h.1 14 0 = nI s.1 := hp.1
  have o1 := ho.1
  refine kx_enter_e (lv := [_, _, _, _]) (by decide +kernel) (Nat.le_of_ble_eq_true rfl) rfl ?_
  refine kx_aload_n (pc := 0) (kx_dd d_Tc_deadOn 0 rfl) rfl rfl ?_
  refine kx_getR (pc := 1) (b := 14) fl_Tc_34 (hs.k 0 rfl) rfl (hs.r 3 rfl) (kx_dd d_Tc_deadOn 1 rfl) ?_
  refine kx_iload_n (pc := 4) (kx_dd d_Tc_deadOn 2 rfl) rfl rfl ?_
  refine kx_invV (pc := 5) (a := 14) (as := [_]) (kx_dd d_Tc_deadOn 3 rfl) ⟨lk_Tc_101, wi_Pe_has, we_Pe_has⟩ w_Pe_has (hs.k 14 rfl) rfl rfl rfl rfl (Nat.le_of_ble_eq_true rfl) (x_Pe_has (d := d + 2) hs a) (Nat.le_refl _) ⟨Nat.le_refl _, Nat.le_refl _⟩ (fun v h' hq => ?_)
  obtain ⟨rfl, he⟩ := hq
  rw [he]
  clear he
  refine kx_if_eq (pc := 8) (tgt := 25) (kx_dd d_Tc_deadOn 4 rfl) rfl (fun c8 => ?_) (fun c8 => ?_)
  · refine kx_bipush (pc := 25) (v := -2) (kx_dd d_Tc_deadOn 11 rfl) rfl ?_
    refine kx_iret (pc := 27) rfl (kx_dd d_Tc_deadOn 12 rfl) (Nat.le_refl _) (Nat.le_refl _) ?_
    rw [bP_0] at c8
    rw [e14] at c8
    exact ⟨by unfold doA; rw [if_neg (fun z => c8 z.1)], rfl⟩
  · refine kx_iload_n (pc := 11) (kx_dd d_Tc_deadOn 5 rfl) rfl rfl ?_
    refine kx_invS (pc := 12) (as := [_]) (kx_dd d_Tc_deadOn 6 rfl) ⟨lk_Tc_105, wt_Tc_isDay⟩ w_Tc_isDay rfl rfl (Nat.le_of_ble_eq_true rfl) (x_Tc_isDay (d := d + 1) b) (Nat.le_refl _) ⟨Nat.le_refl _, Nat.le_refl _⟩ (fun v h' hq => ?_)
    obtain ⟨rfl, he⟩ := hq
    rw [he]
    clear he
    refine kx_if_eq (pc := 15) (tgt := 25) (kx_dd d_Tc_deadOn 7 rfl) rfl (fun c15 => ?_) (fun c15 => ?_)
    · refine kx_bipush (pc := 25) (v := -2) (kx_dd d_Tc_deadOn 11 rfl) rfl ?_
      refine kx_iret (pc := 27) rfl (kx_dd d_Tc_deadOn 12 rfl) (Nat.le_refl _) (Nat.le_refl _) ?_
      rw [bP_0] at c15
      exact ⟨by unfold doA; rw [if_neg (fun z => c15 z.2.1)], rfl⟩
    · refine kx_iload_n (pc := 18) (kx_dd d_Tc_deadOn 8 rfl) rfl rfl ?_
      refine kx_invS (pc := 19) (as := [_]) (kx_dd d_Tc_deadOn 9 rfl) ⟨lk_Tc_105, wt_Tc_isDay⟩ w_Tc_isDay rfl rfl (Nat.le_of_ble_eq_true rfl) (x_Tc_isDay (d := d + 1) c) (Nat.le_refl _) ⟨Nat.le_refl _, Nat.le_refl _⟩ (fun v h' hq => ?_)
      obtain ⟨rfl, he⟩ := hq
      rw [he]
      clear he
      refine kx_if_ne (pc := 22) (tgt := 28) (kx_dd d_Tc_deadOn 10 rfl) rfl (fun c22 => ?_) (fun c22 => ?_)
      · have c8 : 0 ≤ a ∧ a < h.1 14 0 := (bP_ti _).mp c8
        have c15 : (0 ≤ b ∧ b ≤ 1999) := (bP_ti _).mp c15
        have c22 : (0 ≤ c ∧ c ≤ 1999) := (bP_ti _).mp c22
        rw [e14] at c8
        obtain ⟨p9, hp9, rfl⟩ := valP (n := s.1) (by omega) c8
        obtain ⟨d9, hd9, rfl⟩ := valD c15
        obtain ⟨k9, hk9, rfl⟩ := valD c22
        refine kx_aload_n (pc := 28) (kx_dd d_Tc_deadOn 13 rfl) rfl rfl ?_
        refine kx_getR (pc := 29) (b := 14) fl_Tc_34 (hs.k 0 rfl) rfl (hs.r 3 rfl) (kx_dd d_Tc_deadOn 14 rfl) ?_
        refine kx_iload_n (pc := 32) (kx_dd d_Tc_deadOn 15 rfl) rfl rfl ?_
        refine kx_iload_n (pc := 33) (kx_dd d_Tc_deadOn 16 rfl) rfl rfl ?_
        refine kx_iload_n (pc := 34) (kx_dd d_Tc_deadOn 17 rfl) rfl rfl ?_
        refine kx_invV (pc := 35) (a := 14) (as := [_, _, _]) (kx_dd d_Tc_deadOn 18 rfl) ⟨lk_Tc_115, wi_Pe_isDead, we_Pe_isDead⟩ w_Pe_isDead (hs.k 14 rfl) rfl rfl rfl rfl (Nat.le_of_ble_eq_true rfl) (x_Pe_isDead (d := d + 1) hs s ho hp p9 d9 k9 (by omega) (by omega) (by omega)) (Nat.le_refl _) ⟨Nat.le_refl _, Nat.le_refl _⟩ (fun v h' hq => ?_)
        obtain ⟨rfl, he⟩ := hq
        rw [he]
        clear he
        refine kx_if_eq (pc := 38) (tgt := 45) (kx_dd d_Tc_deadOn 19 rfl) rfl (fun c38 => ?_) (fun c38 => ?_)
        · refine kx_iconst (pc := 45) (v := 0) (kx_dd d_Tc_deadOn 22 rfl) rfl ?_
          refine kx_iret (pc := 46) rfl (kx_dd d_Tc_deadOn 23 rfl) (Nat.le_refl _) (Nat.le_refl _) ?_
          refine ⟨?_, rfl⟩
          unfold doA
          rw [if_pos ⟨c8, c15, c22⟩, nI_clamp (by omega), nI_clamp (by omega), nI_clamp (by omega)]
          rw [bP_f (bP_0.mp c38)]
        · refine kx_iconst (pc := 41) (v := 1) (kx_dd d_Tc_deadOn 20 rfl) rfl ?_
          refine kx_goto (pc := 42) (tgt := 46) (kx_dd d_Tc_deadOn 21 rfl) rfl ?_
          refine kx_iret (pc := 46) rfl (kx_dd d_Tc_deadOn 23 rfl) (Nat.le_refl _) (Nat.le_refl _) ?_
          refine ⟨?_, rfl⟩
          unfold doA
          rw [if_pos ⟨c8, c15, c22⟩, nI_clamp (by omega), nI_clamp (by omega), nI_clamp (by omega)]
          rw [bP_t ((bP_ti _).mp c38)]
      · refine kx_bipush (pc := 25) (v := -2) (kx_dd d_Tc_deadOn 11 rfl) rfl ?_
        refine kx_iret (pc := 27) rfl (kx_dd d_Tc_deadOn 12 rfl) (Nat.le_refl _) (Nat.le_refl _) ?_
        rw [bP_0] at c22
        exact ⟨by unfold doA; rw [if_neg (fun z => c22 z.2.2)], rfl⟩
theorem y_nationOn {l : Launch} {g : kx_G} {d : Nat} {h : kx_Mem} (hm : SM h) (s : PS) (ho : PSok s) (hp : PSm s h) (a b c : Int32) : kx_Sp l g m_Mo_nationOn [.ref 84, .int a, .int b, .int c] h (d + 3) 0 0 (fun v h' => v = some (.int (noA s a b c)) ∧ h' = h) := by
  have o1 := ho.1
  refine kx_enter_e (lv := [_, _, _, _]) (by decide +kernel) (Nat.le_of_ble_eq_true rfl) rfl ?_
  refine kx_aload_n (pc := 0) (kx_dd d_Mo_nationOn 0 rfl) rfl rfl ?_
  refine kx_iload_n (pc := 1) (kx_dd d_Mo_nationOn 1 rfl) rfl rfl ?_
  refine kx_invV (pc := 2) (a := 84) (as := [_]) (kx_dd d_Mo_nationOn 2 rfl) ⟨lk_Mo_435, wi_Mo_isPerson, we_Mo_isPerson⟩ w_Mo_isPerson (hm.k 0 rfl) rfl rfl rfl rfl (Nat.le_of_ble_eq_true rfl) (y_isPerson (d := d + 1) hm s ho hp a) (Nat.le_refl _) ⟨Nat.le_refl _, Nat.le_refl _⟩ (fun v h' hq => ?_)
  obtain ⟨rfl, he⟩ := hq
  rw [he]
  clear he
  refine kx_if_eq (pc := 5) (tgt := 32) (kx_dd d_Mo_nationOn 3 rfl) rfl (fun c5 => ?_) (fun c5 => ?_)
  · refine kx_bipush (pc := 32) (v := -2) (kx_dd d_Mo_nationOn 16 rfl) rfl ?_
    refine kx_iret (pc := 34) rfl (kx_dd d_Mo_nationOn 17 rfl) (Nat.le_refl _) (Nat.le_refl _) ?_
    rw [bP_0] at c5
    exact ⟨by unfold noA; rw [if_neg (fun z => c5 z.1)], rfl⟩
  · refine kx_iload_n (pc := 8) (kx_dd d_Mo_nationOn 4 rfl) rfl rfl ?_
    refine kx_invS (pc := 9) (as := [_]) (kx_dd d_Mo_nationOn 5 rfl) ⟨lk_Mo_441, wt_Mo_isDay⟩ w_Mo_isDay rfl rfl (Nat.le_of_ble_eq_true rfl) (y_isDay (d := d + 1) b) (Nat.le_refl _) ⟨Nat.le_refl _, Nat.le_refl _⟩ (fun v h' hq => ?_)
    obtain ⟨rfl, he⟩ := hq
    rw [he]
    clear he
    refine kx_if_eq (pc := 12) (tgt := 32) (kx_dd d_Mo_nationOn 6 rfl) rfl (fun c12 => ?_) (fun c12 => ?_)
    · refine kx_bipush (pc := 32) (v := -2) (kx_dd d_Mo_nationOn 16 rfl) rfl ?_
      refine kx_iret (pc := 34) rfl (kx_dd d_Mo_nationOn 17 rfl) (Nat.le_refl _) (Nat.le_refl _) ?_
      rw [bP_0] at c12
      exact ⟨by unfold noA; rw [if_neg (fun z => c12 z.2.1)], rfl⟩
    · refine kx_iload_n (pc := 15) (kx_dd d_Mo_nationOn 7 rfl) rfl rfl ?_
      refine kx_invS (pc := 16) (as := [_]) (kx_dd d_Mo_nationOn 8 rfl) ⟨lk_Mo_441, wt_Mo_isDay⟩ w_Mo_isDay rfl rfl (Nat.le_of_ble_eq_true rfl) (y_isDay (d := d + 1) c) (Nat.le_refl _) ⟨Nat.le_refl _, Nat.le_refl _⟩ (fun v h' hq => ?_)
      obtain ⟨rfl, he⟩ := hq
      rw [he]
      clear he
      refine kx_if_eq (pc := 19) (tgt := 32) (kx_dd d_Mo_nationOn 9 rfl) rfl (fun c19 => ?_) (fun c19 => ?_)
      · refine kx_bipush (pc := 32) (v := -2) (kx_dd d_Mo_nationOn 16 rfl) rfl ?_
        refine kx_iret (pc := 34) rfl (kx_dd d_Mo_nationOn 17 rfl) (Nat.le_refl _) (Nat.le_refl _) ?_
        rw [bP_0] at c19
        exact ⟨by unfold noA; rw [if_neg (fun z => c19 z.2.2)], rfl⟩
      · have c5 : 0 ≤ a ∧ a < nI s.1 := (bP_ti _).mp c5
        have c12 : (0 ≤ b ∧ b ≤ 1999) := (bP_ti _).mp c12
        have c19 : (0 ≤ c ∧ c ≤ 1999) := (bP_ti _).mp c19
        obtain ⟨p9, hp9, rfl⟩ := valP (n := s.1) (by omega) c5
        obtain ⟨d9, hd9, rfl⟩ := valD c12
        obtain ⟨k9, hk9, rfl⟩ := valD c19
        refine kx_aload_n (pc := 22) (kx_dd d_Mo_nationOn 10 rfl) rfl rfl ?_
        refine kx_iload_n (pc := 23) (kx_dd d_Mo_nationOn 11 rfl) rfl rfl ?_
        refine kx_iload_n (pc := 24) (kx_dd d_Mo_nationOn 12 rfl) rfl rfl ?_
        refine kx_iload_n (pc := 25) (kx_dd d_Mo_nationOn 13 rfl) rfl rfl ?_
        refine kx_invV (pc := 26) (a := 84) (as := [_, _, _]) (kx_dd d_Mo_nationOn 14 rfl) ⟨lk_Mo_454, wi_Mo_nationFor, we_Mo_nationFor⟩ w_Mo_nationFor (hm.k 0 rfl) rfl rfl rfl rfl (Nat.le_of_ble_eq_true rfl) (y_nationFor (d := d + 1) hm s ho hp p9 d9 k9 (by omega) (by omega) (by omega)) (Nat.le_refl _) ⟨Nat.le_refl _, Nat.le_refl _⟩ (fun v h' hq => ?_)
        obtain ⟨rfl, he⟩ := hq
        rw [he]
        clear he
        refine kx_goto (pc := 29) (tgt := 34) (kx_dd d_Mo_nationOn 15 rfl) rfl ?_
        refine kx_iret (pc := 34) rfl (kx_dd d_Mo_nationOn 17 rfl) (Nat.le_refl _) (Nat.le_refl _) ?_
        refine ⟨?_, rfl⟩
        unfold noA
        rw [if_pos ⟨c5, c12, c19⟩, nI_clamp (by omega), nI_clamp (by omega), nI_clamp (by omega)]
theorem y_deadOn {l : Launch} {g : kx_G} {d : Nat} {h : kx_Mem} (hm : SM h) (s : PS) (ho : PSok s) (hp : PSm s h) (a b c : Int32) : kx_Sp l g m_Mo_deadOn [.ref 84, .int a, .int b, .int c] h (d + 3) 0 0 (fun v h' => v = some (.int (doA s a b c)) ∧ h' = h) := by
  have o1 := ho.1
  refine kx_enter_e (lv := [_, _, _, _]) (by decide +kernel) (Nat.le_of_ble_eq_true rfl) rfl ?_
  refine kx_aload_n (pc := 0) (kx_dd d_Mo_deadOn 0 rfl) rfl rfl ?_
  refine kx_iload_n (pc := 1) (kx_dd d_Mo_deadOn 1 rfl) rfl rfl ?_
  refine kx_invV (pc := 2) (a := 84) (as := [_]) (kx_dd d_Mo_deadOn 2 rfl) ⟨lk_Mo_435, wi_Mo_isPerson, we_Mo_isPerson⟩ w_Mo_isPerson (hm.k 0 rfl) rfl rfl rfl rfl (Nat.le_of_ble_eq_true rfl) (y_isPerson (d := d + 1) hm s ho hp a) (Nat.le_refl _) ⟨Nat.le_refl _, Nat.le_refl _⟩ (fun v h' hq => ?_)
  obtain ⟨rfl, he⟩ := hq
  rw [he]
  clear he
  refine kx_if_eq (pc := 5) (tgt := 22) (kx_dd d_Mo_deadOn 3 rfl) rfl (fun c5 => ?_) (fun c5 => ?_)
  · refine kx_bipush (pc := 22) (v := -2) (kx_dd d_Mo_deadOn 10 rfl) rfl ?_
    refine kx_goto (pc := 24) (tgt := 42) (kx_dd d_Mo_deadOn 11 rfl) rfl ?_
    refine kx_iret (pc := 42) rfl (kx_dd d_Mo_deadOn 21 rfl) (Nat.le_refl _) (Nat.le_refl _) ?_
    rw [bP_0] at c5
    exact ⟨by unfold doA; rw [if_neg (fun z => c5 z.1)], rfl⟩
  · refine kx_iload_n (pc := 8) (kx_dd d_Mo_deadOn 4 rfl) rfl rfl ?_
    refine kx_invS (pc := 9) (as := [_]) (kx_dd d_Mo_deadOn 5 rfl) ⟨lk_Mo_441, wt_Mo_isDay⟩ w_Mo_isDay rfl rfl (Nat.le_of_ble_eq_true rfl) (y_isDay (d := d + 1) b) (Nat.le_refl _) ⟨Nat.le_refl _, Nat.le_refl _⟩ (fun v h' hq => ?_)
    obtain ⟨rfl, he⟩ := hq
    rw [he]
    clear he
    refine kx_if_eq (pc := 12) (tgt := 22) (kx_dd d_Mo_deadOn 6 rfl) rfl (fun c12 => ?_) (fun c12 => ?_)
    · refine kx_bipush (pc := 22) (v := -2) (kx_dd d_Mo_deadOn 10 rfl) rfl ?_
      refine kx_goto (pc := 24) (tgt := 42) (kx_dd d_Mo_deadOn 11 rfl) rfl ?_
      refine kx_iret (pc := 42) rfl (kx_dd d_Mo_deadOn 21 rfl) (Nat.le_refl _) (Nat.le_refl _) ?_
      rw [bP_0] at c12
      exact ⟨by unfold doA; rw [if_neg (fun z => c12 z.2.1)], rfl⟩
    · refine kx_iload_n (pc := 15) (kx_dd d_Mo_deadOn 7 rfl) rfl rfl ?_
      refine kx_invS (pc := 16) (as := [_]) (kx_dd d_Mo_deadOn 8 rfl) ⟨lk_Mo_441, wt_Mo_isDay⟩ w_Mo_isDay rfl rfl (Nat.le_of_ble_eq_true rfl) (y_isDay (d := d + 1) c) (Nat.le_refl _) ⟨Nat.le_refl _, Nat.le_refl _⟩ (fun v h' hq => ?_)
      obtain ⟨rfl, he⟩ := hq
      rw [he]
      clear he
      refine kx_if_ne (pc := 19) (tgt := 27) (kx_dd d_Mo_deadOn 9 rfl) rfl (fun c19 => ?_) (fun c19 => ?_)
      · have c5 : 0 ≤ a ∧ a < nI s.1 := (bP_ti _).mp c5
        have c12 : (0 ≤ b ∧ b ≤ 1999) := (bP_ti _).mp c12
        have c19 : (0 ≤ c ∧ c ≤ 1999) := (bP_ti _).mp c19
        obtain ⟨p9, hp9, rfl⟩ := valP (n := s.1) (by omega) c5
        obtain ⟨d9, hd9, rfl⟩ := valD c12
        obtain ⟨k9, hk9, rfl⟩ := valD c19
        refine kx_aload_n (pc := 27) (kx_dd d_Mo_deadOn 12 rfl) rfl rfl ?_
        refine kx_iload_n (pc := 28) (kx_dd d_Mo_deadOn 13 rfl) rfl rfl ?_
        refine kx_iload_n (pc := 29) (kx_dd d_Mo_deadOn 14 rfl) rfl rfl ?_
        refine kx_iload_n (pc := 30) (kx_dd d_Mo_deadOn 15 rfl) rfl rfl ?_
        refine kx_invV (pc := 31) (a := 84) (as := [_, _, _]) (kx_dd d_Mo_deadOn 16 rfl) ⟨lk_Mo_458, wi_Mo_isDead, we_Mo_isDead⟩ w_Mo_isDead (hm.k 0 rfl) rfl rfl rfl rfl (Nat.le_of_ble_eq_true rfl) (y_isDead (d := d + 1) hm s ho hp p9 d9 k9 (by omega) (by omega) (by omega)) (Nat.le_refl _) ⟨Nat.le_refl _, Nat.le_refl _⟩ (fun v h' hq => ?_)
        obtain ⟨rfl, he⟩ := hq
        rw [he]
        clear he
        refine kx_if_eq (pc := 34) (tgt := 41) (kx_dd d_Mo_deadOn 17 rfl) rfl (fun c34 => ?_) (fun c34 => ?_)
        · refine kx_iconst (pc := 41) (v := 0) (kx_dd d_Mo_deadOn 20 rfl) rfl ?_
          refine kx_iret (pc := 42) rfl (kx_dd d_Mo_deadOn 21 rfl) (Nat.le_refl _) (Nat.le_refl _) ?_
          refine ⟨?_, rfl⟩
          unfold doA
          rw [if_pos ⟨c5, c12, c19⟩, nI_clamp (by omega), nI_clamp (by omega), nI_clamp (by omega)]
          rw [bP_f (bP_0.mp c34)]
        · refine kx_iconst (pc := 37) (v := 1) (kx_dd d_Mo_deadOn 18 rfl) rfl ?_
          refine kx_goto (pc := 38) (tgt := 42) (kx_dd d_Mo_deadOn 19 rfl) rfl ?_
          refine kx_iret (pc := 42) rfl (kx_dd d_Mo_deadOn 21 rfl) (Nat.le_refl _) (Nat.le_refl _) ?_
          refine ⟨?_, rfl⟩
          unfold doA
          rw [if_pos ⟨c5, c12, c19⟩, nI_clamp (by omega), nI_clamp (by omega), nI_clamp (by omega)]
          rw [bP_t ((bP_ti _).mp c34)]
      · refine kx_bipush (pc := 22) (v := -2) (kx_dd d_Mo_deadOn 10 rfl) rfl ?_
        refine kx_goto (pc := 24) (tgt := 42) (kx_dd d_Mo_deadOn 11 rfl) rfl ?_
        refine kx_iret (pc := 42) rfl (kx_dd d_Mo_deadOn 21 rfl) (Nat.le_refl _) (Nat.le_refl _) ?_
        rw [bP_0] at c19
        exact ⟨by unfold doA; rw [if_neg (fun z => c19 z.2.2)], rfl⟩
theorem x_Tc_rateOn {l : Launch} {g : kx_G} {d : Nat} {h : kx_Mem} (hs : SC h) (s : RS) (ho : RSok s) (hp : RSc s h) (a b : Int32) : kx_Sp l g m_Tc_rateOn [.ref 0, .int a, .int b] h (d + 2) 0 0 (fun v h' => v = some (.int (roA s a b)) ∧ h' = h) := by
  refine kx_enter_e (lv := [_, _, _]) (by decide +kernel) (Nat.le_of_ble_eq_true rfl) rfl ?_
  refine kx_iload_n (pc := 0) (kx_dd d_Tc_rateOn 0 rfl) rfl rfl ?_
  refine kx_iconst (pc := 1) (v := 0) (kx_dd d_Tc_rateOn 1 rfl) rfl ?_
  refine kx_iconst (pc := 2) (v := 3) (kx_dd d_Tc_rateOn 2 rfl) rfl ?_
  refine kx_invS (pc := 3) (as := [_, _, _]) (kx_dd d_Tc_rateOn 3 rfl) ⟨lk_Tc_90, wt_Tc_within⟩ w_Tc_within rfl rfl (Nat.le_of_ble_eq_true rfl) (x_Tc_within (d := d + 1) a 0 3) (Nat.le_refl _) ⟨Nat.le_refl _, Nat.le_refl _⟩ (fun v h' hq => ?_)
  obtain ⟨rfl, he⟩ := hq
  rw [he]
  clear he
  refine kx_if_eq (pc := 6) (tgt := 16) (kx_dd d_Tc_rateOn 4 rfl) rfl (fun c6 => ?_) (fun c6 => ?_)
  · refine kx_bipush (pc := 16) (v := -2) (kx_dd d_Tc_rateOn 8 rfl) rfl ?_
    refine kx_iret (pc := 18) rfl (kx_dd d_Tc_rateOn 9 rfl) (Nat.le_refl _) (Nat.le_refl _) ?_
    rw [bP_0] at c6
    exact ⟨by unfold roA; rw [if_neg (fun z => c6 z.1)], rfl⟩
  · refine kx_iload_n (pc := 9) (kx_dd d_Tc_rateOn 5 rfl) rfl rfl ?_
    refine kx_invS (pc := 10) (as := [_]) (kx_dd d_Tc_rateOn 6 rfl) ⟨lk_Tc_105, wt_Tc_isDay⟩ w_Tc_isDay rfl rfl (Nat.le_of_ble_eq_true rfl) (x_Tc_isDay (d := d) b) (Nat.le_refl _) ⟨Nat.le_refl _, Nat.le_refl _⟩ (fun v h' hq => ?_)
    obtain ⟨rfl, he⟩ := hq
    rw [he]
    clear he
    refine kx_if_ne (pc := 13) (tgt := 19) (kx_dd d_Tc_rateOn 7 rfl) rfl (fun c13 => ?_) (fun c13 => ?_)
    · have c6 : 0 ≤ a ∧ a ≤ 3 := (bP_ti _).mp c6
      have c13 : (0 ≤ b ∧ b ≤ 1999) := (bP_ti _).mp c13
      obtain ⟨p9, hp9, rfl⟩ := val3 c6
      obtain ⟨d9, hd9, rfl⟩ := valD c13
      refine kx_aload_n (pc := 19) (kx_dd d_Tc_rateOn 10 rfl) rfl rfl ?_
      refine kx_getR (pc := 20) (b := 30) fl_Tc_41 (hs.k 0 rfl) rfl (hs.r 4 rfl) (kx_dd d_Tc_rateOn 11 rfl) ?_
      refine kx_iload_n (pc := 23) (kx_dd d_Tc_rateOn 12 rfl) rfl rfl ?_
      refine kx_iload_n (pc := 24) (kx_dd d_Tc_rateOn 13 rfl) rfl rfl ?_
      refine kx_invV (pc := 25) (a := 30) (as := [_, _]) (kx_dd d_Tc_rateOn 14 rfl) ⟨lk_Tc_125, wi_Ra_penceFor, we_Ra_penceFor⟩ w_Ra_penceFor (hs.k 30 rfl) rfl rfl rfl rfl (Nat.le_of_ble_eq_true rfl) (x_Ra_penceFor (d := d + 1) hs s ho hp p9 d9 (by omega) (by omega)) (Nat.le_refl _) ⟨Nat.le_refl _, Nat.le_refl _⟩ (fun v h' hq => ?_)
      obtain ⟨rfl, he⟩ := hq
      rw [he]
      clear he
      refine kx_iret (pc := 28) rfl (kx_dd d_Tc_rateOn 15 rfl) (Nat.le_refl _) (Nat.le_refl _) ?_
      refine ⟨?_, rfl⟩
      unfold roA
      rw [if_pos ⟨c6, c13⟩, nI_clamp (by omega), nI_clamp (by omega)]
    · refine kx_bipush (pc := 16) (v := -2) (kx_dd d_Tc_rateOn 8 rfl) rfl ?_
      refine kx_iret (pc := 18) rfl (kx_dd d_Tc_rateOn 9 rfl) (Nat.le_refl _) (Nat.le_refl _) ?_
      rw [bP_0] at c13
      exact ⟨by unfold roA; rw [if_neg (fun z => c13 z.2)], rfl⟩
theorem y_rateOn {l : Launch} {g : kx_G} {d : Nat} {h : kx_Mem} (hm : SM h) (s : RS) (ho : RSok s) (hp : RSm s h) (a b : Int32) : kx_Sp l g m_Mo_rateOn [.ref 84, .int a, .int b] h (d + 2) 0 0 (fun v h' => v = some (.int (roA s a b)) ∧ h' = h) := by
  refine kx_enter_e (lv := [_, _, _]) (by decide +kernel) (Nat.le_of_ble_eq_true rfl) rfl ?_
  refine kx_iload_n (pc := 0) (kx_dd d_Mo_rateOn 0 rfl) rfl rfl ?_
  refine kx_i2l (pc := 1) (kx_dd d_Mo_rateOn 1 rfl) ?_
  refine kx_lconst (pc := 2) (v := 0) (kx_dd d_Mo_rateOn 2 rfl) rfl ?_
  refine kx_ldc2 (pc := 3) kl_Mo_234 (kx_dd d_Mo_rateOn 3 rfl) ?_
  refine kx_invS (pc := 6) (as := [_, _, _]) (kx_dd d_Mo_rateOn 4 rfl) ⟨lk_Mo_5, wt_Mo_in⟩ w_Mo_in rfl rfl (Nat.le_of_ble_eq_true rfl) (y_in (d := d + 1) _ _ _) (Nat.le_refl _) ⟨Nat.le_refl _, Nat.le_refl _⟩ (fun v h' hq => ?_)
  obtain ⟨rfl, he⟩ := hq
  rw [he]
  clear he
  refine kx_if_eq (pc := 9) (tgt := 28) (kx_dd d_Mo_rateOn 5 rfl) rfl (fun c9 => ?_) (fun c9 => ?_)
  · refine kx_bipush (pc := 28) (v := -2) (kx_dd d_Mo_rateOn 14 rfl) rfl ?_
    refine kx_iret (pc := 30) rfl (kx_dd d_Mo_rateOn 15 rfl) (Nat.le_refl _) (Nat.le_refl _) ?_
    rw [bP_0] at c9
    rw [w_le0, show (3 : Int64) = (3 : Int32).toInt64 by decide, w_le] at c9
    exact ⟨by unfold roA; rw [if_neg (fun z => c9 z.1)], rfl⟩
  · refine kx_iload_n (pc := 12) (kx_dd d_Mo_rateOn 6 rfl) rfl rfl ?_
    refine kx_invS (pc := 13) (as := [_]) (kx_dd d_Mo_rateOn 7 rfl) ⟨lk_Mo_441, wt_Mo_isDay⟩ w_Mo_isDay rfl rfl (Nat.le_of_ble_eq_true rfl) (y_isDay (d := d) b) (Nat.le_refl _) ⟨Nat.le_refl _, Nat.le_refl _⟩ (fun v h' hq => ?_)
    obtain ⟨rfl, he⟩ := hq
    rw [he]
    clear he
    refine kx_if_eq (pc := 16) (tgt := 28) (kx_dd d_Mo_rateOn 8 rfl) rfl (fun c16 => ?_) (fun c16 => ?_)
    · refine kx_bipush (pc := 28) (v := -2) (kx_dd d_Mo_rateOn 14 rfl) rfl ?_
      refine kx_iret (pc := 30) rfl (kx_dd d_Mo_rateOn 15 rfl) (Nat.le_refl _) (Nat.le_refl _) ?_
      rw [bP_0] at c16
      exact ⟨by unfold roA; rw [if_neg (fun z => c16 z.2)], rfl⟩
    · have c9 : (0 : Int64) ≤ a.toInt64 ∧ a.toInt64 ≤ 3 := (bP_ti _).mp c9
      have c16 : (0 ≤ b ∧ b ≤ 1999) := (bP_ti _).mp c16
      rw [w_le0, show (3 : Int64) = (3 : Int32).toInt64 by decide, w_le] at c9
      obtain ⟨p9, hp9, rfl⟩ := val3 c9
      obtain ⟨d9, hd9, rfl⟩ := valD c16
      refine kx_aload_n (pc := 19) (kx_dd d_Mo_rateOn 9 rfl) rfl rfl ?_
      refine kx_iload_n (pc := 20) (kx_dd d_Mo_rateOn 10 rfl) rfl rfl ?_
      refine kx_iload_n (pc := 21) (kx_dd d_Mo_rateOn 11 rfl) rfl rfl ?_
      refine kx_invV (pc := 22) (a := 84) (as := [_, _]) (kx_dd d_Mo_rateOn 12 rfl) ⟨lk_Mo_473, wi_Mo_rateFor, we_Mo_rateFor⟩ w_Mo_rateFor (hm.k 0 rfl) rfl rfl rfl rfl (Nat.le_of_ble_eq_true rfl) (y_rateFor (d := d + 1) hm s ho hp p9 d9 (by omega) (by omega)) (Nat.le_refl _) ⟨Nat.le_refl _, Nat.le_refl _⟩ (fun v h' hq => ?_)
      obtain ⟨rfl, he⟩ := hq
      rw [he]
      clear he
      refine kx_goto (pc := 25) (tgt := 30) (kx_dd d_Mo_rateOn 13 rfl) rfl ?_
      refine kx_iret (pc := 30) rfl (kx_dd d_Mo_rateOn 15 rfl) (Nat.le_refl _) (Nat.le_refl _) ?_
      refine ⟨?_, rfl⟩
      unfold roA
      rw [if_pos ⟨c9, c16⟩, nI_clamp (by omega), nI_clamp (by omega)]
theorem x_Tc_pass {l : Launch} {g : kx_G} {d : Nat} {h : kx_Mem} (hs : SC h) (q : Int32) : kx_Sp l g m_Tc_pass [.ref 0, .int q] h (d + 1) 0 0 (fun v h' => ((1 ≤ q ∧ q ≤ 500) ∧ h.1 0 9 + q ≤ 1999 ∧ v = some (.int (h.1 0 9 + q)) ∧ h' = kx_setI h 0 9 (h.1 0 9 + q)) ∨ (¬ ((1 ≤ q ∧ q ≤ 500) ∧ h.1 0 9 + q ≤ 1999) ∧ v = some (.int (-2)) ∧ h' = h)) := by
  refine kx_enter_e (lv := [_, _]) (by decide +kernel) (Nat.le_of_ble_eq_true rfl) rfl ?_
  refine kx_iload_n (pc := 0) (kx_dd d_Tc_pass 0 rfl) rfl rfl ?_
  refine kx_iconst (pc := 1) (v := 1) (kx_dd d_Tc_pass 1 rfl) rfl ?_
  refine kx_sipush (pc := 2) (v := 500) (kx_dd d_Tc_pass 2 rfl) rfl ?_
  refine kx_invS (pc := 5) (as := [_, _, _]) (kx_dd d_Tc_pass 3 rfl) ⟨lk_Tc_90, wt_Tc_within⟩ w_Tc_within rfl rfl (Nat.le_of_ble_eq_true rfl) (x_Tc_within (d := d) q 1 500) (Nat.le_refl _) ⟨Nat.le_refl _, Nat.le_refl _⟩ (fun v h' hq => ?_)
  obtain ⟨rfl, he⟩ := hq
  rw [he]
  clear he
  refine kx_if_eq (pc := 8) (tgt := 23) (kx_dd d_Tc_pass 4 rfl) rfl (fun c8 => ?_) (fun c8 => ?_)
  · refine kx_bipush (pc := 23) (v := -2) (kx_dd d_Tc_pass 11 rfl) rfl ?_
    refine kx_iret (pc := 25) rfl (kx_dd d_Tc_pass 12 rfl) (Nat.le_refl _) (Nat.le_refl _) ?_
    rw [bP_0] at c8
    exact Or.inr ⟨fun z => c8 z.1, rfl, rfl⟩
  · refine kx_aload_n (pc := 11) (kx_dd d_Tc_pass 5 rfl) rfl rfl ?_
    refine kx_getI (pc := 12) fl_Tc_94 (hs.k 0 rfl) rfl (kx_dd d_Tc_pass 6 rfl) ?_
    refine kx_iload_n (pc := 15) (kx_dd d_Tc_pass 7 rfl) rfl rfl ?_
    refine kx_iadd (pc := 16) (kx_dd d_Tc_pass 8 rfl) ?_
    refine kx_sipush (pc := 17) (v := 1999) (kx_dd d_Tc_pass 9 rfl) rfl ?_
    refine kx_icmp_le (pc := 20) (tgt := 26) (kx_dd d_Tc_pass 10 rfl) rfl (fun c20 => ?_) (fun c20 => ?_)
    · refine kx_aload_n (pc := 26) (kx_dd d_Tc_pass 13 rfl) rfl rfl ?_
      refine kx_dup (pc := 27) (kx_dd d_Tc_pass 14 rfl) rfl ?_
      refine kx_getI (pc := 28) fl_Tc_94 (hs.k 0 rfl) rfl (kx_dd d_Tc_pass 15 rfl) ?_
      refine kx_iload_n (pc := 31) (kx_dd d_Tc_pass 16 rfl) rfl rfl ?_
      refine kx_iadd (pc := 32) (kx_dd d_Tc_pass 17 rfl) ?_
      refine kx_putI (pc := 33) fl_Tc_94 (hs.k 0 rfl) (by decide) rfl rfl (kx_dd d_Tc_pass 18 rfl) ?_
      refine kx_aload_n (pc := 36) (kx_dd d_Tc_pass 19 rfl) rfl rfl ?_
      refine kx_getI (pc := 37) fl_Tc_94 (hs.k 0 rfl) rfl (kx_dd d_Tc_pass 20 rfl) ?_
      refine kx_iret (pc := 40) rfl (kx_dd d_Tc_pass 21 rfl) (Nat.le_refl _) (Nat.le_refl _) ?_
      have c8 := (bP_ti _).mp c8
      exact Or.inl ⟨c8, c20, by rw [setI_at], rfl⟩
    · refine kx_bipush (pc := 23) (v := -2) (kx_dd d_Tc_pass 11 rfl) rfl ?_
      refine kx_iret (pc := 25) rfl (kx_dd d_Tc_pass 12 rfl) (Nat.le_refl _) (Nat.le_refl _) ?_
      exact Or.inr ⟨fun z => c20 z.2, rfl, rfl⟩
theorem y_pass {l : Launch} {g : kx_G} {d : Nat} {h : kx_Mem} (hm : SM h) (q : Int32) : kx_Sp l g m_Mo_pass [.ref 84, .int q] h (d + 1) 0 0 (fun v h' => ((1 ≤ q ∧ q ≤ 500) ∧ h.1 84 36 + q ≤ 1999 ∧ v = some (.int (h.1 84 36 + q)) ∧ h' = kx_setI h 84 36 (h.1 84 36 + q)) ∨ (¬ ((1 ≤ q ∧ q ≤ 500) ∧ h.1 84 36 + q ≤ 1999) ∧ v = some (.int (-2)) ∧ h' = h)) := by
  refine kx_enter_e (lv := [_, _]) (by decide +kernel) (Nat.le_of_ble_eq_true rfl) rfl ?_
  refine kx_iload_n (pc := 0) (kx_dd d_Mo_pass 0 rfl) rfl rfl ?_
  refine kx_i2l (pc := 1) (kx_dd d_Mo_pass 1 rfl) ?_
  refine kx_lconst (pc := 2) (v := 1) (kx_dd d_Mo_pass 2 rfl) rfl ?_
  refine kx_ldc2 (pc := 3) kl_Mo_424 (kx_dd d_Mo_pass 3 rfl) ?_
  refine kx_invS (pc := 6) (as := [_, _, _]) (kx_dd d_Mo_pass 4 rfl) ⟨lk_Mo_5, wt_Mo_in⟩ w_Mo_in rfl rfl (Nat.le_of_ble_eq_true rfl) (y_in (d := d) _ _ _) (Nat.le_refl _) ⟨Nat.le_refl _, Nat.le_refl _⟩ (fun v h' hq => ?_)
  obtain ⟨rfl, he⟩ := hq
  rw [he]
  clear he
  refine kx_if_eq (pc := 9) (tgt := 24) (kx_dd d_Mo_pass 5 rfl) rfl (fun c9 => ?_) (fun c9 => ?_)
  · refine kx_bipush (pc := 24) (v := -2) (kx_dd d_Mo_pass 12 rfl) rfl ?_
    refine kx_iret (pc := 26) rfl (kx_dd d_Mo_pass 13 rfl) (Nat.le_refl _) (Nat.le_refl _) ?_
    rw [bP_0] at c9
    rw [show (1 : Int64) = (1 : Int32).toInt64 by decide, w_le, show (500 : Int64) = (500 : Int32).toInt64 by decide, w_le] at c9
    exact Or.inr ⟨fun z => c9 z.1, rfl, rfl⟩
  · refine kx_aload_n (pc := 12) (kx_dd d_Mo_pass 6 rfl) rfl rfl ?_
    refine kx_getI (pc := 13) fl_Mo_426 (hm.k 0 rfl) rfl (kx_dd d_Mo_pass 7 rfl) ?_
    refine kx_iload_n (pc := 16) (kx_dd d_Mo_pass 8 rfl) rfl rfl ?_
    refine kx_iadd (pc := 17) (kx_dd d_Mo_pass 9 rfl) ?_
    refine kx_sipush (pc := 18) (v := 1999) (kx_dd d_Mo_pass 10 rfl) rfl ?_
    refine kx_icmp_le (pc := 21) (tgt := 27) (kx_dd d_Mo_pass 11 rfl) rfl (fun c21 => ?_) (fun c21 => ?_)
    · refine kx_aload_n (pc := 27) (kx_dd d_Mo_pass 14 rfl) rfl rfl ?_
      refine kx_dup (pc := 28) (kx_dd d_Mo_pass 15 rfl) rfl ?_
      refine kx_getI (pc := 29) fl_Mo_426 (hm.k 0 rfl) rfl (kx_dd d_Mo_pass 16 rfl) ?_
      refine kx_iload_n (pc := 32) (kx_dd d_Mo_pass 17 rfl) rfl rfl ?_
      refine kx_iadd (pc := 33) (kx_dd d_Mo_pass 18 rfl) ?_
      refine kx_putI (pc := 34) fl_Mo_426 (hm.k 0 rfl) (by decide) rfl rfl (kx_dd d_Mo_pass 19 rfl) ?_
      refine kx_aload_n (pc := 37) (kx_dd d_Mo_pass 20 rfl) rfl rfl ?_
      refine kx_getI (pc := 38) fl_Mo_426 (hm.k 0 rfl) rfl (kx_dd d_Mo_pass 21 rfl) ?_
      refine kx_iret (pc := 41) rfl (kx_dd d_Mo_pass 22 rfl) (Nat.le_refl _) (Nat.le_refl _) ?_
      have c9 := (bP_ti _).mp c9
      rw [show (1 : Int64) = (1 : Int32).toInt64 by decide, w_le, show (500 : Int64) = (500 : Int32).toInt64 by decide, w_le] at c9
      exact Or.inl ⟨c9, c21, by rw [setI_at], rfl⟩
    · refine kx_bipush (pc := 24) (v := -2) (kx_dd d_Mo_pass 12 rfl) rfl ?_
      refine kx_iret (pc := 26) rfl (kx_dd d_Mo_pass 13 rfl) (Nat.le_refl _) (Nat.le_refl _) ?_
      exact Or.inr ⟨fun z => c21 z.2, rfl, rfl⟩
theorem x_Tc_sides {l : Launch} {g : kx_G} {d : Nat} {h : kx_Mem} (hs : SC h) (a b : Int32) : kx_Sp l g m_Tc_sides [.ref 0, .int a, .int b] h (d + 1) 0 0 (fun v h' => (((0 ≤ a ∧ a ≤ 3) ∧ (0 ≤ b ∧ b ≤ 3) ∧ a ≠ b) ∧ v = some (.int 1) ∧ h' = kx_setI (kx_setI h 0 11 a) 0 12 b) ∨ (¬ ((0 ≤ a ∧ a ≤ 3) ∧ (0 ≤ b ∧ b ≤ 3) ∧ a ≠ b) ∧ v = some (.int (-2)) ∧ h' = h)) := by
  refine kx_enter_e (lv := [_, _, _]) (by decide +kernel) (Nat.le_of_ble_eq_true rfl) rfl ?_
  refine kx_iload_n (pc := 0) (kx_dd d_Tc_sides 0 rfl) rfl rfl ?_
  refine kx_iconst (pc := 1) (v := 0) (kx_dd d_Tc_sides 1 rfl) rfl ?_
  refine kx_iconst (pc := 2) (v := 3) (kx_dd d_Tc_sides 2 rfl) rfl ?_
  refine kx_invS (pc := 3) (as := [_, _, _]) (kx_dd d_Tc_sides 3 rfl) ⟨lk_Tc_90, wt_Tc_within⟩ w_Tc_within rfl rfl (Nat.le_of_ble_eq_true rfl) (x_Tc_within (d := d) a 0 3) (Nat.le_refl _) ⟨Nat.le_refl _, Nat.le_refl _⟩ (fun v h' hq => ?_)
  obtain ⟨rfl, he⟩ := hq
  rw [he]
  clear he
  refine kx_if_eq (pc := 6) (tgt := 23) (kx_dd d_Tc_sides 4 rfl) rfl (fun c6 => ?_) (fun c6 => ?_)
  · refine kx_bipush (pc := 23) (v := -2) (kx_dd d_Tc_sides 13 rfl) rfl ?_
    refine kx_iret (pc := 25) rfl (kx_dd d_Tc_sides 14 rfl) (Nat.le_refl _) (Nat.le_refl _) ?_
    exact Or.inr ⟨fun z => bP_0.mp c6 z.1, rfl, rfl⟩
  · refine kx_iload_n (pc := 9) (kx_dd d_Tc_sides 5 rfl) rfl rfl ?_
    refine kx_iconst (pc := 10) (v := 0) (kx_dd d_Tc_sides 6 rfl) rfl ?_
    refine kx_iconst (pc := 11) (v := 3) (kx_dd d_Tc_sides 7 rfl) rfl ?_
    refine kx_invS (pc := 12) (as := [_, _, _]) (kx_dd d_Tc_sides 8 rfl) ⟨lk_Tc_90, wt_Tc_within⟩ w_Tc_within rfl rfl (Nat.le_of_ble_eq_true rfl) (x_Tc_within (d := d) b 0 3) (Nat.le_refl _) ⟨Nat.le_refl _, Nat.le_refl _⟩ (fun v h' hq => ?_)
    obtain ⟨rfl, he⟩ := hq
    rw [he]
    clear he
    refine kx_if_eq (pc := 15) (tgt := 23) (kx_dd d_Tc_sides 9 rfl) rfl (fun c15 => ?_) (fun c15 => ?_)
    · refine kx_bipush (pc := 23) (v := -2) (kx_dd d_Tc_sides 13 rfl) rfl ?_
      refine kx_iret (pc := 25) rfl (kx_dd d_Tc_sides 14 rfl) (Nat.le_refl _) (Nat.le_refl _) ?_
      exact Or.inr ⟨fun z => bP_0.mp c15 z.2.1, rfl, rfl⟩
    · refine kx_iload_n (pc := 18) (kx_dd d_Tc_sides 10 rfl) rfl rfl ?_
      refine kx_iload_n (pc := 19) (kx_dd d_Tc_sides 11 rfl) rfl rfl ?_
      refine kx_icmp_ne (pc := 20) (tgt := 26) (kx_dd d_Tc_sides 12 rfl) rfl (fun c20 => ?_) (fun c20 => ?_)
      · refine kx_aload_n (pc := 26) (kx_dd d_Tc_sides 15 rfl) rfl rfl ?_
        refine kx_iload_n (pc := 27) (kx_dd d_Tc_sides 16 rfl) rfl rfl ?_
        refine kx_putI (pc := 28) fl_Tc_129 (hs.k 0 rfl) (by decide) rfl rfl (kx_dd d_Tc_sides 17 rfl) ?_
        refine kx_aload_n (pc := 31) (kx_dd d_Tc_sides 18 rfl) rfl rfl ?_
        refine kx_iload_n (pc := 32) (kx_dd d_Tc_sides 19 rfl) rfl rfl ?_
        refine kx_putI (pc := 33) fl_Tc_78 (hs.k 0 rfl) (by decide) rfl rfl (kx_dd d_Tc_sides 20 rfl) ?_
        refine kx_iconst (pc := 36) (v := 1) (kx_dd d_Tc_sides 21 rfl) rfl ?_
        refine kx_iret (pc := 37) rfl (kx_dd d_Tc_sides 22 rfl) (Nat.le_refl _) (Nat.le_refl _) ?_
        exact Or.inl ⟨⟨(bP_ti _).mp c6, (bP_ti _).mp c15, c20⟩, rfl, rfl⟩
      · refine kx_bipush (pc := 23) (v := -2) (kx_dd d_Tc_sides 13 rfl) rfl ?_
        refine kx_iret (pc := 25) rfl (kx_dd d_Tc_sides 14 rfl) (Nat.le_refl _) (Nat.le_refl _) ?_
        exact Or.inr ⟨fun z => z.2.2 c20, rfl, rfl⟩
theorem y_sides {l : Launch} {g : kx_G} {d : Nat} {h : kx_Mem} (hm : SM h) (a b : Int32) : kx_Sp l g m_Mo_sides [.ref 84, .int a, .int b] h (d + 2) 0 0 (fun v h' => (((0 ≤ a ∧ a ≤ 3) ∧ (0 ≤ b ∧ b ≤ 3) ∧ a ≠ b) ∧ v = some (.int 1) ∧ h' = kx_setI (kx_setI h 84 37 a) 84 38 b) ∨ (¬ ((0 ≤ a ∧ a ≤ 3) ∧ (0 ≤ b ∧ b ≤ 3) ∧ a ≠ b) ∧ v = some (.int (-2)) ∧ h' = h)) := by
  refine kx_enter_e (lv := [_, _, _]) (by decide +kernel) (Nat.le_of_ble_eq_true rfl) rfl ?_
  refine kx_iload_n (pc := 0) (kx_dd d_Mo_sides 0 rfl) rfl rfl ?_
  refine kx_invS (pc := 1) (as := [_]) (kx_dd d_Mo_sides 1 rfl) ⟨lk_Mo_438, wt_Mo_isNation⟩ w_Mo_isNation rfl rfl (Nat.le_of_ble_eq_true rfl) (y_isNation (d := d) a) (Nat.le_refl _) ⟨Nat.le_refl _, Nat.le_refl _⟩ (fun v h' hq => ?_)
  obtain ⟨rfl, he⟩ := hq
  rw [he]
  clear he
  refine kx_if_eq (pc := 4) (tgt := 19) (kx_dd d_Mo_sides 2 rfl) rfl (fun c4 => ?_) (fun c4 => ?_)
  · refine kx_bipush (pc := 19) (v := -2) (kx_dd d_Mo_sides 9 rfl) rfl ?_
    refine kx_iret (pc := 21) rfl (kx_dd d_Mo_sides 10 rfl) (Nat.le_refl _) (Nat.le_refl _) ?_
    exact Or.inr ⟨fun z => bP_0.mp c4 z.1, rfl, rfl⟩
  · refine kx_iload_n (pc := 7) (kx_dd d_Mo_sides 3 rfl) rfl rfl ?_
    refine kx_invS (pc := 8) (as := [_]) (kx_dd d_Mo_sides 4 rfl) ⟨lk_Mo_438, wt_Mo_isNation⟩ w_Mo_isNation rfl rfl (Nat.le_of_ble_eq_true rfl) (y_isNation (d := d) b) (Nat.le_refl _) ⟨Nat.le_refl _, Nat.le_refl _⟩ (fun v h' hq => ?_)
    obtain ⟨rfl, he⟩ := hq
    rw [he]
    clear he
    refine kx_if_eq (pc := 11) (tgt := 19) (kx_dd d_Mo_sides 5 rfl) rfl (fun c11 => ?_) (fun c11 => ?_)
    · refine kx_bipush (pc := 19) (v := -2) (kx_dd d_Mo_sides 9 rfl) rfl ?_
      refine kx_iret (pc := 21) rfl (kx_dd d_Mo_sides 10 rfl) (Nat.le_refl _) (Nat.le_refl _) ?_
      exact Or.inr ⟨fun z => bP_0.mp c11 z.2.1, rfl, rfl⟩
    · refine kx_iload_n (pc := 14) (kx_dd d_Mo_sides 6 rfl) rfl rfl ?_
      refine kx_iload_n (pc := 15) (kx_dd d_Mo_sides 7 rfl) rfl rfl ?_
      refine kx_icmp_ne (pc := 16) (tgt := 22) (kx_dd d_Mo_sides 8 rfl) rfl (fun c16 => ?_) (fun c16 => ?_)
      · refine kx_aload_n (pc := 22) (kx_dd d_Mo_sides 11 rfl) rfl rfl ?_
        refine kx_iload_n (pc := 23) (kx_dd d_Mo_sides 12 rfl) rfl rfl ?_
        refine kx_putI (pc := 24) fl_Mo_476 (hm.k 0 rfl) (by decide) rfl rfl (kx_dd d_Mo_sides 13 rfl) ?_
        refine kx_aload_n (pc := 27) (kx_dd d_Mo_sides 14 rfl) rfl rfl ?_
        refine kx_iload_n (pc := 28) (kx_dd d_Mo_sides 15 rfl) rfl rfl ?_
        refine kx_putI (pc := 29) fl_Mo_276 (hm.k 0 rfl) (by decide) rfl rfl (kx_dd d_Mo_sides 16 rfl) ?_
        refine kx_iconst (pc := 32) (v := 1) (kx_dd d_Mo_sides 17 rfl) rfl ?_
        refine kx_iret (pc := 33) rfl (kx_dd d_Mo_sides 18 rfl) (Nat.le_refl _) (Nat.le_refl _) ?_
        exact Or.inl ⟨⟨(bP_ti _).mp c4, (bP_ti _).mp c11, c16⟩, rfl, rfl⟩
      · refine kx_bipush (pc := 19) (v := -2) (kx_dd d_Mo_sides 9 rfl) rfl ?_
        refine kx_iret (pc := 21) rfl (kx_dd d_Mo_sides 10 rfl) (Nat.le_refl _) (Nat.le_refl _) ?_
        exact Or.inr ⟨fun z => z.2.2 c16, rfl, rfl⟩
theorem x_Tc_person {l : Launch} {g : kx_G} {d : Nat} {h : kx_Mem} (hs : SC h) (s : PS) (ho : PSok s) (hp : PSc s h) : kx_Sp l g m_Tc_person [.ref 0] h (d + 1) 0 0 (fun v h' => (s.1 = 60 ∧ v = some (.int (-3)) ∧ h' = h) ∨ (s.1 < 60 ∧ v = some (.int (nI s.1)) ∧ h' = kx_setI h 14 0 (nI (s.1 + 1)))) := by
  refine kx_enter_e (lv := [_]) (by decide +kernel) (Nat.le_of_ble_eq_true rfl) rfl ?_
  refine kx_aload_n (pc := 0) (kx_dd d_Tc_person 0 rfl) rfl rfl ?_
  refine kx_getR (pc := 1) (b := 14) fl_Tc_34 (hs.k 0 rfl) rfl (hs.r 3 rfl) (kx_dd d_Tc_person 1 rfl) ?_
  refine kx_invV (pc := 4) (a := 14) (as := []) (kx_dd d_Tc_person 2 rfl) ⟨lk_Tc_97, wi_Pe_add, we_Pe_add⟩ w_Pe_add (hs.k 14 rfl) rfl rfl rfl rfl (Nat.le_of_ble_eq_true rfl) (x_Pe_add (d := d) hs) (Nat.le_refl _) ⟨Nat.le_refl _, Nat.le_refl _⟩ (fun v h' hq => ?_)
  revert h'
  intro h1 hq
  obtain ⟨rfl, rfl⟩ := hq
  refine kx_iret (pc := 7) rfl (kx_dd d_Tc_person 3 rfl) (Nat.le_refl _) (Nat.le_refl _) ?_
  have o1 := ho.1
  rw [hp.1]
  by_cases e : s.1 = 60
  · have e2 : (60 : Int32) ≤ nI s.1 := (nI_leI (a := 60) (by decide) (by omega)).mpr (by omega)
    rw [if_pos e2, if_pos e2]
    exact Or.inl ⟨e, rfl, rfl⟩
  · have e2 : ¬ (60 : Int32) ≤ nI s.1 := fun z => by have := (nI_leI (a := 60) (by decide) (by omega)).mp z; omega
    rw [if_neg e2, if_neg e2, nI_1]
    exact Or.inr ⟨by omega, rfl, rfl⟩
theorem y_person {l : Launch} {g : kx_G} {d : Nat} {h : kx_Mem} (hm : SM h) (s : PS) (ho : PSok s) (hp : PSm s h) : kx_Sp l g m_Mo_person [.ref 84] h (d) 0 0 (fun v h' => (s.1 = 60 ∧ v = some (.int (-3)) ∧ h' = h) ∨ (s.1 < 60 ∧ v = some (.int (nI s.1)) ∧ h' = kx_setI h 84 33 (nI (s.1 + 1)))) := by
  refine kx_enter_e (lv := [_]) (by decide +kernel) (Nat.le_of_ble_eq_true rfl) rfl ?_
  refine kx_aload_n (pc := 0) (kx_dd d_Mo_person 0 rfl) rfl rfl ?_
  refine kx_getI (pc := 1) fl_Mo_429 (hm.k 0 rfl) rfl (kx_dd d_Mo_person 1 rfl) ?_
  refine kx_bipush (pc := 4) (v := 60) (kx_dd d_Mo_person 2 rfl) rfl ?_
  refine kx_icmp_ne (pc := 6) (tgt := 12) (kx_dd d_Mo_person 3 rfl) rfl (fun c6 => ?_) (fun c6 => ?_)
  · refine kx_aload_n (pc := 12) (kx_dd d_Mo_person 6 rfl) rfl rfl ?_
    refine kx_dup (pc := 13) (kx_dd d_Mo_person 7 rfl) rfl ?_
    refine kx_getI (pc := 14) fl_Mo_429 (hm.k 0 rfl) rfl (kx_dd d_Mo_person 8 rfl) ?_
    refine kx_iconst (pc := 17) (v := 1) (kx_dd d_Mo_person 9 rfl) rfl ?_
    refine kx_iadd (pc := 18) (kx_dd d_Mo_person 10 rfl) ?_
    refine kx_putI (pc := 19) fl_Mo_429 (hm.k 0 rfl) (by decide) rfl rfl (kx_dd d_Mo_person 11 rfl) ?_
    refine kx_aload_n (pc := 22) (kx_dd d_Mo_person 12 rfl) rfl rfl ?_
    refine kx_getI (pc := 23) fl_Mo_429 (hm.k 0 rfl) rfl (kx_dd d_Mo_person 13 rfl) ?_
    refine kx_iconst (pc := 26) (v := 1) (kx_dd d_Mo_person 14 rfl) rfl ?_
    refine kx_isub (pc := 27) (kx_dd d_Mo_person 15 rfl) ?_
    refine kx_iret (pc := 28) rfl (kx_dd d_Mo_person 16 rfl) (Nat.le_refl _) (Nat.le_refl _) ?_
    have o1 := ho.1
    rw [hp.1, show (60 : Int32) = nI 60 from rfl, nI_eq (by omega) (by decide)] at c6
    refine Or.inr ⟨by omega, ?_, ?_⟩
    · rw [setI_at, hp.1, Int32.add_sub_cancel]
    · rw [hp.1, nI_1]
  · refine kx_bipush (pc := 9) (v := -3) (kx_dd d_Mo_person 4 rfl) rfl ?_
    refine kx_iret (pc := 11) rfl (kx_dd d_Mo_person 5 rfl) (Nat.le_refl _) (Nat.le_refl _) ?_
    have o1 := ho.1
    rw [hp.1, show (60 : Int32) = nI 60 from rfl, nI_eq (by omega) (by decide)] at c6
    exact Or.inl ⟨c6, rfl, rfl⟩
