/-! top-level: like -/
noncomputable def likA (D : DK) (r : RU) (a b : Int32) : Int32 := @ite _ ((0 ≤ a ∧ a < nI D.2.2.1.1) ∧ (0 ≤ b ∧ b < nI D.2.2.1.1) ∧ a ≠ b) (Classical.propDecidable _) (bP (likP D (rsN r 8) a.toNatClampNeg b.toNatClampNeg)) (-2)
theorem y_like {l : Launch} {g : kx_G} {d : Nat} {h : kx_Mem} (hm : SM h) (nw : Nat) (T : Nat → Nat) (hwt : WTok nw T) (D : DK) (ho : DKok D) (hp : DKm D nw T h) (r : RU) (u : Nat) (hu : u < 4) (hse : RSet r) (hrp : RUm r u nw T h) (hif : h.1 84 31 = nI u) (a b : Int32) : kx_Sp l g m_Mo_like [.ref 84, .int a, .int b] h (d + 2) 0 0 (fun v h' => v = some (.int (likA D r a b)) ∧ h' = h) := by
  have o1 := ho.2.2.1.1
  refine kx_enter_e (lv := [_, _, _]) (by decide +kernel) (Nat.le_of_ble_eq_true rfl) rfl ?_
  refine kx_aload_n (pc := 0) (kx_dd d_Mo_like 0 rfl) rfl rfl ?_
  refine kx_iload_n (pc := 1) (kx_dd d_Mo_like 1 rfl) rfl rfl ?_
  refine kx_invV (pc := 2) (a := 84) (as := [_]) (kx_dd d_Mo_like 2 rfl) ⟨lk_Mo_520, wi_Mo_isClaim, we_Mo_isClaim⟩ w_Mo_isClaim (hm.k 0 rfl) rfl rfl rfl rfl (Nat.le_of_ble_eq_true rfl) (y_isClaim (d := d) hm nw T hwt D ho hp a) (Nat.le_refl _) ⟨Nat.le_refl _, Nat.le_refl _⟩ (fun v h' hq => ?_)
  obtain ⟨rfl, he⟩ := hq
  rw [he]
  clear he
  refine kx_if_eq (pc := 5) (tgt := 21) (kx_dd d_Mo_like 3 rfl) rfl (fun c5 => ?_) (fun c5 => ?_)
  · refine kx_bipush (pc := 21) (v := -2) (kx_dd d_Mo_like 11 rfl) rfl ?_
    refine kx_goto (pc := 23) (tgt := 40) (kx_dd d_Mo_like 12 rfl) rfl ?_
    refine kx_iret (pc := 40) rfl (kx_dd d_Mo_like 21 rfl) (Nat.le_refl _) (Nat.le_refl _) ?_
    exact ⟨by unfold likA; rw [if_neg (fun z => bP_0.mp c5 z.1)], rfl⟩
  · refine kx_aload_n (pc := 8) (kx_dd d_Mo_like 4 rfl) rfl rfl ?_
    refine kx_iload_n (pc := 9) (kx_dd d_Mo_like 5 rfl) rfl rfl ?_
    refine kx_invV (pc := 10) (a := 84) (as := [_]) (kx_dd d_Mo_like 6 rfl) ⟨lk_Mo_520, wi_Mo_isClaim, we_Mo_isClaim⟩ w_Mo_isClaim (hm.k 0 rfl) rfl rfl rfl rfl (Nat.le_of_ble_eq_true rfl) (y_isClaim (d := d) hm nw T hwt D ho hp b) (Nat.le_refl _) ⟨Nat.le_refl _, Nat.le_refl _⟩ (fun v h' hq => ?_)
    obtain ⟨rfl, he⟩ := hq
    rw [he]
    clear he
    refine kx_if_eq (pc := 13) (tgt := 21) (kx_dd d_Mo_like 7 rfl) rfl (fun c13 => ?_) (fun c13 => ?_)
    · refine kx_bipush (pc := 21) (v := -2) (kx_dd d_Mo_like 11 rfl) rfl ?_
      refine kx_goto (pc := 23) (tgt := 40) (kx_dd d_Mo_like 12 rfl) rfl ?_
      refine kx_iret (pc := 40) rfl (kx_dd d_Mo_like 21 rfl) (Nat.le_refl _) (Nat.le_refl _) ?_
      exact ⟨by unfold likA; rw [if_neg (fun z => bP_0.mp c13 z.2.1)], rfl⟩
    · refine kx_iload_n (pc := 16) (kx_dd d_Mo_like 8 rfl) rfl rfl ?_
      refine kx_iload_n (pc := 17) (kx_dd d_Mo_like 9 rfl) rfl rfl ?_
      refine kx_icmp_ne (pc := 18) (tgt := 26) (kx_dd d_Mo_like 10 rfl) rfl (fun c18 => ?_) (fun c18 => ?_)
      · have c5 := (bP_ti _).mp c5
        have c13 := (bP_ti _).mp c13
        obtain ⟨a9, ha9, rfl⟩ := valP (n := D.2.2.1.1) (by omega) c5
        obtain ⟨b9, hb9, rfl⟩ := valP (n := D.2.2.1.1) (by omega) c13
        refine kx_aload_n (pc := 26) (kx_dd d_Mo_like 13 rfl) rfl rfl ?_
        refine kx_iload_n (pc := 27) (kx_dd d_Mo_like 14 rfl) rfl rfl ?_
        refine kx_iload_n (pc := 28) (kx_dd d_Mo_like 15 rfl) rfl rfl ?_
        refine kx_invV (pc := 29) (a := 84) (as := [_, _]) (kx_dd d_Mo_like 16 rfl) ⟨lk_Mo_585, wi_Mo_areLike, we_Mo_areLike⟩ w_Mo_areLike (hm.k 0 rfl) rfl rfl rfl rfl (Nat.le_of_ble_eq_true rfl) (y_areLike (d := d) hm nw T hwt D ho hp r u hu hse hrp hif a9 b9 ha9 hb9) (Nat.le_refl _) ⟨Nat.le_refl _, Nat.le_refl _⟩ (fun v h' hq => ?_)
        obtain ⟨rfl, he⟩ := hq
        rw [he]
        clear he
        refine kx_if_eq (pc := 32) (tgt := 39) (kx_dd d_Mo_like 17 rfl) rfl (fun c32 => ?_) (fun c32 => ?_)
        · refine kx_iconst (pc := 39) (v := 0) (kx_dd d_Mo_like 20 rfl) rfl ?_
          refine kx_iret (pc := 40) rfl (kx_dd d_Mo_like 21 rfl) (Nat.le_refl _) (Nat.le_refl _) ?_
          refine ⟨?_, rfl⟩
          unfold likA
          rw [if_pos ⟨c5, c13, c18⟩, nI_clamp (by omega), nI_clamp (by omega)]
          rw [bP_f (bP_0.mp c32)]
        · refine kx_iconst (pc := 35) (v := 1) (kx_dd d_Mo_like 18 rfl) rfl ?_
          refine kx_goto (pc := 36) (tgt := 40) (kx_dd d_Mo_like 19 rfl) rfl ?_
          refine kx_iret (pc := 40) rfl (kx_dd d_Mo_like 21 rfl) (Nat.le_refl _) (Nat.le_refl _) ?_
          refine ⟨?_, rfl⟩
          unfold likA
          rw [if_pos ⟨c5, c13, c18⟩, nI_clamp (by omega), nI_clamp (by omega)]
          rw [bP_t ((bP_ti _).mp c32)]
      · refine kx_bipush (pc := 21) (v := -2) (kx_dd d_Mo_like 11 rfl) rfl ?_
        refine kx_goto (pc := 23) (tgt := 40) (kx_dd d_Mo_like 12 rfl) rfl ?_
        refine kx_iret (pc := 40) rfl (kx_dd d_Mo_like 21 rfl) (Nat.le_refl _) (Nat.le_refl _) ?_
        exact ⟨by unfold likA; rw [if_neg (fun z => z.2.2 c18)], rfl⟩
theorem x_Tc_like {l : Launch} {g : kx_G} {d : Nat} {h : kx_Mem} (hs : SC h) (D : DK) (A : DA) (ho : DKok D) (hp : DKc D A h) (AV : Nat → Nat) (DV : Nat) (V : Nat → RU) (hV : CVs AV DV V h) (u : Nat) (hu : u < 4) (hse : RSet (V u)) (hif : h.1 0 10 = nI u) (a b : Int32) : kx_Sp l g m_Tc_like [.ref 0, .int a, .int b] h (d + 4) 0 0 (fun v h' => v = some (.int (likA D (V u) a b)) ∧ h' = h) := by
  have o1 := ho.2.2.1.1
  by_cases e9 : 0 ≤ a ∧ a < nI D.2.2.1.1
  · by_cases e8 : 0 ≤ b ∧ b < nI D.2.2.1.1
    · skip
      obtain ⟨a9, ha9, rfl⟩ := valP (n := D.2.2.1.1) (by omega) e9
      obtain ⟨b9, hb9, rfl⟩ := valP (n := D.2.2.1.1) (by omega) e8
      refine kx_enter_e (lv := [_, _, _, _, _, _]) (by decide +kernel) (Nat.le_of_ble_eq_true rfl) rfl ?_
      refine kx_aload_n (pc := 0) (kx_dd d_Tc_like 0 rfl) rfl rfl ?_
      refine kx_getR (pc := 1) (b := 39) fl_Tc_57 (hs.k 0 rfl) rfl (hs.r 6 rfl) (kx_dd d_Tc_like 1 rfl) ?_
      refine kx_iload_n (pc := 4) (kx_dd d_Tc_like 2 rfl) rfl rfl ?_
      refine kx_invV (pc := 5) (a := 39) (as := [_]) (kx_dd d_Tc_like 3 rfl) ⟨lk_Tc_190, wi_Do_claimAt, we_Do_claimAt⟩ w_Do_claimAt (hs.k 39 rfl) rfl rfl rfl rfl (Nat.le_of_ble_eq_true rfl) (x_Do_claimAt (d := d) hs D A ho hp a9 ha9) (Nat.le_refl _) ⟨Nat.le_refl _, Nat.le_refl _⟩ (fun v h' hq => ?_)
      obtain ⟨rfl, he⟩ := hq
      rw [he]
      clear he
      refine kx_astore_ne (pc := 8) (lv' := [_, _, _, _, _, _]) (kx_dd d_Tc_like 4 rfl) rfl (Nat.le_of_ble_eq_true rfl) rfl ?_
      refine kx_aload_n (pc := 9) (kx_dd d_Tc_like 5 rfl) rfl rfl ?_
      refine kx_getR (pc := 10) (b := 39) fl_Tc_57 (hs.k 0 rfl) rfl (hs.r 6 rfl) (kx_dd d_Tc_like 6 rfl) ?_
      refine kx_iload_n (pc := 13) (kx_dd d_Tc_like 7 rfl) rfl rfl ?_
      refine kx_invV (pc := 14) (a := 39) (as := [_]) (kx_dd d_Tc_like 8 rfl) ⟨lk_Tc_190, wi_Do_claimAt, we_Do_claimAt⟩ w_Do_claimAt (hs.k 39 rfl) rfl rfl rfl rfl (Nat.le_of_ble_eq_true rfl) (x_Do_claimAt (d := d) hs D A ho hp b9 hb9) (Nat.le_refl _) ⟨Nat.le_refl _, Nat.le_refl _⟩ (fun v h' hq => ?_)
      obtain ⟨rfl, he⟩ := hq
      rw [he]
      clear he
      refine kx_astore_e (pc := 17) (lv' := [_, _, _, _, _, _]) (kx_dd d_Tc_like 9 rfl) (Nat.le_of_ble_eq_true rfl) rfl ?_
      refine kx_aload_n (pc := 19) (kx_dd d_Tc_like 10 rfl) rfl rfl ?_
      refine kx_aload_n (pc := 20) (kx_dd d_Tc_like 11 rfl) rfl rfl ?_
      refine kx_getI (pc := 21) fl_Tc_148 (hs.k 0 rfl) rfl (kx_dd d_Tc_like 12 rfl) ?_
      rw [hif]
      refine kx_invV (pc := 24) (a := 0) (as := [_]) (kx_dd d_Tc_like 13 rfl) ⟨lk_Tc_151, wi_Tc_versionAt, we_Tc_versionAt⟩ w_Tc_versionAt (hs.k 0 rfl) rfl rfl rfl rfl (Nat.le_of_ble_eq_true rfl) (x_Tc_versionV (d := d + 2) hs AV DV V hV u hu) (Nat.le_refl _) ⟨Nat.le_refl _, Nat.le_refl _⟩ (fun v h' hq => ?_)
      obtain ⟨rfl, he⟩ := hq
      rw [he]
      clear he
      refine kx_astore_e (pc := 27) (lv' := [_, _, _, _, _, _]) (kx_dd d_Tc_like 14 rfl) (Nat.le_of_ble_eq_true rfl) rfl ?_
      refine kx_aload_n (pc := 29) (kx_dd d_Tc_like 15 rfl) rfl rfl ?_
      refine kx_ifnull (pc := 30) (kx_dd d_Tc_like 16 rfl) ?_
      refine kx_aload (pc := 33) (kx_dd d_Tc_like 17 rfl) rfl ?_
      refine kx_ifnull (pc := 35) (kx_dd d_Tc_like 18 rfl) ?_
      refine kx_iload_n (pc := 38) (kx_dd d_Tc_like 19 rfl) rfl rfl ?_
      refine kx_iload_n (pc := 39) (kx_dd d_Tc_like 20 rfl) rfl rfl ?_
      refine kx_icmp_eq (pc := 40) (tgt := 48) (kx_dd d_Tc_like 21 rfl) rfl (fun c40 => ?_) (fun c40 => ?_)
      · refine kx_bipush (pc := 48) (v := -2) (kx_dd d_Tc_like 24 rfl) rfl ?_
        refine kx_iret (pc := 50) rfl (kx_dd d_Tc_like 25 rfl) (Nat.le_refl _) (Nat.le_refl _) ?_
        exact ⟨by unfold likA; rw [if_neg (fun z => z.2.2 c40)], rfl⟩
      · refine kx_aload (pc := 43) (kx_dd d_Tc_like 22 rfl) rfl ?_
        refine kx_ifnonnull (pc := 45) (tgt := 51) (kx_dd d_Tc_like 23 rfl) rfl ?_
        refine kx_aload_n (pc := 51) (kx_dd d_Tc_like 26 rfl) rfl rfl ?_
        refine kx_aload (pc := 52) (kx_dd d_Tc_like 27 rfl) rfl ?_
        refine kx_aload (pc := 54) (kx_dd d_Tc_like 28 rfl) rfl ?_
        refine kx_getR (pc := 56) (b := (AV u + 1)) fl_Tc_246 (congrArg Prod.fst (IsRu.of hs (hV.2.2 u hu).2.1).1) rfl (IsRu.of hs (hV.2.2 u hu).2.1).2.2.2.2.2.2.2.2.2.1 (kx_dd d_Tc_like 29 rfl) ?_
        refine kx_bipush (pc := 59) (v := 8) (kx_dd d_Tc_like 30 rfl) rfl ?_
        refine kx_ialdn (pc := 61) 8 ((IsRu.of hs (hV.2.2 u hu).2.1).2.1) rfl (by decide) (by decide) (kx_dd d_Tc_like 31 rfl) ?_
        rw [(hV.2.2 u hu).2.2.2.2.1.1 8 (by decide), hse.1 8 (by decide) (by decide)]
        refine kx_invV (pc := 62) (a := (A.1 a9)) (as := [_, _]) (kx_dd d_Tc_like 32 rfl) ⟨lk_Tc_282, wi_Cl_isLike, we_Cl_isLike⟩ w_Cl_isLike (congrArg Prod.fst (hp.2.2.2.2.1.2 a9 ha9).2.2.1) rfl rfl rfl rfl (Nat.le_of_ble_eq_true rfl) (x_Cl_isLike (d := d + 2) hs D A ho hp a9 ha9 b9 hb9 (rsN (V u) 8) (by have := hse.2.1 8 (by decide) (by decide); omega)) (Nat.le_refl _) ⟨Nat.le_refl _, Nat.le_refl _⟩ (fun v h' hq => ?_)
        obtain ⟨rfl, he⟩ := hq
        rw [he]
        clear he
        refine kx_if_eq (pc := 65) (tgt := 72) (kx_dd d_Tc_like 33 rfl) rfl (fun c65 => ?_) (fun c65 => ?_)
        · refine kx_iconst (pc := 72) (v := 0) (kx_dd d_Tc_like 36 rfl) rfl ?_
          refine kx_iret (pc := 73) rfl (kx_dd d_Tc_like 37 rfl) (Nat.le_refl _) (Nat.le_refl _) ?_
          refine ⟨?_, rfl⟩
          unfold likA
          rw [if_pos ⟨e9, e8, c40⟩, nI_clamp (by omega), nI_clamp (by omega)]
          rw [bP_f (bP_0.mp c65)]
        · refine kx_iconst (pc := 68) (v := 1) (kx_dd d_Tc_like 34 rfl) rfl ?_
          refine kx_goto (pc := 69) (tgt := 73) (kx_dd d_Tc_like 35 rfl) rfl ?_
          refine kx_iret (pc := 73) rfl (kx_dd d_Tc_like 37 rfl) (Nat.le_refl _) (Nat.le_refl _) ?_
          refine ⟨?_, rfl⟩
          unfold likA
          rw [if_pos ⟨e9, e8, c40⟩, nI_clamp (by omega), nI_clamp (by omega)]
          rw [bP_t ((bP_ti _).mp c65)]
    · skip
      obtain ⟨a9, ha9, rfl⟩ := valP (n := D.2.2.1.1) (by omega) e9
      refine kx_enter_e (lv := [_, _, _, _, _, _]) (by decide +kernel) (Nat.le_of_ble_eq_true rfl) rfl ?_
      refine kx_aload_n (pc := 0) (kx_dd d_Tc_like 0 rfl) rfl rfl ?_
      refine kx_getR (pc := 1) (b := 39) fl_Tc_57 (hs.k 0 rfl) rfl (hs.r 6 rfl) (kx_dd d_Tc_like 1 rfl) ?_
      refine kx_iload_n (pc := 4) (kx_dd d_Tc_like 2 rfl) rfl rfl ?_
      refine kx_invV (pc := 5) (a := 39) (as := [_]) (kx_dd d_Tc_like 3 rfl) ⟨lk_Tc_190, wi_Do_claimAt, we_Do_claimAt⟩ w_Do_claimAt (hs.k 39 rfl) rfl rfl rfl rfl (Nat.le_of_ble_eq_true rfl) (x_Do_claimAt (d := d) hs D A ho hp a9 ha9) (Nat.le_refl _) ⟨Nat.le_refl _, Nat.le_refl _⟩ (fun v h' hq => ?_)
      obtain ⟨rfl, he⟩ := hq
      rw [he]
      clear he
      refine kx_astore_ne (pc := 8) (lv' := [_, _, _, _, _, _]) (kx_dd d_Tc_like 4 rfl) rfl (Nat.le_of_ble_eq_true rfl) rfl ?_
      refine kx_aload_n (pc := 9) (kx_dd d_Tc_like 5 rfl) rfl rfl ?_
      refine kx_getR (pc := 10) (b := 39) fl_Tc_57 (hs.k 0 rfl) rfl (hs.r 6 rfl) (kx_dd d_Tc_like 6 rfl) ?_
      refine kx_iload_n (pc := 13) (kx_dd d_Tc_like 7 rfl) rfl rfl ?_
      refine kx_invV (pc := 14) (a := 39) (as := [_]) (kx_dd d_Tc_like 8 rfl) ⟨lk_Tc_190, wi_Do_claimAt, we_Do_claimAt⟩ w_Do_claimAt (hs.k 39 rfl) rfl rfl rfl rfl (Nat.le_of_ble_eq_true rfl) (x_Do_claimAtN (d := d + 2) hs D A ho hp b e8) (Nat.le_refl _) ⟨Nat.le_refl _, Nat.le_refl _⟩ (fun v h' hq => ?_)
      obtain ⟨rfl, he⟩ := hq
      rw [he]
      clear he
      refine kx_astore_eN (pc := 17) (lv' := [_, _, _, _, _, _]) (kx_dd d_Tc_like 9 rfl) (Nat.le_of_ble_eq_true rfl) rfl ?_
      refine kx_aload_n (pc := 19) (kx_dd d_Tc_like 10 rfl) rfl rfl ?_
      refine kx_aload_n (pc := 20) (kx_dd d_Tc_like 11 rfl) rfl rfl ?_
      refine kx_getI (pc := 21) fl_Tc_148 (hs.k 0 rfl) rfl (kx_dd d_Tc_like 12 rfl) ?_
      rw [hif]
      refine kx_invV (pc := 24) (a := 0) (as := [_]) (kx_dd d_Tc_like 13 rfl) ⟨lk_Tc_151, wi_Tc_versionAt, we_Tc_versionAt⟩ w_Tc_versionAt (hs.k 0 rfl) rfl rfl rfl rfl (Nat.le_of_ble_eq_true rfl) (x_Tc_versionV (d := d + 2) hs AV DV V hV u hu) (Nat.le_refl _) ⟨Nat.le_refl _, Nat.le_refl _⟩ (fun v h' hq => ?_)
      obtain ⟨rfl, he⟩ := hq
      rw [he]
      clear he
      refine kx_astore_e (pc := 27) (lv' := [_, _, _, _, _, _]) (kx_dd d_Tc_like 14 rfl) (Nat.le_of_ble_eq_true rfl) rfl ?_
      refine kx_aload_n (pc := 29) (kx_dd d_Tc_like 15 rfl) rfl rfl ?_
      refine kx_ifnull (pc := 30) (kx_dd d_Tc_like 16 rfl) ?_
      refine kx_aloadN (pc := 33) (kx_dd d_Tc_like 17 rfl) rfl ?_
      refine kx_ifnullN (pc := 35) (tgt := 48) (kx_dd d_Tc_like 18 rfl) rfl ?_
      refine kx_bipush (pc := 48) (v := -2) (kx_dd d_Tc_like 24 rfl) rfl ?_
      refine kx_iret (pc := 50) rfl (kx_dd d_Tc_like 25 rfl) (Nat.le_refl _) (Nat.le_refl _) ?_
      exact ⟨by unfold likA; rw [if_neg (fun z => e8 z.2.1)], rfl⟩
  · by_cases e8 : 0 ≤ b ∧ b < nI D.2.2.1.1
    · skip
      obtain ⟨b9, hb9, rfl⟩ := valP (n := D.2.2.1.1) (by omega) e8
      refine kx_enter_e (lv := [_, _, _, _, _, _]) (by decide +kernel) (Nat.le_of_ble_eq_true rfl) rfl ?_
      refine kx_aload_n (pc := 0) (kx_dd d_Tc_like 0 rfl) rfl rfl ?_
      refine kx_getR (pc := 1) (b := 39) fl_Tc_57 (hs.k 0 rfl) rfl (hs.r 6 rfl) (kx_dd d_Tc_like 1 rfl) ?_
      refine kx_iload_n (pc := 4) (kx_dd d_Tc_like 2 rfl) rfl rfl ?_
      refine kx_invV (pc := 5) (a := 39) (as := [_]) (kx_dd d_Tc_like 3 rfl) ⟨lk_Tc_190, wi_Do_claimAt, we_Do_claimAt⟩ w_Do_claimAt (hs.k 39 rfl) rfl rfl rfl rfl (Nat.le_of_ble_eq_true rfl) (x_Do_claimAtN (d := d + 2) hs D A ho hp a e9) (Nat.le_refl _) ⟨Nat.le_refl _, Nat.le_refl _⟩ (fun v h' hq => ?_)
      obtain ⟨rfl, he⟩ := hq
      rw [he]
      clear he
      refine kx_astore_neN (pc := 8) (lv' := [_, _, _, _, _, _]) (kx_dd d_Tc_like 4 rfl) rfl (Nat.le_of_ble_eq_true rfl) rfl ?_
      refine kx_aload_n (pc := 9) (kx_dd d_Tc_like 5 rfl) rfl rfl ?_
      refine kx_getR (pc := 10) (b := 39) fl_Tc_57 (hs.k 0 rfl) rfl (hs.r 6 rfl) (kx_dd d_Tc_like 6 rfl) ?_
      refine kx_iload_n (pc := 13) (kx_dd d_Tc_like 7 rfl) rfl rfl ?_
      refine kx_invV (pc := 14) (a := 39) (as := [_]) (kx_dd d_Tc_like 8 rfl) ⟨lk_Tc_190, wi_Do_claimAt, we_Do_claimAt⟩ w_Do_claimAt (hs.k 39 rfl) rfl rfl rfl rfl (Nat.le_of_ble_eq_true rfl) (x_Do_claimAt (d := d) hs D A ho hp b9 hb9) (Nat.le_refl _) ⟨Nat.le_refl _, Nat.le_refl _⟩ (fun v h' hq => ?_)
      obtain ⟨rfl, he⟩ := hq
      rw [he]
      clear he
      refine kx_astore_e (pc := 17) (lv' := [_, _, _, _, _, _]) (kx_dd d_Tc_like 9 rfl) (Nat.le_of_ble_eq_true rfl) rfl ?_
      refine kx_aload_n (pc := 19) (kx_dd d_Tc_like 10 rfl) rfl rfl ?_
      refine kx_aload_n (pc := 20) (kx_dd d_Tc_like 11 rfl) rfl rfl ?_
      refine kx_getI (pc := 21) fl_Tc_148 (hs.k 0 rfl) rfl (kx_dd d_Tc_like 12 rfl) ?_
      rw [hif]
      refine kx_invV (pc := 24) (a := 0) (as := [_]) (kx_dd d_Tc_like 13 rfl) ⟨lk_Tc_151, wi_Tc_versionAt, we_Tc_versionAt⟩ w_Tc_versionAt (hs.k 0 rfl) rfl rfl rfl rfl (Nat.le_of_ble_eq_true rfl) (x_Tc_versionV (d := d + 2) hs AV DV V hV u hu) (Nat.le_refl _) ⟨Nat.le_refl _, Nat.le_refl _⟩ (fun v h' hq => ?_)
      obtain ⟨rfl, he⟩ := hq
      rw [he]
      clear he
      refine kx_astore_e (pc := 27) (lv' := [_, _, _, _, _, _]) (kx_dd d_Tc_like 14 rfl) (Nat.le_of_ble_eq_true rfl) rfl ?_
      refine kx_aload_nN (pc := 29) (kx_dd d_Tc_like 15 rfl) rfl rfl ?_
      refine kx_ifnullN (pc := 30) (tgt := 48) (kx_dd d_Tc_like 16 rfl) rfl ?_
      refine kx_bipush (pc := 48) (v := -2) (kx_dd d_Tc_like 24 rfl) rfl ?_
      refine kx_iret (pc := 50) rfl (kx_dd d_Tc_like 25 rfl) (Nat.le_refl _) (Nat.le_refl _) ?_
      exact ⟨by unfold likA; rw [if_neg (fun z => e9 z.1)], rfl⟩
    · skip
      refine kx_enter_e (lv := [_, _, _, _, _, _]) (by decide +kernel) (Nat.le_of_ble_eq_true rfl) rfl ?_
      refine kx_aload_n (pc := 0) (kx_dd d_Tc_like 0 rfl) rfl rfl ?_
      refine kx_getR (pc := 1) (b := 39) fl_Tc_57 (hs.k 0 rfl) rfl (hs.r 6 rfl) (kx_dd d_Tc_like 1 rfl) ?_
      refine kx_iload_n (pc := 4) (kx_dd d_Tc_like 2 rfl) rfl rfl ?_
      refine kx_invV (pc := 5) (a := 39) (as := [_]) (kx_dd d_Tc_like 3 rfl) ⟨lk_Tc_190, wi_Do_claimAt, we_Do_claimAt⟩ w_Do_claimAt (hs.k 39 rfl) rfl rfl rfl rfl (Nat.le_of_ble_eq_true rfl) (x_Do_claimAtN (d := d + 2) hs D A ho hp a e9) (Nat.le_refl _) ⟨Nat.le_refl _, Nat.le_refl _⟩ (fun v h' hq => ?_)
      obtain ⟨rfl, he⟩ := hq
      rw [he]
      clear he
      refine kx_astore_neN (pc := 8) (lv' := [_, _, _, _, _, _]) (kx_dd d_Tc_like 4 rfl) rfl (Nat.le_of_ble_eq_true rfl) rfl ?_
      refine kx_aload_n (pc := 9) (kx_dd d_Tc_like 5 rfl) rfl rfl ?_
      refine kx_getR (pc := 10) (b := 39) fl_Tc_57 (hs.k 0 rfl) rfl (hs.r 6 rfl) (kx_dd d_Tc_like 6 rfl) ?_
      refine kx_iload_n (pc := 13) (kx_dd d_Tc_like 7 rfl) rfl rfl ?_
      refine kx_invV (pc := 14) (a := 39) (as := [_]) (kx_dd d_Tc_like 8 rfl) ⟨lk_Tc_190, wi_Do_claimAt, we_Do_claimAt⟩ w_Do_claimAt (hs.k 39 rfl) rfl rfl rfl rfl (Nat.le_of_ble_eq_true rfl) (x_Do_claimAtN (d := d + 2) hs D A ho hp b e8) (Nat.le_refl _) ⟨Nat.le_refl _, Nat.le_refl _⟩ (fun v h' hq => ?_)
      obtain ⟨rfl, he⟩ := hq
      rw [he]
      clear he
      refine kx_astore_eN (pc := 17) (lv' := [_, _, _, _, _, _]) (kx_dd d_Tc_like 9 rfl) (Nat.le_of_ble_eq_true rfl) rfl ?_
      refine kx_aload_n (pc := 19) (kx_dd d_Tc_like 10 rfl) rfl rfl ?_
      refine kx_aload_n (pc := 20) (kx_dd d_Tc_like 11 rfl) rfl rfl ?_
      refine kx_getI (pc := 21) fl_Tc_148 (hs.k 0 rfl) rfl (kx_dd d_Tc_like 12 rfl) ?_
      rw [hif]
      refine kx_invV (pc := 24) (a := 0) (as := [_]) (kx_dd d_Tc_like 13 rfl) ⟨lk_Tc_151, wi_Tc_versionAt, we_Tc_versionAt⟩ w_Tc_versionAt (hs.k 0 rfl) rfl rfl rfl rfl (Nat.le_of_ble_eq_true rfl) (x_Tc_versionV (d := d + 2) hs AV DV V hV u hu) (Nat.le_refl _) ⟨Nat.le_refl _, Nat.le_refl _⟩ (fun v h' hq => ?_)
      obtain ⟨rfl, he⟩ := hq
      rw [he]
      clear he
      refine kx_astore_e (pc := 27) (lv' := [_, _, _, _, _, _]) (kx_dd d_Tc_like 14 rfl) (Nat.le_of_ble_eq_true rfl) rfl ?_
      refine kx_aload_nN (pc := 29) (kx_dd d_Tc_like 15 rfl) rfl rfl ?_
      refine kx_ifnullN (pc := 30) (tgt := 48) (kx_dd d_Tc_like 16 rfl) rfl ?_
      refine kx_bipush (pc := 48) (v := -2) (kx_dd d_Tc_like 24 rfl) rfl ?_
      refine kx_iret (pc := 50) rfl (kx_dd d_Tc_like 25 rfl) (Nat.le_refl _) (Nat.le_refl _) ?_
      exact ⟨by unfold likA; rw [if_neg (fun z => e9 z.1)], rfl⟩
