/-! the class: Docket.failuresOf, sums over claims -/
theorem x_Tc_within {l : Launch} {g : kx_G} {d : Nat} {h : kx_Mem} (a b c : Int32) : kx_Sp l g m_Tc_within [.int a, .int b, .int c] h (d) 0 0 (fun v h' => v = some (.int (bP (b ≤ a ∧ a ≤ c))) ∧ h' = h) := by
  refine kx_enter_e (lv := [_, _, _]) (by decide +kernel) (Nat.le_of_ble_eq_true rfl) rfl ?_
  refine kx_iload_n (pc := 0) (kx_dd d_Tc_within 0 rfl) rfl rfl ?_
  refine kx_iload_n (pc := 1) (kx_dd d_Tc_within 1 rfl) rfl rfl ?_
  refine kx_icmp_lt (pc := 2) (tgt := 14) (kx_dd d_Tc_within 2 rfl) rfl (fun c2 => ?_) (fun c2 => ?_)
  · refine kx_iconst (pc := 14) (v := 0) (kx_dd d_Tc_within 8 rfl) rfl ?_
    refine kx_zret (pc := 15) rfl rfl (kx_dd d_Tc_within 9 rfl) (Nat.le_refl _) (Nat.le_refl _) ?_
    exact ⟨by grind [bP], rfl⟩
  · refine kx_iload_n (pc := 5) (kx_dd d_Tc_within 3 rfl) rfl rfl ?_
    refine kx_iload_n (pc := 6) (kx_dd d_Tc_within 4 rfl) rfl rfl ?_
    refine kx_icmp_gt (pc := 7) (tgt := 14) (kx_dd d_Tc_within 5 rfl) rfl (fun c7 => ?_) (fun c7 => ?_)
    · refine kx_iconst (pc := 14) (v := 0) (kx_dd d_Tc_within 8 rfl) rfl ?_
      refine kx_zret (pc := 15) rfl rfl (kx_dd d_Tc_within 9 rfl) (Nat.le_refl _) (Nat.le_refl _) ?_
      exact ⟨by grind [bP], rfl⟩
    · refine kx_iconst (pc := 10) (v := 1) (kx_dd d_Tc_within 6 rfl) rfl ?_
      refine kx_goto (pc := 11) (tgt := 15) (kx_dd d_Tc_within 7 rfl) rfl ?_
      refine kx_zret (pc := 15) rfl rfl (kx_dd d_Tc_within 9 rfl) (Nat.le_refl _) (Nat.le_refl _) ?_
      exact ⟨by grind [bP], rfl⟩
theorem x_Tc_isDay {l : Launch} {g : kx_G} {d : Nat} {h : kx_Mem} (a : Int32) : kx_Sp l g m_Tc_isDay [.int a] h (d + 1) 0 0 (fun v h' => v = some (.int (bP (0 ≤ a ∧ a ≤ 1999))) ∧ h' = h) := by
  refine kx_enter_e (lv := [_]) (by decide +kernel) (Nat.le_of_ble_eq_true rfl) rfl ?_
  refine kx_iload_n (pc := 0) (kx_dd d_Tc_isDay 0 rfl) rfl rfl ?_
  refine kx_iconst (pc := 1) (v := 0) (kx_dd d_Tc_isDay 1 rfl) rfl ?_
  refine kx_sipush (pc := 2) (v := 1999) (kx_dd d_Tc_isDay 2 rfl) rfl ?_
  refine kx_invS (pc := 5) (as := [_, _, _]) (kx_dd d_Tc_isDay 3 rfl) ⟨lk_Tc_90, wt_Tc_within⟩ w_Tc_within rfl rfl (Nat.le_of_ble_eq_true rfl) (x_Tc_within (d := d) _ _ _) (Nat.le_refl _) ⟨Nat.le_refl _, Nat.le_refl _⟩ (fun v h' hq => ?_)
  obtain ⟨rfl, he⟩ := hq
  rw [he]
  clear he
  refine kx_zret (pc := 8) rfl (nar_bP _) (kx_dd d_Tc_isDay 4 rfl) (Nat.le_refl _) (Nat.le_refl _) ?_
  exact ⟨rfl, rfl⟩
theorem x_Do_fail152 {l : Launch} {g : kx_G} {d : Nat} {h : kx_Mem} (hs : SC h) (D : DK) (A : DA) (ho : DKok D) (hp : DKc D A h) (a : Nat) (hr : IsRu h a) (r : RU) (hro : RUok r) (hrp : RUc r a h) (c : Nat) (hc : c < D.2.2.1.1) (kn : Nat) (hkn : kn < 2 ^ 31) (x : Nat) (he : x = faiF D r c kn) : kx_X (l, g, m_Do_failuresOf, d + 4, 0, 0, (fun v h' => v = some (.int (nI (faiF D r c kn))) ∧ h' = h)) 0 0 152 [some (.ref 39), some (.ref (A.1 c)), some (.ref a), some (.int (nI kn)), some (.int (nI (lostD D c))), some (.int (nI (hadF D r c kn))), some (.int (nI x))] [] h := by
  have o60 := ho.2.2.1.1
  have o150 := ho.2.2.2.1
  have oP := ho.1.1
  have hcc := hp.2.2.2.2.1.2 c hc
  have occ := ho.2.2.1.2 c hc
  have f2 := (hcc.2.2.2.1 2 (by decide) (by decide)).trans (occ.1 2 (by decide) (by decide) (by decide) (by decide))
  have f5 := (hcc.2.2.2.1 5 (by decide) (by decide)).trans (occ.1 5 (by decide) (by decide) (by decide) (by decide))
  have f8 := (hcc.2.2.2.1 8 (by decide) (by decide)).trans (occ.1 8 (by decide) (by decide) (by decide) (by decide))
  have hw6 := hcc.2.2.2.2
  have hh16 := hadF_lt (D := D) hro (c := c) (kn := kn)
  have oa := hr.2.2.2.2.2.2.2.2.2.2.2.2.2.2.2.2.2
  obtain ⟨-, q0, q1, q2, q3, q4, q5, qd, q7, q8, -, -, -, -, -, -, qw0, qw⟩ := occ
  have oth := ho.2.1.2 (cN D.2.2.1 c 2) q2
  have ol : lostD D c ≤ 1999 := oth.1
  have s0 := hrp.1 0 (by decide)
  have s1 := hrp.1 1 (by decide)
  have s2 := hrp.1 2 (by decide)
  have s3 := hrp.1 3 (by decide)
  refine kx_iload (pc := 152) (kx_dd d_Do_failuresOf 84 rfl) rfl ?_
  refine kx_iret (pc := 154) rfl (kx_dd d_Do_failuresOf 85 rfl) (Nat.le_refl _) (Nat.le_refl _) ?_
  exact ⟨by rw [he], rfl⟩
theorem x_Do_fail137 {l : Launch} {g : kx_G} {d : Nat} {h : kx_Mem} (hs : SC h) (D : DK) (A : DA) (ho : DKok D) (hp : DKc D A h) (a : Nat) (hr : IsRu h a) (r : RU) (hro : RUok r) (hrp : RUc r a h) (c : Nat) (hc : c < D.2.2.1.1) (kn : Nat) (hkn : kn < 2 ^ 31) (x : Nat) (he : f32N D c x = faiF D r c kn) : kx_X (l, g, m_Do_failuresOf, d + 4, 0, 0, (fun v h' => v = some (.int (nI (faiF D r c kn))) ∧ h' = h)) 0 0 137 [some (.ref 39), some (.ref (A.1 c)), some (.ref a), some (.int (nI kn)), some (.int (nI (lostD D c))), some (.int (nI (hadF D r c kn))), some (.int (nI x))] [] h := by
  have o60 := ho.2.2.1.1
  have o150 := ho.2.2.2.1
  have oP := ho.1.1
  have hcc := hp.2.2.2.2.1.2 c hc
  have occ := ho.2.2.1.2 c hc
  have f2 := (hcc.2.2.2.1 2 (by decide) (by decide)).trans (occ.1 2 (by decide) (by decide) (by decide) (by decide))
  have f5 := (hcc.2.2.2.1 5 (by decide) (by decide)).trans (occ.1 5 (by decide) (by decide) (by decide) (by decide))
  have f8 := (hcc.2.2.2.1 8 (by decide) (by decide)).trans (occ.1 8 (by decide) (by decide) (by decide) (by decide))
  have hw6 := hcc.2.2.2.2
  have hh16 := hadF_lt (D := D) hro (c := c) (kn := kn)
  have oa := hr.2.2.2.2.2.2.2.2.2.2.2.2.2.2.2.2.2
  obtain ⟨-, q0, q1, q2, q3, q4, q5, qd, q7, q8, -, -, -, -, -, -, qw0, qw⟩ := occ
  have oth := ho.2.1.2 (cN D.2.2.1 c 2) q2
  have ol : lostD D c ≤ 1999 := oth.1
  have s0 := hrp.1 0 (by decide)
  have s1 := hrp.1 1 (by decide)
  have s2 := hrp.1 2 (by decide)
  have s3 := hrp.1 3 (by decide)
  refine kx_aload_n (pc := 137) (kx_dd d_Do_failuresOf 76 rfl) rfl rfl ?_
  refine kx_getI (pc := 138) fl_Do_117 (by rw [hcc.2.2.1]) rfl (kx_dd d_Do_failuresOf 77 rfl) ?_
  refine kx_iconst (pc := 141) (v := 3) (kx_dd d_Do_failuresOf 78 rfl) rfl ?_
  refine kx_icmp_ne (pc := 142) (tgt := 152) (kx_dd d_Do_failuresOf 79 rfl) rfl (fun c142 => ?_) (fun c142 => ?_)
  · rw [f8, show (3 : Int32) = nI 3 from rfl, nI_eq (by omega) (by decide)] at c142
    have e9 : f32N D c x = x := orC_f c142
    exact x_Do_fail152 hs D A ho hp a hr r hro hrp c hc kn hkn x (by rw [← e9]; exact he)
  · refine kx_iload (pc := 145) (kx_dd d_Do_failuresOf 80 rfl) rfl ?_
    refine kx_bipush (pc := 147) (v := 32) (kx_dd d_Do_failuresOf 81 rfl) rfl ?_
    refine kx_ior (pc := 149) (kx_dd d_Do_failuresOf 82 rfl) ?_
    refine kx_istore_e (pc := 150) (lv' := [_, _, _, _, _, _, _]) (kx_dd d_Do_failuresOf 83 rfl) (Nat.le_of_ble_eq_true rfl) rfl ?_
    rw [f8, show (3 : Int32) = nI 3 from rfl, nI_eq (by omega) (by decide)] at c142
    have e9 : f32N D c x = x ||| 32 := orC_t c142
    rw [show (32 : Int32) = nI 32 from rfl, nI_or]
    exact x_Do_fail152 hs D A ho hp a hr r hro hrp c hc kn hkn (x ||| 32) (by rw [← e9]; exact he)
theorem x_Do_fail117 {l : Launch} {g : kx_G} {d : Nat} {h : kx_Mem} (hs : SC h) (D : DK) (A : DA) (ho : DKok D) (hp : DKc D A h) (a : Nat) (hr : IsRu h a) (r : RU) (hro : RUok r) (hrp : RUc r a h) (c : Nat) (hc : c < D.2.2.1.1) (kn : Nat) (hkn : kn < 2 ^ 31) (x : Nat) (he : f32N D c (f16N D r c kn x) = faiF D r c kn) : kx_X (l, g, m_Do_failuresOf, d + 4, 0, 0, (fun v h' => v = some (.int (nI (faiF D r c kn))) ∧ h' = h)) 0 0 117 [some (.ref 39), some (.ref (A.1 c)), some (.ref a), some (.int (nI kn)), some (.int (nI (lostD D c))), some (.int (nI (hadF D r c kn))), some (.int (nI x))] [] h := by
  have o60 := ho.2.2.1.1
  have o150 := ho.2.2.2.1
  have oP := ho.1.1
  have hcc := hp.2.2.2.2.1.2 c hc
  have occ := ho.2.2.1.2 c hc
  have f2 := (hcc.2.2.2.1 2 (by decide) (by decide)).trans (occ.1 2 (by decide) (by decide) (by decide) (by decide))
  have f5 := (hcc.2.2.2.1 5 (by decide) (by decide)).trans (occ.1 5 (by decide) (by decide) (by decide) (by decide))
  have f8 := (hcc.2.2.2.1 8 (by decide) (by decide)).trans (occ.1 8 (by decide) (by decide) (by decide) (by decide))
  have hw6 := hcc.2.2.2.2
  have hh16 := hadF_lt (D := D) hro (c := c) (kn := kn)
  have oa := hr.2.2.2.2.2.2.2.2.2.2.2.2.2.2.2.2.2
  obtain ⟨-, q0, q1, q2, q3, q4, q5, qd, q7, q8, -, -, -, -, -, -, qw0, qw⟩ := occ
  have oth := ho.2.1.2 (cN D.2.2.1 c 2) q2
  have ol : lostD D c ≤ 1999 := oth.1
  have s0 := hrp.1 0 (by decide)
  have s1 := hrp.1 1 (by decide)
  have s2 := hrp.1 2 (by decide)
  have s3 := hrp.1 3 (by decide)
  refine kx_aload_n (pc := 117) (kx_dd d_Do_failuresOf 66 rfl) rfl rfl ?_
  refine kx_aload_n (pc := 118) (kx_dd d_Do_failuresOf 67 rfl) rfl rfl ?_
  refine kx_getL (pc := 119) fl_Do_109 (by rw [hcc.2.2.1]) rfl (kx_dd d_Do_failuresOf 68 rfl) ?_
  refine kx_iload (pc := 122) (kx_dd d_Do_failuresOf 69 rfl) rfl ?_
  rw [hw6]
  refine kx_invV (pc := 124) (a := a) (as := [_, _]) (kx_dd d_Do_failuresOf 70 rfl) ⟨lk_Do_113, wi_Ru_meetsDemands, we_Ru_meetsDemands⟩ w_Ru_meetsDemands (by rw [hr.1]) rfl rfl rfl rfl (Nat.le_of_ble_eq_true rfl) (x_Ru_meetsDemands (d := d + 3) a hr r hro hrp (D.2.2.1.2.2 c) (hadF D r c kn) qw (by omega)) (Nat.le_refl _) ⟨Nat.le_refl _, Nat.le_refl _⟩ (fun v h' hq => ?_)
  obtain ⟨rfl, he⟩ := hq
  rw [he]
  clear he
  refine kx_if_ne (pc := 127) (tgt := 137) (kx_dd d_Do_failuresOf 71 rfl) rfl (fun c127 => ?_) (fun c127 => ?_)
  · rw [bP_0, Classical.not_not] at c127
    have e9 : f16N D r c kn x = x := orC_f (fun z => z c127)
    exact x_Do_fail137 hs D A ho hp a hr r hro hrp c hc kn hkn x (by rw [← e9]; exact he)
  · refine kx_iload (pc := 130) (kx_dd d_Do_failuresOf 72 rfl) rfl ?_
    refine kx_bipush (pc := 132) (v := 16) (kx_dd d_Do_failuresOf 73 rfl) rfl ?_
    refine kx_ior (pc := 134) (kx_dd d_Do_failuresOf 74 rfl) ?_
    refine kx_istore_e (pc := 135) (lv' := [_, _, _, _, _, _, _]) (kx_dd d_Do_failuresOf 75 rfl) (Nat.le_of_ble_eq_true rfl) rfl ?_
    rw [bP_0] at c127
    have e9 : f16N D r c kn x = x ||| 16 := orC_t c127
    rw [show (16 : Int32) = nI 16 from rfl, nI_or]
    exact x_Do_fail137 hs D A ho hp a hr r hro hrp c hc kn hkn (x ||| 16) (by rw [← e9]; exact he)
theorem x_Do_fail93 {l : Launch} {g : kx_G} {d : Nat} {h : kx_Mem} (hs : SC h) (D : DK) (A : DA) (ho : DKok D) (hp : DKc D A h) (a : Nat) (hr : IsRu h a) (r : RU) (hro : RUok r) (hrp : RUc r a h) (c : Nat) (hc : c < D.2.2.1.1) (kn : Nat) (hkn : kn < 2 ^ 31) (x : Nat) (he : f32N D c (f16N D r c kn (f8N D r c kn x)) = faiF D r c kn) : kx_X (l, g, m_Do_failuresOf, d + 4, 0, 0, (fun v h' => v = some (.int (nI (faiF D r c kn))) ∧ h' = h)) 0 0 93 [some (.ref 39), some (.ref (A.1 c)), some (.ref a), some (.int (nI kn)), some (.int (nI (lostD D c))), some (.int (nI (hadF D r c kn))), some (.int (nI x))] [] h := by
  have o60 := ho.2.2.1.1
  have o150 := ho.2.2.2.1
  have oP := ho.1.1
  have hcc := hp.2.2.2.2.1.2 c hc
  have occ := ho.2.2.1.2 c hc
  have f2 := (hcc.2.2.2.1 2 (by decide) (by decide)).trans (occ.1 2 (by decide) (by decide) (by decide) (by decide))
  have f5 := (hcc.2.2.2.1 5 (by decide) (by decide)).trans (occ.1 5 (by decide) (by decide) (by decide) (by decide))
  have f8 := (hcc.2.2.2.1 8 (by decide) (by decide)).trans (occ.1 8 (by decide) (by decide) (by decide) (by decide))
  have hw6 := hcc.2.2.2.2
  have hh16 := hadF_lt (D := D) hro (c := c) (kn := kn)
  have oa := hr.2.2.2.2.2.2.2.2.2.2.2.2.2.2.2.2.2
  obtain ⟨-, q0, q1, q2, q3, q4, q5, qd, q7, q8, -, -, -, -, -, -, qw0, qw⟩ := occ
  have oth := ho.2.1.2 (cN D.2.2.1 c 2) q2
  have ol : lostD D c ≤ 1999 := oth.1
  have s0 := hrp.1 0 (by decide)
  have s1 := hrp.1 1 (by decide)
  have s2 := hrp.1 2 (by decide)
  have s3 := hrp.1 3 (by decide)
  refine kx_aload_n (pc := 93) (kx_dd d_Do_failuresOf 54 rfl) rfl rfl ?_
  refine kx_iload (pc := 94) (kx_dd d_Do_failuresOf 55 rfl) rfl ?_
  refine kx_invV (pc := 96) (a := a) (as := [_]) (kx_dd d_Do_failuresOf 56 rfl) ⟨lk_Do_106, wi_Ru_pointsOf, we_Ru_pointsOf⟩ w_Ru_pointsOf (by rw [hr.1]) rfl rfl rfl rfl (Nat.le_of_ble_eq_true rfl) (x_Ru_pointsOf (d := d + 3) a hr r hro hrp (hadF D r c kn) (by omega)) (Nat.le_refl _) ⟨Nat.le_refl _, Nat.le_refl _⟩ (fun v h' hq => ?_)
  obtain ⟨rfl, he⟩ := hq
  rw [he]
  clear he
  refine kx_aload_n (pc := 99) (kx_dd d_Do_failuresOf 57 rfl) rfl rfl ?_
  refine kx_aload_n (pc := 100) (kx_dd d_Do_failuresOf 58 rfl) rfl rfl ?_
  refine kx_getL (pc := 101) fl_Do_109 (by rw [hcc.2.2.1]) rfl (kx_dd d_Do_failuresOf 59 rfl) ?_
  rw [hw6]
  refine kx_invV (pc := 104) (a := a) (as := [_]) (kx_dd d_Do_failuresOf 60 rfl) ⟨lk_Do_110, wi_Ru_needOf, we_Ru_needOf⟩ w_Ru_needOf (by rw [hr.1]) rfl rfl rfl rfl (Nat.le_of_ble_eq_true rfl) (x_Ru_needOf (d := d + 2) a hr r hro hrp (D.2.2.1.2.2 c) qw) (Nat.le_refl _) ⟨Nat.le_refl _, Nat.le_refl _⟩ (fun v h' hq => ?_)
  obtain ⟨rfl, he⟩ := hq
  rw [he]
  clear he
  refine kx_icmp_ge (pc := 107) (tgt := 117) (kx_dd d_Do_failuresOf 61 rfl) rfl (fun c107 => ?_) (fun c107 => ?_)
  · rw [nI_leI (by have := nedF_le hro (D.2.2.1.2.2 c); omega) (by have := ptF_le hro (hadF D r c kn); omega)] at c107
    have e9 : f8N D r c kn x = x := orC_f (by omega)
    exact x_Do_fail117 hs D A ho hp a hr r hro hrp c hc kn hkn x (by rw [← e9]; exact he)
  · refine kx_iload (pc := 110) (kx_dd d_Do_failuresOf 62 rfl) rfl ?_
    refine kx_bipush (pc := 112) (v := 8) (kx_dd d_Do_failuresOf 63 rfl) rfl ?_
    refine kx_ior (pc := 114) (kx_dd d_Do_failuresOf 64 rfl) ?_
    refine kx_istore_e (pc := 115) (lv' := [_, _, _, _, _, _, _]) (kx_dd d_Do_failuresOf 65 rfl) (Nat.le_of_ble_eq_true rfl) rfl ?_
    rw [nI_leI (by have := nedF_le hro (D.2.2.1.2.2 c); omega) (by have := ptF_le hro (hadF D r c kn); omega)] at c107
    have e9 : f8N D r c kn x = x ||| 8 := orC_t (by omega)
    rw [show (8 : Int32) = nI 8 from rfl, nI_or]
    exact x_Do_fail117 hs D A ho hp a hr r hro hrp c hc kn hkn (x ||| 8) (by rw [← e9]; exact he)
theorem x_Do_fail70 {l : Launch} {g : kx_G} {d : Nat} {h : kx_Mem} (hs : SC h) (D : DK) (A : DA) (ho : DKok D) (hp : DKc D A h) (a : Nat) (hr : IsRu h a) (r : RU) (hro : RUok r) (hrp : RUc r a h) (c : Nat) (hc : c < D.2.2.1.1) (kn : Nat) (hkn : kn < 2 ^ 31) (x : Nat) (he : f32N D c (f16N D r c kn (f8N D r c kn (f4N D r c kn x))) = faiF D r c kn) : kx_X (l, g, m_Do_failuresOf, d + 4, 0, 0, (fun v h' => v = some (.int (nI (faiF D r c kn))) ∧ h' = h)) 0 0 70 [some (.ref 39), some (.ref (A.1 c)), some (.ref a), some (.int (nI kn)), some (.int (nI (lostD D c))), some (.int (nI (hadF D r c kn))), some (.int (nI x))] [] h := by
  have o60 := ho.2.2.1.1
  have o150 := ho.2.2.2.1
  have oP := ho.1.1
  have hcc := hp.2.2.2.2.1.2 c hc
  have occ := ho.2.2.1.2 c hc
  have f2 := (hcc.2.2.2.1 2 (by decide) (by decide)).trans (occ.1 2 (by decide) (by decide) (by decide) (by decide))
  have f5 := (hcc.2.2.2.1 5 (by decide) (by decide)).trans (occ.1 5 (by decide) (by decide) (by decide) (by decide))
  have f8 := (hcc.2.2.2.1 8 (by decide) (by decide)).trans (occ.1 8 (by decide) (by decide) (by decide) (by decide))
  have hw6 := hcc.2.2.2.2
  have hh16 := hadF_lt (D := D) hro (c := c) (kn := kn)
  have oa := hr.2.2.2.2.2.2.2.2.2.2.2.2.2.2.2.2.2
  obtain ⟨-, q0, q1, q2, q3, q4, q5, qd, q7, q8, -, -, -, -, -, -, qw0, qw⟩ := occ
  have oth := ho.2.1.2 (cN D.2.2.1 c 2) q2
  have ol : lostD D c ≤ 1999 := oth.1
  have s0 := hrp.1 0 (by decide)
  have s1 := hrp.1 1 (by decide)
  have s2 := hrp.1 2 (by decide)
  have s3 := hrp.1 3 (by decide)
  refine kx_aload_n (pc := 70) (kx_dd d_Do_failuresOf 40 rfl) rfl rfl ?_
  refine kx_aload_n (pc := 71) (kx_dd d_Do_failuresOf 41 rfl) rfl rfl ?_
  refine kx_iload (pc := 72) (kx_dd d_Do_failuresOf 42 rfl) rfl ?_
  refine kx_aload_n (pc := 74) (kx_dd d_Do_failuresOf 43 rfl) rfl rfl ?_
  refine kx_getR (pc := 75) (b := (a + 1)) fl_Do_95 (by rw [hr.1]) rfl (hr.2.2.2.2.2.2.2.2.2.1) (kx_dd d_Do_failuresOf 44 rfl) ?_
  refine kx_iconst (pc := 78) (v := 3) (kx_dd d_Do_failuresOf 45 rfl) rfl ?_
  refine kx_ialdn (pc := 79) 3 (hr.2.1) rfl (by decide) (by decide) (kx_dd d_Do_failuresOf 46 rfl) ?_
  refine kx_iload_n (pc := 80) (kx_dd d_Do_failuresOf 47 rfl) rfl rfl ?_
  rw [s3]
  refine kx_invV (pc := 81) (a := 39) (as := [_, _, _, _]) (kx_dd d_Do_failuresOf 48 rfl) ⟨lk_Do_102, wi_Do_isOfNation, we_Do_isOfNation⟩ w_Do_isOfNation (hs.k 39 rfl) rfl rfl rfl rfl (Nat.le_of_ble_eq_true rfl) (x_Do_isOfNation (d := d) hs D A ho hp c hc (lostD D c) (by omega) (ruS r 3) kn hkn) (Nat.le_refl _) ⟨Nat.le_refl _, Nat.le_refl _⟩ (fun v h' hq => ?_)
  obtain ⟨rfl, he⟩ := hq
  rw [he]
  clear he
  refine kx_if_ne (pc := 84) (tgt := 93) (kx_dd d_Do_failuresOf 49 rfl) rfl (fun c84 => ?_) (fun c84 => ?_)
  · rw [bP_0, Classical.not_not] at c84
    have e9 : f4N D r c kn x = x := orC_f (fun z => z c84)
    exact x_Do_fail93 hs D A ho hp a hr r hro hrp c hc kn hkn x (by rw [← e9]; exact he)
  · refine kx_iload (pc := 87) (kx_dd d_Do_failuresOf 50 rfl) rfl ?_
    refine kx_iconst (pc := 89) (v := 4) (kx_dd d_Do_failuresOf 51 rfl) rfl ?_
    refine kx_ior (pc := 90) (kx_dd d_Do_failuresOf 52 rfl) ?_
    refine kx_istore_e (pc := 91) (lv' := [_, _, _, _, _, _, _]) (kx_dd d_Do_failuresOf 53 rfl) (Nat.le_of_ble_eq_true rfl) rfl ?_
    rw [bP_0] at c84
    have e9 : f4N D r c kn x = x ||| 4 := orC_t c84
    rw [show (4 : Int32) = nI 4 from rfl, nI_or]
    exact x_Do_fail93 hs D A ho hp a hr r hro hrp c hc kn hkn (x ||| 4) (by rw [← e9]; exact he)
theorem x_Do_fail44 {l : Launch} {g : kx_G} {d : Nat} {h : kx_Mem} (hs : SC h) (D : DK) (A : DA) (ho : DKok D) (hp : DKc D A h) (a : Nat) (hr : IsRu h a) (r : RU) (hro : RUok r) (hrp : RUc r a h) (c : Nat) (hc : c < D.2.2.1.1) (kn : Nat) (hkn : kn < 2 ^ 31) (x : Nat) (he : f32N D c (f16N D r c kn (f8N D r c kn (f4N D r c kn (f2N D r c x)))) = faiF D r c kn) : kx_X (l, g, m_Do_failuresOf, d + 4, 0, 0, (fun v h' => v = some (.int (nI (faiF D r c kn))) ∧ h' = h)) 0 0 44 [some (.ref 39), some (.ref (A.1 c)), some (.ref a), some (.int (nI kn)), some (.int (nI (lostD D c))), some (.int (nI (hadF D r c kn))), some (.int (nI x))] [] h := by
  have o60 := ho.2.2.1.1
  have o150 := ho.2.2.2.1
  have oP := ho.1.1
  have hcc := hp.2.2.2.2.1.2 c hc
  have occ := ho.2.2.1.2 c hc
  have f2 := (hcc.2.2.2.1 2 (by decide) (by decide)).trans (occ.1 2 (by decide) (by decide) (by decide) (by decide))
  have f5 := (hcc.2.2.2.1 5 (by decide) (by decide)).trans (occ.1 5 (by decide) (by decide) (by decide) (by decide))
  have f8 := (hcc.2.2.2.1 8 (by decide) (by decide)).trans (occ.1 8 (by decide) (by decide) (by decide) (by decide))
  have hw6 := hcc.2.2.2.2
  have hh16 := hadF_lt (D := D) hro (c := c) (kn := kn)
  have oa := hr.2.2.2.2.2.2.2.2.2.2.2.2.2.2.2.2.2
  obtain ⟨-, q0, q1, q2, q3, q4, q5, qd, q7, q8, -, -, -, -, -, -, qw0, qw⟩ := occ
  have oth := ho.2.1.2 (cN D.2.2.1 c 2) q2
  have ol : lostD D c ≤ 1999 := oth.1
  have s0 := hrp.1 0 (by decide)
  have s1 := hrp.1 1 (by decide)
  have s2 := hrp.1 2 (by decide)
  have s3 := hrp.1 3 (by decide)
  refine kx_iload (pc := 44) (kx_dd d_Do_failuresOf 25 rfl) rfl ?_
  refine kx_aload_n (pc := 46) (kx_dd d_Do_failuresOf 26 rfl) rfl rfl ?_
  refine kx_getR (pc := 47) (b := (a + 1)) fl_Do_95 (by rw [hr.1]) rfl (hr.2.2.2.2.2.2.2.2.2.1) (kx_dd d_Do_failuresOf 27 rfl) ?_
  refine kx_iconst (pc := 50) (v := 1) (kx_dd d_Do_failuresOf 28 rfl) rfl ?_
  refine kx_ialdn (pc := 51) 1 (hr.2.1) rfl (by decide) (by decide) (kx_dd d_Do_failuresOf 29 rfl) ?_
  refine kx_aload_n (pc := 52) (kx_dd d_Do_failuresOf 30 rfl) rfl rfl ?_
  refine kx_getR (pc := 53) (b := (a + 1)) fl_Do_95 (by rw [hr.1]) rfl (hr.2.2.2.2.2.2.2.2.2.1) (kx_dd d_Do_failuresOf 31 rfl) ?_
  refine kx_iconst (pc := 56) (v := 2) (kx_dd d_Do_failuresOf 32 rfl) rfl ?_
  refine kx_ialdn (pc := 57) 2 (hr.2.1) rfl (by decide) (by decide) (kx_dd d_Do_failuresOf 33 rfl) ?_
  rw [s1, s2]
  refine kx_invS (pc := 58) (as := [_, _, _]) (kx_dd d_Do_failuresOf 34 rfl) ⟨lk_Do_99, wt_Tc_within⟩ w_Tc_within rfl rfl (Nat.le_of_ble_eq_true rfl) (x_Tc_within (d := d + 3) _ _ _) (Nat.le_refl _) ⟨Nat.le_refl _, Nat.le_refl _⟩ (fun v h' hq => ?_)
  obtain ⟨rfl, he⟩ := hq
  rw [he]
  clear he
  refine kx_if_ne (pc := 61) (tgt := 70) (kx_dd d_Do_failuresOf 35 rfl) rfl (fun c61 => ?_) (fun c61 => ?_)
  · rw [bP_0, Classical.not_not] at c61
    have e9 : f2N D r c x = x := orC_f (fun z => z c61)
    exact x_Do_fail70 hs D A ho hp a hr r hro hrp c hc kn hkn x (by rw [← e9]; exact he)
  · refine kx_iload (pc := 64) (kx_dd d_Do_failuresOf 36 rfl) rfl ?_
    refine kx_iconst (pc := 66) (v := 2) (kx_dd d_Do_failuresOf 37 rfl) rfl ?_
    refine kx_ior (pc := 67) (kx_dd d_Do_failuresOf 38 rfl) ?_
    refine kx_istore_e (pc := 68) (lv' := [_, _, _, _, _, _, _]) (kx_dd d_Do_failuresOf 39 rfl) (Nat.le_of_ble_eq_true rfl) rfl ?_
    rw [bP_0] at c61
    have e9 : f2N D r c x = x ||| 2 := orC_t c61
    rw [show (2 : Int32) = nI 2 from rfl, nI_or]
    exact x_Do_fail70 hs D A ho hp a hr r hro hrp c hc kn hkn (x ||| 2) (by rw [← e9]; exact he)
theorem x_Do_failuresOf {l : Launch} {g : kx_G} {d : Nat} {h : kx_Mem} (hs : SC h) (D : DK) (A : DA) (ho : DKok D) (hp : DKc D A h) (a : Nat) (hr : IsRu h a) (r : RU) (hro : RUok r) (hrp : RUc r a h) (c : Nat) (hc : c < D.2.2.1.1) (kn : Nat) (hkn : kn < 2 ^ 31) : kx_Sp l g m_Do_failuresOf [.ref 39, .ref (A.1 c), .ref a, .int (nI kn)] h (d + 4) 0 0 (fun v h' => v = some (.int (nI (faiF D r c kn))) ∧ h' = h) := by
  have o60 := ho.2.2.1.1
  have o150 := ho.2.2.2.1
  have oP := ho.1.1
  have hcc := hp.2.2.2.2.1.2 c hc
  have occ := ho.2.2.1.2 c hc
  have f2 := (hcc.2.2.2.1 2 (by decide) (by decide)).trans (occ.1 2 (by decide) (by decide) (by decide) (by decide))
  have f5 := (hcc.2.2.2.1 5 (by decide) (by decide)).trans (occ.1 5 (by decide) (by decide) (by decide) (by decide))
  have f8 := (hcc.2.2.2.1 8 (by decide) (by decide)).trans (occ.1 8 (by decide) (by decide) (by decide) (by decide))
  have hw6 := hcc.2.2.2.2
  have hh16 := hadF_lt (D := D) hro (c := c) (kn := kn)
  have oa := hr.2.2.2.2.2.2.2.2.2.2.2.2.2.2.2.2.2
  obtain ⟨-, q0, q1, q2, q3, q4, q5, qd, q7, q8, -, -, -, -, -, -, qw0, qw⟩ := occ
  have oth := ho.2.1.2 (cN D.2.2.1 c 2) q2
  have ol : lostD D c ≤ 1999 := oth.1
  have s0 := hrp.1 0 (by decide)
  have s1 := hrp.1 1 (by decide)
  have s2 := hrp.1 2 (by decide)
  have s3 := hrp.1 3 (by decide)
  refine kx_enter_e (lv := [_, _, _, _, _, _, _]) (by decide +kernel) (Nat.le_of_ble_eq_true rfl) rfl ?_
  refine kx_aload_n (pc := 0) (kx_dd d_Do_failuresOf 0 rfl) rfl rfl ?_
  refine kx_getR (pc := 1) (b := 34) fl_Do_25 (hs.k 39 rfl) rfl (hs.r 42 rfl) (kx_dd d_Do_failuresOf 1 rfl) ?_
  refine kx_aload_n (pc := 4) (kx_dd d_Do_failuresOf 2 rfl) rfl rfl ?_
  refine kx_getI (pc := 5) fl_Do_79 (by rw [hcc.2.2.1]) rfl (kx_dd d_Do_failuresOf 3 rfl) ?_
  rw [f2]
  refine kx_invV (pc := 8) (a := 34) (as := [_]) (kx_dd d_Do_failuresOf 4 rfl) ⟨lk_Do_82, wi_Th_dayOf, we_Th_dayOf⟩ w_Th_dayOf (hs.k 34 rfl) rfl rfl rfl rfl (Nat.le_of_ble_eq_true rfl) (x_Th_dayOf (d := d + 2) hs D.2.1 ho.2.1 hp.2.1 (cN D.2.2.1 c 2) q2) (Nat.le_refl _) ⟨Nat.le_refl _, Nat.le_refl _⟩ (fun v h' hq => ?_)
  obtain ⟨rfl, he⟩ := hq
  rw [he]
  clear he
  refine kx_istore_e (pc := 11) (lv' := [_, _, _, _, _, _, _]) (kx_dd d_Do_failuresOf 5 rfl) (Nat.le_of_ble_eq_true rfl) rfl ?_
  refine kx_aload_n (pc := 13) (kx_dd d_Do_failuresOf 6 rfl) rfl rfl ?_
  refine kx_aload_n (pc := 14) (kx_dd d_Do_failuresOf 7 rfl) rfl rfl ?_
  refine kx_aload_n (pc := 15) (kx_dd d_Do_failuresOf 8 rfl) rfl rfl ?_
  refine kx_iload_n (pc := 16) (kx_dd d_Do_failuresOf 9 rfl) rfl rfl ?_
  refine kx_invV (pc := 17) (a := 39) (as := [_, _, _]) (kx_dd d_Do_failuresOf 10 rfl) ⟨lk_Do_88, wi_Do_hadKinds, we_Do_hadKinds⟩ w_Do_hadKinds (hs.k 39 rfl) rfl rfl rfl rfl (Nat.le_of_ble_eq_true rfl) (x_Do_hadKinds (d := d) hs D A ho hp a hr r hro hrp c hc kn hkn) (Nat.le_refl _) ⟨Nat.le_refl _, Nat.le_refl _⟩ (fun v h' hq => ?_)
  obtain ⟨rfl, he⟩ := hq
  rw [he]
  clear he
  refine kx_istore_e (pc := 20) (lv' := [_, _, _, _, _, _, _]) (kx_dd d_Do_failuresOf 11 rfl) (Nat.le_of_ble_eq_true rfl) rfl ?_
  refine kx_iconst (pc := 22) (v := 0) (kx_dd d_Do_failuresOf 12 rfl) rfl ?_
  refine kx_istore_e (pc := 23) (lv' := [_, _, _, _, _, _, _]) (kx_dd d_Do_failuresOf 13 rfl) (Nat.le_of_ble_eq_true rfl) rfl ?_
  refine kx_aload_n (pc := 25) (kx_dd d_Do_failuresOf 14 rfl) rfl rfl ?_
  refine kx_getI (pc := 26) fl_Do_92 (by rw [hcc.2.2.1]) rfl (kx_dd d_Do_failuresOf 15 rfl) ?_
  refine kx_aload_n (pc := 29) (kx_dd d_Do_failuresOf 16 rfl) rfl rfl ?_
  refine kx_getR (pc := 30) (b := (a + 1)) fl_Do_95 (by rw [hr.1]) rfl (hr.2.2.2.2.2.2.2.2.2.1) (kx_dd d_Do_failuresOf 17 rfl) ?_
  refine kx_iconst (pc := 33) (v := 0) (kx_dd d_Do_failuresOf 18 rfl) rfl ?_
  refine kx_ialdn (pc := 34) 0 (hr.2.1) rfl (by decide) (by decide) (kx_dd d_Do_failuresOf 19 rfl) ?_
  refine kx_icmp_le (pc := 35) (tgt := 44) (kx_dd d_Do_failuresOf 20 rfl) rfl (fun c35 => ?_) (fun c35 => ?_)
  · rw [s0, f5] at c35
    have e9 : f1N D r c 0 = 0 := orC_f (Int32.not_lt.mpr c35)
    rw [show (0 : Int32) = nI 0 from rfl]
    exact x_Do_fail44 hs D A ho hp a hr r hro hrp c hc kn hkn 0 (by rw [← e9]; rfl)
  · refine kx_iload (pc := 38) (kx_dd d_Do_failuresOf 21 rfl) rfl ?_
    refine kx_iconst (pc := 40) (v := 1) (kx_dd d_Do_failuresOf 22 rfl) rfl ?_
    refine kx_ior (pc := 41) (kx_dd d_Do_failuresOf 23 rfl) ?_
    refine kx_istore_e (pc := 42) (lv' := [_, _, _, _, _, _, _]) (kx_dd d_Do_failuresOf 24 rfl) (Nat.le_of_ble_eq_true rfl) rfl ?_
    rw [s0, f5] at c35
    have e9 : f1N D r c 0 = 0 ||| 1 := orC_t (Int32.not_le.mp c35)
    rw [show (0 : Int32) ||| 1 = nI (0 ||| 1) by decide]
    exact x_Do_fail44 hs D A ho hp a hr r hro hrp c hc kn hkn (0 ||| 1) (by rw [← e9]; rfl)
def sumA (s : CSt) : Nat → Nat
  | 0 => 0
  | k + 1 => sumA s k + cN s k 10
def cntS (s : CSt) (w : Int32) : Nat → Nat
  | 0 => 0
  | k + 1 => if s.2.1 k 8 = w then cntS s w k + 1 else cntS s w k
def sumP2 (s : CSt) : Nat → Nat
  | 0 => 0
  | k + 1 => if cN s k 8 = 0 ∨ cN s k 8 = 1 then sumP2 s k + cN s k 4 else sumP2 s k
theorem sumA_le {P : Nat} {ts : TS} {s : CSt} (ho : CSok P ts s) : ∀ k, k ≤ s.1 → sumA s k ≤ 6600000 * k
  | 0, _ => Nat.le_refl _
  | k + 1, hk => by
    have := sumA_le ho k (by omega)
    have := (ho.2 k (by omega)).2.2.2.2.2.2.2.2.2.2.2.1
    unfold sumA
    omega
theorem cntS_le {s : CSt} {w : Int32} : ∀ k, cntS s w k ≤ k
  | 0 => Nat.le_refl _
  | k + 1 => by
    have := cntS_le (s := s) (w := w) k
    unfold cntS
    split <;> omega
theorem sumP2_le {P : Nat} {ts : TS} {s : CSt} (ho : CSok P ts s) : ∀ k, k ≤ s.1 → sumP2 s k ≤ 999999 * k
  | 0, _ => Nat.le_refl _
  | k + 1, hk => by
    have := sumP2_le ho k (by omega)
    have := (ho.2 k (by omega)).2.2.2.2.2.1
    unfold sumP2
    split <;> omega
noncomputable def besN (D : DK) (r r' : RU) (kn : Nat) : Nat → Nat
  | 0 => 0
  | k + 1 => if faiF D r k kn = 0 ∧ faiF D r' k kn ≠ 0 then besN D r r' kn k + 1 else besN D r r' kn k
theorem x_Do_countOf_loop {l : Launch} {g : kx_G} {d : Nat} {h : kx_Mem} (hs : SC h) (D : DK) (A : DA) (ho : DKok D) (hp : DKc D A h) (w : Int32) : ∀ n k, k + n = D.2.2.1.1 →  kx_X (l, g, m_Do_countOf, d + 3, 0, 0, (fun v h' => v = some (.int (nI (cntS D.2.2.1 w D.2.2.1.1))) ∧ h' = h)) 0 0 4 [some (.ref 39), some (.int w), some (.int (nI (cntS D.2.2.1 w k))), some (.int (nI k))] [] (h) := by
  intro n
  induction n with
  | zero =>
    intro k hk 
    have hk0 : k = D.2.2.1.1 := by omega
    subst hk0
    have o60 := ho.2.2.1.1
    have o150 := ho.2.2.2.1
    have oP := ho.1.1
    refine kx_iload_n (pc := 4) (kx_dd d_Do_countOf 4 rfl) rfl rfl ?_
    refine kx_aload_n (pc := 5) (kx_dd d_Do_countOf 5 rfl) rfl rfl ?_
    refine kx_getR (pc := 6) (b := 40) fl_Do_12 (hs.k 39 rfl) rfl (hs.r 43 rfl) (kx_dd d_Do_countOf 6 rfl) ?_
    refine kx_invV (pc := 9) (a := 40) (as := []) (kx_dd d_Do_countOf 7 rfl) ⟨lk_Do_29, wi_AL_size, we_AL_size⟩ w_AL_size (hs.k 40 rfl) rfl rfl rfl rfl (Nat.le_of_ble_eq_true rfl) (x_AL_size (d := d + 2) 40 _ _ _ _ (DKc.k40 hs).1 hp.2.2.1) (Nat.le_refl _) ⟨Nat.le_refl _, Nat.le_refl _⟩ (fun v h' hq => ?_)
    obtain ⟨rfl, he⟩ := hq
    rw [he]
    clear he
    refine kx_icmp_ge (pc := 12) (tgt := 42) (kx_dd d_Do_countOf 8 rfl) rfl (fun c12 => ?_) (fun c12 => ?_)
    · refine kx_iload_n (pc := 42) (kx_dd d_Do_countOf 20 rfl) rfl rfl ?_
      refine kx_iret (pc := 43) rfl (kx_dd d_Do_countOf 21 rfl) (Nat.le_refl _) (Nat.le_refl _) ?_
      exact ⟨rfl, rfl⟩
    · exact absurd (by exact Int32.le_refl _) c12
  | succ n ih =>
    intro k hk 
    have o60 := ho.2.2.1.1
    have o150 := ho.2.2.2.1
    have oP := ho.1.1
    have hcc := hp.2.2.2.2.1.2 k (by omega)
    have occ := ho.2.2.1.2 k (by omega)
    refine kx_iload_n (pc := 4) (kx_dd d_Do_countOf 4 rfl) rfl rfl ?_
    refine kx_aload_n (pc := 5) (kx_dd d_Do_countOf 5 rfl) rfl rfl ?_
    refine kx_getR (pc := 6) (b := 40) fl_Do_12 (hs.k 39 rfl) rfl (hs.r 43 rfl) (kx_dd d_Do_countOf 6 rfl) ?_
    refine kx_invV (pc := 9) (a := 40) (as := []) (kx_dd d_Do_countOf 7 rfl) ⟨lk_Do_29, wi_AL_size, we_AL_size⟩ w_AL_size (hs.k 40 rfl) rfl rfl rfl rfl (Nat.le_of_ble_eq_true rfl) (x_AL_size (d := d + 2) 40 _ _ _ _ (DKc.k40 hs).1 hp.2.2.1) (Nat.le_refl _) ⟨Nat.le_refl _, Nat.le_refl _⟩ (fun v h' hq => ?_)
    obtain ⟨rfl, he⟩ := hq
    rw [he]
    clear he
    refine kx_icmp_ge (pc := 12) (tgt := 42) (kx_dd d_Do_countOf 8 rfl) rfl (fun c12 => ?_) (fun c12 => ?_)
    · exact absurd c12 (by exact nI_ge (by omega) (by omega))
    · refine kx_aload_n (pc := 15) (kx_dd d_Do_countOf 9 rfl) rfl rfl ?_
      refine kx_getR (pc := 16) (b := 40) fl_Do_12 (hs.k 39 rfl) rfl (hs.r 43 rfl) (kx_dd d_Do_countOf 10 rfl) ?_
      refine kx_iload_n (pc := 19) (kx_dd d_Do_countOf 11 rfl) rfl rfl ?_
      refine kx_invV (pc := 20) (a := 40) (as := [_]) (kx_dd d_Do_countOf 12 rfl) ⟨lk_Do_33, wi_AL_get, we_AL_get⟩ w_AL_get (hs.k 40 rfl) rfl rfl rfl rfl (Nat.le_of_ble_eq_true rfl) (x_AL_get (d := d) 40 _ _ _ _ (DKc.k40 hs).1 hp.2.2.1 k (by omega)) (Nat.le_refl _) ⟨Nat.le_refl _, Nat.le_refl _⟩ (fun v h' hq => ?_)
      obtain ⟨rfl, he⟩ := hq
      rw [he]
      clear he
      refine kx_cast (pc := 23) (ci := 1) (by rw [hcc.2.2.1]) rfl cl_Do_37 (kx_dd d_Do_countOf 13 rfl) ?_
      refine kx_getI (pc := 26) fl_Do_117 (by rw [hcc.2.2.1]) rfl (kx_dd d_Do_countOf 14 rfl) ?_
      refine kx_iload_n (pc := 29) (kx_dd d_Do_countOf 15 rfl) rfl rfl ?_
      refine kx_icmp_ne (pc := 30) (tgt := 36) (kx_dd d_Do_countOf 16 rfl) rfl (fun c30 => ?_) (fun c30 => ?_)
      · refine kx_iinc_e (pc := 36) (v := nI (k + 1)) (lv' := [_, _, _, _]) (kx_dd d_Do_countOf 18 rfl) rfl (Nat.le_of_ble_eq_true rfl) (nI_1 k) rfl ?_
        refine kx_goto (pc := 39) (tgt := 4) (kx_dd d_Do_countOf 19 rfl) rfl ?_
        rw [hcc.2.2.2.1 8 (by decide) (by decide)] at c30
        have e1 : cntS D.2.2.1 w (k + 1) = cntS D.2.2.1 w k := if_neg c30
        have ih1 := ih (k + 1) (by omega)
        rw [e1] at ih1
        exact ih1
      · refine kx_iinc_e (pc := 33) (v := nI (cntS D.2.2.1 w k + 1)) (lv' := [_, _, _, _]) (kx_dd d_Do_countOf 17 rfl) rfl (Nat.le_of_ble_eq_true rfl) (nI_1 _) rfl ?_
        refine kx_iinc_e (pc := 36) (v := nI (k + 1)) (lv' := [_, _, _, _]) (kx_dd d_Do_countOf 18 rfl) rfl (Nat.le_of_ble_eq_true rfl) (nI_1 k) rfl ?_
        refine kx_goto (pc := 39) (tgt := 4) (kx_dd d_Do_countOf 19 rfl) rfl ?_
        rw [hcc.2.2.2.1 8 (by decide) (by decide)] at c30
        have e1 : cntS D.2.2.1 w (k + 1) = cntS D.2.2.1 w k + 1 := if_pos c30
        have ih1 := ih (k + 1) (by omega)
        rw [e1] at ih1
        exact ih1
theorem x_Do_countOf {l : Launch} {g : kx_G} {d : Nat} {h : kx_Mem} (hs : SC h) (D : DK) (A : DA) (ho : DKok D) (hp : DKc D A h) (w : Int32) : kx_Sp l g m_Do_countOf [.ref 39, .int w] h (d + 3) 0 0 (fun v h' => v = some (.int (nI (cntS D.2.2.1 w D.2.2.1.1))) ∧ h' = h) := by
  refine kx_enter_e (lv := [_, _, _, _]) (by decide +kernel) (Nat.le_of_ble_eq_true rfl) rfl ?_
  refine kx_iconst (pc := 0) (v := 0) (kx_dd d_Do_countOf 0 rfl) rfl ?_
  refine kx_istore_ne (pc := 1) (lv' := [_, _, _, _]) (kx_dd d_Do_countOf 1 rfl) rfl (Nat.le_of_ble_eq_true rfl) rfl ?_
  refine kx_iconst (pc := 2) (v := 0) (kx_dd d_Do_countOf 2 rfl) rfl ?_
  refine kx_istore_ne (pc := 3) (lv' := [_, _, _, _]) (kx_dd d_Do_countOf 3 rfl) rfl (Nat.le_of_ble_eq_true rfl) rfl ?_
  exact x_Do_countOf_loop hs D A ho hp w D.2.2.1.1 0 (by omega)
theorem x_Do_sumA_loop {l : Launch} {g : kx_G} {d : Nat} {h : kx_Mem} (hs : SC h) (D : DK) (A : DA) (ho : DKok D) (hp : DKc D A h) : ∀ n k, k + n = D.2.2.1.1 →  kx_X (l, g, m_Do_sumOfAwards, d + 3, 0, 0, (fun v h' => v = some (.int (nI (sumA D.2.2.1 D.2.2.1.1))) ∧ h' = h)) 0 0 4 [some (.ref 39), some (.int (nI (sumA D.2.2.1 k))), some (.int (nI k))] [] (h) := by
  intro n
  induction n with
  | zero =>
    intro k hk 
    have hk0 : k = D.2.2.1.1 := by omega
    subst hk0
    have o60 := ho.2.2.1.1
    have o150 := ho.2.2.2.1
    have oP := ho.1.1
    refine kx_iload_n (pc := 4) (kx_dd d_Do_sumOfAwards 4 rfl) rfl rfl ?_
    refine kx_aload_n (pc := 5) (kx_dd d_Do_sumOfAwards 5 rfl) rfl rfl ?_
    refine kx_getR (pc := 6) (b := 40) fl_Do_12 (hs.k 39 rfl) rfl (hs.r 43 rfl) (kx_dd d_Do_sumOfAwards 6 rfl) ?_
    refine kx_invV (pc := 9) (a := 40) (as := []) (kx_dd d_Do_sumOfAwards 7 rfl) ⟨lk_Do_29, wi_AL_size, we_AL_size⟩ w_AL_size (hs.k 40 rfl) rfl rfl rfl rfl (Nat.le_of_ble_eq_true rfl) (x_AL_size (d := d + 2) 40 _ _ _ _ (DKc.k40 hs).1 hp.2.2.1) (Nat.le_refl _) ⟨Nat.le_refl _, Nat.le_refl _⟩ (fun v h' hq => ?_)
    obtain ⟨rfl, he⟩ := hq
    rw [he]
    clear he
    refine kx_icmp_ge (pc := 12) (tgt := 38) (kx_dd d_Do_sumOfAwards 8 rfl) rfl (fun c12 => ?_) (fun c12 => ?_)
    · refine kx_iload_n (pc := 38) (kx_dd d_Do_sumOfAwards 20 rfl) rfl rfl ?_
      refine kx_iret (pc := 39) rfl (kx_dd d_Do_sumOfAwards 21 rfl) (Nat.le_refl _) (Nat.le_refl _) ?_
      exact ⟨rfl, rfl⟩
    · exact absurd (by exact Int32.le_refl _) c12
  | succ n ih =>
    intro k hk 
    have o60 := ho.2.2.1.1
    have o150 := ho.2.2.2.1
    have oP := ho.1.1
    have hcc := hp.2.2.2.2.1.2 k (by omega)
    have occ := ho.2.2.1.2 k (by omega)
    refine kx_iload_n (pc := 4) (kx_dd d_Do_sumOfAwards 4 rfl) rfl rfl ?_
    refine kx_aload_n (pc := 5) (kx_dd d_Do_sumOfAwards 5 rfl) rfl rfl ?_
    refine kx_getR (pc := 6) (b := 40) fl_Do_12 (hs.k 39 rfl) rfl (hs.r 43 rfl) (kx_dd d_Do_sumOfAwards 6 rfl) ?_
    refine kx_invV (pc := 9) (a := 40) (as := []) (kx_dd d_Do_sumOfAwards 7 rfl) ⟨lk_Do_29, wi_AL_size, we_AL_size⟩ w_AL_size (hs.k 40 rfl) rfl rfl rfl rfl (Nat.le_of_ble_eq_true rfl) (x_AL_size (d := d + 2) 40 _ _ _ _ (DKc.k40 hs).1 hp.2.2.1) (Nat.le_refl _) ⟨Nat.le_refl _, Nat.le_refl _⟩ (fun v h' hq => ?_)
    obtain ⟨rfl, he⟩ := hq
    rw [he]
    clear he
    refine kx_icmp_ge (pc := 12) (tgt := 38) (kx_dd d_Do_sumOfAwards 8 rfl) rfl (fun c12 => ?_) (fun c12 => ?_)
    · exact absurd c12 (by exact nI_ge (by omega) (by omega))
    · refine kx_iload_n (pc := 15) (kx_dd d_Do_sumOfAwards 9 rfl) rfl rfl ?_
      refine kx_aload_n (pc := 16) (kx_dd d_Do_sumOfAwards 10 rfl) rfl rfl ?_
      refine kx_getR (pc := 17) (b := 40) fl_Do_12 (hs.k 39 rfl) rfl (hs.r 43 rfl) (kx_dd d_Do_sumOfAwards 11 rfl) ?_
      refine kx_iload_n (pc := 20) (kx_dd d_Do_sumOfAwards 12 rfl) rfl rfl ?_
      refine kx_invV (pc := 21) (a := 40) (as := [_]) (kx_dd d_Do_sumOfAwards 13 rfl) ⟨lk_Do_33, wi_AL_get, we_AL_get⟩ w_AL_get (hs.k 40 rfl) rfl rfl rfl rfl (Nat.le_of_ble_eq_true rfl) (x_AL_get (d := d) 40 _ _ _ _ (DKc.k40 hs).1 hp.2.2.1 k (by omega)) (Nat.le_refl _) ⟨Nat.le_refl _, Nat.le_refl _⟩ (fun v h' hq => ?_)
      obtain ⟨rfl, he⟩ := hq
      rw [he]
      clear he
      refine kx_cast (pc := 24) (ci := 1) (by rw [hcc.2.2.1]) rfl cl_Do_37 (kx_dd d_Do_sumOfAwards 14 rfl) ?_
      refine kx_getI (pc := 27) fl_Do_137 (by rw [hcc.2.2.1]) rfl (kx_dd d_Do_sumOfAwards 15 rfl) ?_
      refine kx_iadd (pc := 30) (kx_dd d_Do_sumOfAwards 16 rfl) ?_
      refine kx_istore_ne (pc := 31) (lv' := [_, _, _]) (kx_dd d_Do_sumOfAwards 17 rfl) rfl (Nat.le_of_ble_eq_true rfl) rfl ?_
      refine kx_iinc_e (pc := 32) (v := nI (k + 1)) (lv' := [_, _, _]) (kx_dd d_Do_sumOfAwards 18 rfl) rfl (Nat.le_of_ble_eq_true rfl) (nI_1 k) rfl ?_
      refine kx_goto (pc := 35) (tgt := 4) (kx_dd d_Do_sumOfAwards 19 rfl) rfl ?_
      rw [hcc.2.2.2.1 10 (by decide) (by decide), occ.1 10 (by decide) (by decide) (by decide) (by decide), nI_add]
      exact ih (k + 1) (by omega)
theorem x_Do_sumOfAwards {l : Launch} {g : kx_G} {d : Nat} {h : kx_Mem} (hs : SC h) (D : DK) (A : DA) (ho : DKok D) (hp : DKc D A h) : kx_Sp l g m_Do_sumOfAwards [.ref 39] h (d + 3) 0 0 (fun v h' => v = some (.int (nI (sumA D.2.2.1 D.2.2.1.1))) ∧ h' = h) := by
  refine kx_enter_e (lv := [_, _, _]) (by decide +kernel) (Nat.le_of_ble_eq_true rfl) rfl ?_
  refine kx_iconst (pc := 0) (v := 0) (kx_dd d_Do_sumOfAwards 0 rfl) rfl ?_
  refine kx_istore_ne (pc := 1) (lv' := [_, _, _]) (kx_dd d_Do_sumOfAwards 1 rfl) rfl (Nat.le_of_ble_eq_true rfl) rfl ?_
  refine kx_iconst (pc := 2) (v := 0) (kx_dd d_Do_sumOfAwards 2 rfl) rfl ?_
  refine kx_istore_ne (pc := 3) (lv' := [_, _, _]) (kx_dd d_Do_sumOfAwards 3 rfl) rfl (Nat.le_of_ble_eq_true rfl) rfl ?_
  exact x_Do_sumA_loop hs D A ho hp D.2.2.1.1 0 (by omega)
theorem x_Do_pend_loop {l : Launch} {g : kx_G} {d : Nat} {h : kx_Mem} (hs : SC h) (D : DK) (A : DA) (ho : DKok D) (hp : DKc D A h) : ∀ n k, k + n = D.2.2.1.1 → ∀ w3, kx_X (l, g, m_Do_pendingAmounts, d + 3, 0, 0, (fun v h' => v = some (.int (nI (sumP2 D.2.2.1 D.2.2.1.1))) ∧ h' = h)) 0 0 4 [some (.ref 39), some (.int (nI (sumP2 D.2.2.1 k))), some (.int (nI k)), w3] [] (h) := by
  intro n
  induction n with
  | zero =>
    intro k hk w3
    have hk0 : k = D.2.2.1.1 := by omega
    subst hk0
    have o60 := ho.2.2.1.1
    have o150 := ho.2.2.2.1
    have oP := ho.1.1
    refine kx_iload_n (pc := 4) (kx_dd d_Do_pendingAmounts 4 rfl) rfl rfl ?_
    refine kx_aload_n (pc := 5) (kx_dd d_Do_pendingAmounts 5 rfl) rfl rfl ?_
    refine kx_getR (pc := 6) (b := 40) fl_Do_12 (hs.k 39 rfl) rfl (hs.r 43 rfl) (kx_dd d_Do_pendingAmounts 6 rfl) ?_
    refine kx_invV (pc := 9) (a := 40) (as := []) (kx_dd d_Do_pendingAmounts 7 rfl) ⟨lk_Do_29, wi_AL_size, we_AL_size⟩ w_AL_size (hs.k 40 rfl) rfl rfl rfl rfl (Nat.le_of_ble_eq_true rfl) (x_AL_size (d := d + 2) 40 _ _ _ _ (DKc.k40 hs).1 hp.2.2.1) (Nat.le_refl _) ⟨Nat.le_refl _, Nat.le_refl _⟩ (fun v h' hq => ?_)
    obtain ⟨rfl, he⟩ := hq
    rw [he]
    clear he
    refine kx_icmp_ge (pc := 12) (tgt := 55) (kx_dd d_Do_pendingAmounts 8 rfl) rfl (fun c12 => ?_) (fun c12 => ?_)
    · refine kx_iload_n (pc := 55) (kx_dd d_Do_pendingAmounts 29 rfl) rfl rfl ?_
      refine kx_iret (pc := 56) rfl (kx_dd d_Do_pendingAmounts 30 rfl) (Nat.le_refl _) (Nat.le_refl _) ?_
      exact ⟨rfl, rfl⟩
    · exact absurd (by exact Int32.le_refl _) c12
  | succ n ih =>
    intro k hk w3
    have o60 := ho.2.2.1.1
    have o150 := ho.2.2.2.1
    have oP := ho.1.1
    have hcc := hp.2.2.2.2.1.2 k (by omega)
    have occ := ho.2.2.1.2 k (by omega)
    have q8 := occ.2.2.2.2.2.2.2.2.2.1
    refine kx_iload_n (pc := 4) (kx_dd d_Do_pendingAmounts 4 rfl) rfl rfl ?_
    refine kx_aload_n (pc := 5) (kx_dd d_Do_pendingAmounts 5 rfl) rfl rfl ?_
    refine kx_getR (pc := 6) (b := 40) fl_Do_12 (hs.k 39 rfl) rfl (hs.r 43 rfl) (kx_dd d_Do_pendingAmounts 6 rfl) ?_
    refine kx_invV (pc := 9) (a := 40) (as := []) (kx_dd d_Do_pendingAmounts 7 rfl) ⟨lk_Do_29, wi_AL_size, we_AL_size⟩ w_AL_size (hs.k 40 rfl) rfl rfl rfl rfl (Nat.le_of_ble_eq_true rfl) (x_AL_size (d := d + 2) 40 _ _ _ _ (DKc.k40 hs).1 hp.2.2.1) (Nat.le_refl _) ⟨Nat.le_refl _, Nat.le_refl _⟩ (fun v h' hq => ?_)
    obtain ⟨rfl, he⟩ := hq
    rw [he]
    clear he
    refine kx_icmp_ge (pc := 12) (tgt := 55) (kx_dd d_Do_pendingAmounts 8 rfl) rfl (fun c12 => ?_) (fun c12 => ?_)
    · exact absurd c12 (by exact nI_ge (by omega) (by omega))
    · refine kx_aload_n (pc := 15) (kx_dd d_Do_pendingAmounts 9 rfl) rfl rfl ?_
      refine kx_getR (pc := 16) (b := 40) fl_Do_12 (hs.k 39 rfl) rfl (hs.r 43 rfl) (kx_dd d_Do_pendingAmounts 10 rfl) ?_
      refine kx_iload_n (pc := 19) (kx_dd d_Do_pendingAmounts 11 rfl) rfl rfl ?_
      refine kx_invV (pc := 20) (a := 40) (as := [_]) (kx_dd d_Do_pendingAmounts 12 rfl) ⟨lk_Do_33, wi_AL_get, we_AL_get⟩ w_AL_get (hs.k 40 rfl) rfl rfl rfl rfl (Nat.le_of_ble_eq_true rfl) (x_AL_get (d := d) 40 _ _ _ _ (DKc.k40 hs).1 hp.2.2.1 k (by omega)) (Nat.le_refl _) ⟨Nat.le_refl _, Nat.le_refl _⟩ (fun v h' hq => ?_)
      obtain ⟨rfl, he⟩ := hq
      rw [he]
      clear he
      refine kx_cast (pc := 23) (ci := 1) (by rw [hcc.2.2.1]) rfl cl_Do_37 (kx_dd d_Do_pendingAmounts 13 rfl) ?_
      refine kx_astore_ne (pc := 26) (lv' := [_, _, _, _]) (kx_dd d_Do_pendingAmounts 14 rfl) rfl (Nat.le_of_ble_eq_true rfl) rfl ?_
      refine kx_aload_n (pc := 27) (kx_dd d_Do_pendingAmounts 15 rfl) rfl rfl ?_
      refine kx_getI (pc := 28) fl_Do_117 (by rw [hcc.2.2.1]) rfl (kx_dd d_Do_pendingAmounts 16 rfl) ?_
      refine kx_if_eq (pc := 31) (tgt := 42) (kx_dd d_Do_pendingAmounts 17 rfl) rfl (fun c31 => ?_) (fun c31 => ?_)
      · refine kx_iload_n (pc := 42) (kx_dd d_Do_pendingAmounts 22 rfl) rfl rfl ?_
        refine kx_aload_n (pc := 43) (kx_dd d_Do_pendingAmounts 23 rfl) rfl rfl ?_
        refine kx_getI (pc := 44) fl_Do_140 (by rw [hcc.2.2.1]) rfl (kx_dd d_Do_pendingAmounts 24 rfl) ?_
        refine kx_iadd (pc := 47) (kx_dd d_Do_pendingAmounts 25 rfl) ?_
        refine kx_istore_ne (pc := 48) (lv' := [_, _, _, _]) (kx_dd d_Do_pendingAmounts 26 rfl) rfl (Nat.le_of_ble_eq_true rfl) rfl ?_
        refine kx_iinc_e (pc := 49) (v := nI (k + 1)) (lv' := [_, _, _, _]) (kx_dd d_Do_pendingAmounts 27 rfl) rfl (Nat.le_of_ble_eq_true rfl) (nI_1 k) rfl ?_
        refine kx_goto (pc := 52) (tgt := 4) (kx_dd d_Do_pendingAmounts 28 rfl) rfl ?_
        have e8 := (hcc.2.2.2.1 8 (by decide) (by decide)).trans (occ.1 8 (by decide) (by decide) (by decide) (by decide))
        rw [e8, nI_z (by omega)] at c31
        have e1 : sumP2 D.2.2.1 (k + 1) = sumP2 D.2.2.1 k + cN D.2.2.1 k 4 := if_pos (by omega)
        have ih1 := ih (k + 1) (by omega)
        rw [e1] at ih1
        rw [hcc.2.2.2.1 4 (by decide) (by decide), occ.1 4 (by decide) (by decide) (by decide) (by decide), nI_add]
        exact ih1 _
      · refine kx_aload_n (pc := 34) (kx_dd d_Do_pendingAmounts 18 rfl) rfl rfl ?_
        refine kx_getI (pc := 35) fl_Do_117 (by rw [hcc.2.2.1]) rfl (kx_dd d_Do_pendingAmounts 19 rfl) ?_
        refine kx_iconst (pc := 38) (v := 1) (kx_dd d_Do_pendingAmounts 20 rfl) rfl ?_
        refine kx_icmp_ne (pc := 39) (tgt := 49) (kx_dd d_Do_pendingAmounts 21 rfl) rfl (fun c39 => ?_) (fun c39 => ?_)
        · refine kx_iinc_e (pc := 49) (v := nI (k + 1)) (lv' := [_, _, _, _]) (kx_dd d_Do_pendingAmounts 27 rfl) rfl (Nat.le_of_ble_eq_true rfl) (nI_1 k) rfl ?_
          refine kx_goto (pc := 52) (tgt := 4) (kx_dd d_Do_pendingAmounts 28 rfl) rfl ?_
          have e8 := (hcc.2.2.2.1 8 (by decide) (by decide)).trans (occ.1 8 (by decide) (by decide) (by decide) (by decide))
          rw [e8, nI_z (by omega)] at c31
          rw [e8, show (1 : Int32) = nI 1 from rfl, nI_eq (by omega) (by decide)] at c39
          have e1 : sumP2 D.2.2.1 (k + 1) = sumP2 D.2.2.1 k := if_neg (by omega)
          have ih1 := ih (k + 1) (by omega)
          rw [e1] at ih1
          exact ih1 _
        · refine kx_iload_n (pc := 42) (kx_dd d_Do_pendingAmounts 22 rfl) rfl rfl ?_
          refine kx_aload_n (pc := 43) (kx_dd d_Do_pendingAmounts 23 rfl) rfl rfl ?_
          refine kx_getI (pc := 44) fl_Do_140 (by rw [hcc.2.2.1]) rfl (kx_dd d_Do_pendingAmounts 24 rfl) ?_
          refine kx_iadd (pc := 47) (kx_dd d_Do_pendingAmounts 25 rfl) ?_
          refine kx_istore_ne (pc := 48) (lv' := [_, _, _, _]) (kx_dd d_Do_pendingAmounts 26 rfl) rfl (Nat.le_of_ble_eq_true rfl) rfl ?_
          refine kx_iinc_e (pc := 49) (v := nI (k + 1)) (lv' := [_, _, _, _]) (kx_dd d_Do_pendingAmounts 27 rfl) rfl (Nat.le_of_ble_eq_true rfl) (nI_1 k) rfl ?_
          refine kx_goto (pc := 52) (tgt := 4) (kx_dd d_Do_pendingAmounts 28 rfl) rfl ?_
          have e8 := (hcc.2.2.2.1 8 (by decide) (by decide)).trans (occ.1 8 (by decide) (by decide) (by decide) (by decide))
          rw [e8, nI_z (by omega)] at c31
          rw [e8, show (1 : Int32) = nI 1 from rfl, nI_eq (by omega) (by decide)] at c39
          have e1 : sumP2 D.2.2.1 (k + 1) = sumP2 D.2.2.1 k + cN D.2.2.1 k 4 := if_pos (by omega)
          have ih1 := ih (k + 1) (by omega)
          rw [e1] at ih1
          rw [hcc.2.2.2.1 4 (by decide) (by decide), occ.1 4 (by decide) (by decide) (by decide) (by decide), nI_add]
          exact ih1 _
theorem x_Do_pendingAmounts {l : Launch} {g : kx_G} {d : Nat} {h : kx_Mem} (hs : SC h) (D : DK) (A : DA) (ho : DKok D) (hp : DKc D A h) : kx_Sp l g m_Do_pendingAmounts [.ref 39] h (d + 3) 0 0 (fun v h' => v = some (.int (nI (sumP2 D.2.2.1 D.2.2.1.1))) ∧ h' = h) := by
  refine kx_enter_e (lv := [_, _, _, _]) (by decide +kernel) (Nat.le_of_ble_eq_true rfl) rfl ?_
  refine kx_iconst (pc := 0) (v := 0) (kx_dd d_Do_pendingAmounts 0 rfl) rfl ?_
  refine kx_istore_ne (pc := 1) (lv' := [_, _, _, _]) (kx_dd d_Do_pendingAmounts 1 rfl) rfl (Nat.le_of_ble_eq_true rfl) rfl ?_
  refine kx_iconst (pc := 2) (v := 0) (kx_dd d_Do_pendingAmounts 2 rfl) rfl ?_
  refine kx_istore_ne (pc := 3) (lv' := [_, _, _, _]) (kx_dd d_Do_pendingAmounts 3 rfl) rfl (Nat.le_of_ble_eq_true rfl) rfl ?_
  exact x_Do_pend_loop hs D A ho hp D.2.2.1.1 0 (by omega) _
theorem x_Do_bes_loop {l : Launch} {g : kx_G} {d : Nat} {h : kx_Mem} (hs : SC h) (D : DK) (A : DA) (ho : DKok D) (hp : DKc D A h) (a : Nat) (hr : IsRu h a) (r : RU) (hro : RUok r) (hrp : RUc r a h) (a2 : Nat) (hr2 : IsRu h a2) (r2 : RU) (hro2 : RUok r2) (hrp2 : RUc r2 a2 h) (kn : Nat) (hkn : kn < 2 ^ 31) : ∀ n k, k + n = D.2.2.1.1 → ∀ w6, kx_X (l, g, m_Do_provenByOneAlone, d + 5, 0, 0, (fun v h' => v = some (.int (nI (besN D r r2 kn D.2.2.1.1))) ∧ h' = h)) 0 0 6 [some (.ref 39), some (.ref a), some (.ref a2), some (.int (nI kn)), some (.int (nI (besN D r r2 kn k))), some (.int (nI k)), w6] [] (h) := by
  intro n
  induction n with
  | zero =>
    intro k hk w6
    have hk0 : k = D.2.2.1.1 := by omega
    subst hk0
    have o60 := ho.2.2.1.1
    have o150 := ho.2.2.2.1
    have oP := ho.1.1
    refine kx_iload (pc := 6) (kx_dd d_Do_provenByOneAlone 4 rfl) rfl ?_
    refine kx_aload_n (pc := 8) (kx_dd d_Do_provenByOneAlone 5 rfl) rfl rfl ?_
    refine kx_getR (pc := 9) (b := 40) fl_Do_12 (hs.k 39 rfl) rfl (hs.r 43 rfl) (kx_dd d_Do_provenByOneAlone 6 rfl) ?_
    refine kx_invV (pc := 12) (a := 40) (as := []) (kx_dd d_Do_provenByOneAlone 7 rfl) ⟨lk_Do_29, wi_AL_size, we_AL_size⟩ w_AL_size (hs.k 40 rfl) rfl rfl rfl rfl (Nat.le_of_ble_eq_true rfl) (x_AL_size (d := d + 4) 40 _ _ _ _ (DKc.k40 hs).1 hp.2.2.1) (Nat.le_refl _) ⟨Nat.le_refl _, Nat.le_refl _⟩ (fun v h' hq => ?_)
    obtain ⟨rfl, he⟩ := hq
    rw [he]
    clear he
    refine kx_icmp_ge (pc := 15) (tgt := 63) (kx_dd d_Do_provenByOneAlone 8 rfl) rfl (fun c15 => ?_) (fun c15 => ?_)
    · refine kx_iload (pc := 63) (kx_dd d_Do_provenByOneAlone 30 rfl) rfl ?_
      refine kx_iret (pc := 65) rfl (kx_dd d_Do_provenByOneAlone 31 rfl) (Nat.le_refl _) (Nat.le_refl _) ?_
      exact ⟨rfl, rfl⟩
    · exact absurd (by exact Int32.le_refl _) c15
  | succ n ih =>
    intro k hk w6
    have o60 := ho.2.2.1.1
    have o150 := ho.2.2.2.1
    have oP := ho.1.1
    have hcc := hp.2.2.2.2.1.2 k (by omega)
    have occ := ho.2.2.1.2 k (by omega)
    refine kx_iload (pc := 6) (kx_dd d_Do_provenByOneAlone 4 rfl) rfl ?_
    refine kx_aload_n (pc := 8) (kx_dd d_Do_provenByOneAlone 5 rfl) rfl rfl ?_
    refine kx_getR (pc := 9) (b := 40) fl_Do_12 (hs.k 39 rfl) rfl (hs.r 43 rfl) (kx_dd d_Do_provenByOneAlone 6 rfl) ?_
    refine kx_invV (pc := 12) (a := 40) (as := []) (kx_dd d_Do_provenByOneAlone 7 rfl) ⟨lk_Do_29, wi_AL_size, we_AL_size⟩ w_AL_size (hs.k 40 rfl) rfl rfl rfl rfl (Nat.le_of_ble_eq_true rfl) (x_AL_size (d := d + 4) 40 _ _ _ _ (DKc.k40 hs).1 hp.2.2.1) (Nat.le_refl _) ⟨Nat.le_refl _, Nat.le_refl _⟩ (fun v h' hq => ?_)
    obtain ⟨rfl, he⟩ := hq
    rw [he]
    clear he
    refine kx_icmp_ge (pc := 15) (tgt := 63) (kx_dd d_Do_provenByOneAlone 8 rfl) rfl (fun c15 => ?_) (fun c15 => ?_)
    · exact absurd c15 (by exact nI_ge (by omega) (by omega))
    · refine kx_aload_n (pc := 18) (kx_dd d_Do_provenByOneAlone 9 rfl) rfl rfl ?_
      refine kx_getR (pc := 19) (b := 40) fl_Do_12 (hs.k 39 rfl) rfl (hs.r 43 rfl) (kx_dd d_Do_provenByOneAlone 10 rfl) ?_
      refine kx_iload (pc := 22) (kx_dd d_Do_provenByOneAlone 11 rfl) rfl ?_
      refine kx_invV (pc := 24) (a := 40) (as := [_]) (kx_dd d_Do_provenByOneAlone 12 rfl) ⟨lk_Do_33, wi_AL_get, we_AL_get⟩ w_AL_get (hs.k 40 rfl) rfl rfl rfl rfl (Nat.le_of_ble_eq_true rfl) (x_AL_get (d := d + 2) 40 _ _ _ _ (DKc.k40 hs).1 hp.2.2.1 k (by omega)) (Nat.le_refl _) ⟨Nat.le_refl _, Nat.le_refl _⟩ (fun v h' hq => ?_)
      obtain ⟨rfl, he⟩ := hq
      rw [he]
      clear he
      refine kx_cast (pc := 27) (ci := 1) (by rw [hcc.2.2.1]) rfl cl_Do_37 (kx_dd d_Do_provenByOneAlone 13 rfl) ?_
      refine kx_astore_e (pc := 30) (lv' := [_, _, _, _, _, _, _]) (kx_dd d_Do_provenByOneAlone 14 rfl) (Nat.le_of_ble_eq_true rfl) rfl ?_
      refine kx_aload_n (pc := 32) (kx_dd d_Do_provenByOneAlone 15 rfl) rfl rfl ?_
      refine kx_aload (pc := 33) (kx_dd d_Do_provenByOneAlone 16 rfl) rfl ?_
      refine kx_aload_n (pc := 35) (kx_dd d_Do_provenByOneAlone 17 rfl) rfl rfl ?_
      refine kx_iload_n (pc := 36) (kx_dd d_Do_provenByOneAlone 18 rfl) rfl rfl ?_
      refine kx_invV (pc := 37) (a := 39) (as := [_, _, _]) (kx_dd d_Do_provenByOneAlone 19 rfl) ⟨lk_Do_134, wi_Do_failuresOf, we_Do_failuresOf⟩ w_Do_failuresOf (hs.k 39 rfl) rfl rfl rfl rfl (Nat.le_of_ble_eq_true rfl) (x_Do_failuresOf (d := d) hs D A ho hp a hr r hro hrp k (by omega) kn hkn) (Nat.le_refl _) ⟨Nat.le_refl _, Nat.le_refl _⟩ (fun v h' hq => ?_)
      obtain ⟨rfl, he⟩ := hq
      rw [he]
      clear he
      refine kx_if_ne (pc := 40) (tgt := 57) (kx_dd d_Do_provenByOneAlone 20 rfl) rfl (fun c40 => ?_) (fun c40 => ?_)
      · refine kx_iinc_e (pc := 57) (v := nI (k + 1)) (lv' := [_, _, _, _, _, _, _]) (kx_dd d_Do_provenByOneAlone 28 rfl) rfl (Nat.le_of_ble_eq_true rfl) (nI_1 k) rfl ?_
        refine kx_goto (pc := 60) (tgt := 6) (kx_dd d_Do_provenByOneAlone 29 rfl) rfl ?_
        rw [nI_z (Nat.lt_of_lt_of_le faiF_lt (by decide))] at c40
        have e1 : besN D r r2 kn (k + 1) = besN D r r2 kn k := if_neg (fun z => c40 z.1)
        have ih1 := ih (k + 1) (by omega)
        rw [e1] at ih1
        exact ih1 _
      · refine kx_aload_n (pc := 43) (kx_dd d_Do_provenByOneAlone 21 rfl) rfl rfl ?_
        refine kx_aload (pc := 44) (kx_dd d_Do_provenByOneAlone 22 rfl) rfl ?_
        refine kx_aload_n (pc := 46) (kx_dd d_Do_provenByOneAlone 23 rfl) rfl rfl ?_
        refine kx_iload_n (pc := 47) (kx_dd d_Do_provenByOneAlone 24 rfl) rfl rfl ?_
        refine kx_invV (pc := 48) (a := 39) (as := [_, _, _]) (kx_dd d_Do_provenByOneAlone 25 rfl) ⟨lk_Do_134, wi_Do_failuresOf, we_Do_failuresOf⟩ w_Do_failuresOf (hs.k 39 rfl) rfl rfl rfl rfl (Nat.le_of_ble_eq_true rfl) (x_Do_failuresOf (d := d) hs D A ho hp a2 hr2 r2 hro2 hrp2 k (by omega) kn hkn) (Nat.le_refl _) ⟨Nat.le_refl _, Nat.le_refl _⟩ (fun v h' hq => ?_)
        obtain ⟨rfl, he⟩ := hq
        rw [he]
        clear he
        refine kx_if_eq (pc := 51) (tgt := 57) (kx_dd d_Do_provenByOneAlone 26 rfl) rfl (fun c51 => ?_) (fun c51 => ?_)
        · refine kx_iinc_e (pc := 57) (v := nI (k + 1)) (lv' := [_, _, _, _, _, _, _]) (kx_dd d_Do_provenByOneAlone 28 rfl) rfl (Nat.le_of_ble_eq_true rfl) (nI_1 k) rfl ?_
          refine kx_goto (pc := 60) (tgt := 6) (kx_dd d_Do_provenByOneAlone 29 rfl) rfl ?_
          rw [nI_z (Nat.lt_of_lt_of_le faiF_lt (by decide))] at c40
          rw [nI_z (Nat.lt_of_lt_of_le faiF_lt (by decide))] at c51
          have e1 : besN D r r2 kn (k + 1) = besN D r r2 kn k := if_neg (fun z => z.2 c51)
          have ih1 := ih (k + 1) (by omega)
          rw [e1] at ih1
          exact ih1 _
        · refine kx_iinc_e (pc := 54) (v := nI (besN D r r2 kn k + 1)) (lv' := [_, _, _, _, _, _, _]) (kx_dd d_Do_provenByOneAlone 27 rfl) rfl (Nat.le_of_ble_eq_true rfl) (nI_1 _) rfl ?_
          refine kx_iinc_e (pc := 57) (v := nI (k + 1)) (lv' := [_, _, _, _, _, _, _]) (kx_dd d_Do_provenByOneAlone 28 rfl) rfl (Nat.le_of_ble_eq_true rfl) (nI_1 k) rfl ?_
          refine kx_goto (pc := 60) (tgt := 6) (kx_dd d_Do_provenByOneAlone 29 rfl) rfl ?_
          rw [nI_z (Nat.lt_of_lt_of_le faiF_lt (by decide))] at c40
          rw [nI_z (Nat.lt_of_lt_of_le faiF_lt (by decide))] at c51
          have e1 : besN D r r2 kn (k + 1) = besN D r r2 kn k + 1 := if_pos ⟨c40, c51⟩
          have ih1 := ih (k + 1) (by omega)
          rw [e1] at ih1
          exact ih1 _
theorem x_Do_provenByOneAlone {l : Launch} {g : kx_G} {d : Nat} {h : kx_Mem} (hs : SC h) (D : DK) (A : DA) (ho : DKok D) (hp : DKc D A h) (a : Nat) (hr : IsRu h a) (r : RU) (hro : RUok r) (hrp : RUc r a h) (a2 : Nat) (hr2 : IsRu h a2) (r2 : RU) (hro2 : RUok r2) (hrp2 : RUc r2 a2 h) (kn : Nat) (hkn : kn < 2 ^ 31) : kx_Sp l g m_Do_provenByOneAlone [.ref 39, .ref a, .ref a2, .int (nI kn)] h (d + 5) 0 0 (fun v h' => v = some (.int (nI (besN D r r2 kn D.2.2.1.1))) ∧ h' = h) := by
  refine kx_enter_e (lv := [_, _, _, _, _, _, _]) (by decide +kernel) (Nat.le_of_ble_eq_true rfl) rfl ?_
  refine kx_iconst (pc := 0) (v := 0) (kx_dd d_Do_provenByOneAlone 0 rfl) rfl ?_
  refine kx_istore_e (pc := 1) (lv' := [_, _, _, _, _, _, _]) (kx_dd d_Do_provenByOneAlone 1 rfl) (Nat.le_of_ble_eq_true rfl) rfl ?_
  refine kx_iconst (pc := 3) (v := 0) (kx_dd d_Do_provenByOneAlone 2 rfl) rfl ?_
  refine kx_istore_e (pc := 4) (lv' := [_, _, _, _, _, _, _]) (kx_dd d_Do_provenByOneAlone 3 rfl) (Nat.le_of_ble_eq_true rfl) rfl ?_
  exact x_Do_bes_loop hs D A ho hp a hr r hro hrp a2 hr2 r2 hro2 hrp2 kn hkn D.2.2.1.1 0 (by omega) _
