/-! building: TreatyClaims -/
theorem kx_AO5 {g : kx_G} {U : State} (hE : kx_E g U) : va_AO "TreatyClaims$Rules" U := by
  obtain ⟨s0, b, e1, e2, hW, hn, hg, ho, -⟩ := hE
  exact (va_AO.of (hg _ (List.mem_append_right _ (List.mem_of_getElem? (i := 154) (by decide +kernel))))).moved hW.alike
theorem kx_newV {f : kx_F} {cells slots pc : Nat} {lv : List (Option Value)} {st : List Value} {h : kx_Mem} {index : Nat} {n : Int32} {N' : Nat} (hlk : Cond.classLink f.2.2.1.1.cls index "TreatyClaims$Rules" ∈ kx_good) (hn : ¬ n < 0) (hN' : n.toNatClampNeg = N') (hbytes : N' * 4 ≤ 536870912) (hN : h.2.2.2.2 < 1000000) (hcells : cells + 1 ≤ f.2.2.2.2.1) (hslots : slots + N' ≤ f.2.2.2.2.2.1) (hd : decode f.2.2.1.2.1 pc = .ok (.anewarray index, 3))
    (k : kx_X f (cells + 1) (slots + N') (pc + 3) lv (.ref h.2.2.2.2 :: st) (kx_new h 55 N')) : kx_X f cells slots pc lv (.int n :: st) h := by
  intro p e s m args below meth c C H locs ls hR hL hl
  obtain ⟨hx, hb, -, -, hown, hts, -, hnm, hK⟩ := id C
  subst hN'
  refine W.anew hx hb hown (hts _ hlk) (va_AO.use (kx_AO5 hK.2.2.2)) rfl hd rfl hn hbytes hcells hslots fun cA kA comp g1 g2 g3 g4 => ?_
  have had : kx_ad f.2.1 h.2.2.2.2 = H.size := by unfold kx_ad; rw [if_pos hN, hR.1]
  obtain ⟨-, -, -, -, -, q5⟩ : va_RA s (f.2.1.2.1 55) (.object "TreatyClaims$Rules") := (hK.2.1 55 (by decide) (by decide)).2
  have hcA : cA = f.2.1.2.1 55 := Option.some.inj (g1.symm.trans q5)
  subst hcA
  have := k p e s m args below meth c C _ locs ls (hR.newA (dv := .null) hN (by decide) (fun j => kx_mv_new0 f.2.1 (by decide))) hL hl
  simp only [List.map_cons, kx_cv, had] at this
  exact this
/-- ints behind the class's constructor -/
def EC : Nat → Nat → Int32 → Prop := fun x y z => (x = 0 ∧ y = 12 ∧ z = 1) ∨ (x = 3 ∧ y = 4 ∧ z = -1) ∨ (¬ (x = 0 ∧ y = 12) ∧ ¬ (x = 3 ∧ y = 4) ∧ ((4 ≤ x ∧ x ≤ 12) ∨ (48 ≤ x ∧ x ≤ 83) ∨ z = 0))
theorem x_Tc_init {l : Launch} {g : kx_G} {d : Nat} {h : kx_Mem} (hB : Bd (fun _ _ z => z = 0) [] [(0, 13, 0)] [] 1 h) : kx_Sp l g m_Tc_init [.ref 0] h (d + 5) 100 6000 (fun v h' => v = none ∧ Bd EC rC9 tC [75, 66, 57, 48, 4] 84 h') := by
  refine kx_enter_e (lv := [_, _]) (by decide +kernel) (Nat.le_of_ble_eq_true rfl) rfl ?_
  refine kx_aload_n (pc := 0) (kx_dd d_Tc_init 0 rfl) rfl rfl ?_
  refine kx_objInit (pc := 1) oi_Tc oi_2 oi_3 (kx_dd d_Tc_init 1 rfl) (Nat.le_of_ble_eq_true rfl) (Nat.le_of_ble_eq_true rfl) ?_
  refine kx_aload_n (pc := 4) (kx_dd d_Tc_init 2 rfl) rfl rfl ?_
  have hez := hB.2.2.2.1.2
  refine kx_newB (pc := 5) (N1 := 2) (ci := 9) (r := (kx_C9, kx_T9, 7)) hB rfl rfl cl_Tc_7 (kx_in 40 (by decide +kernel) rfl) (kx_in 2 (by decide +kernel) rfl) (by decide) (Nat.le_of_ble_eq_true rfl) (Nat.le_of_ble_eq_true rfl) (kx_dd d_Tc_init 3 rfl) (fun h hB => ?_)
  refine kx_dup (pc := 8) (kx_dd d_Tc_init 4 rfl) rfl ?_
  refine kx_invI (pc := 9) (a := 1) (as := []) rfl (kx_dd d_Tc_init 5 rfl) ⟨lk_Tc_9, rfl, wi_Ta_init⟩ w_Ta_init rfl rfl (Nat.le_of_ble_eq_true rfl) (x_Ta_init (d := d + 3) _ _ _ _ _ _ hB (by decide +kernel) (by decide +kernel) (by decide)) (Nat.le_refl _) ⟨Nat.le_of_ble_eq_true rfl, Nat.le_of_ble_eq_true rfl⟩ (fun v h' hq => ?_)
  obtain ⟨rfl, hB⟩ := hq
  refine kx_putB (pc := 12) (v := 1) hB (by decide +kernel) (by decide +kernel) (by decide) fl_Tc_10 rfl rfl (kx_dd d_Tc_init 6 rfl) (fun h hB => ?_)
  refine kx_aload_n (pc := 15) (kx_dd d_Tc_init 7 rfl) rfl rfl ?_
  have hez := hB.2.2.2.1.2
  refine kx_newB (pc := 16) (N1 := 4) (ci := 8) (r := (kx_C8, kx_T8, 5)) hB rfl rfl cl_Tc_16 (kx_in 74 (by decide +kernel) rfl) (kx_in 3 (by decide +kernel) rfl) (by decide) (Nat.le_of_ble_eq_true rfl) (Nat.le_of_ble_eq_true rfl) (kx_dd d_Tc_init 8 rfl) (fun h hB => ?_)
  refine kx_dup (pc := 19) (kx_dd d_Tc_init 9 rfl) rfl ?_
  refine kx_aload_n (pc := 20) (kx_dd d_Tc_init 10 rfl) rfl rfl ?_
  refine kx_getR (pc := 21) (b := 1) fl_Tc_10 (congrArg Prod.fst (hB.2.2.1.2 (0, 13, 0) (by decide +kernel))) rfl (hB.2.2.1.1 (0, 0, 1) (by decide +kernel)) (kx_dd d_Tc_init 11 rfl) ?_
  refine kx_invI (pc := 24) (a := 3) (as := [_]) rfl (kx_dd d_Tc_init 12 rfl) ⟨lk_Tc_18, rfl, wi_Re_init⟩ w_Re_init rfl rfl (Nat.le_of_ble_eq_true rfl) (x_Re_init (d := d + 2) _ _ _ _ _ _ hB (by decide +kernel) (by decide +kernel) (by decide) (by decide) (by decide +kernel) (by decide +kernel) (by decide) 1) (Nat.le_refl _) ⟨Nat.le_of_ble_eq_true rfl, Nat.le_of_ble_eq_true rfl⟩ (fun v h' hq => ?_)
  obtain ⟨rfl, hB⟩ := hq
  refine kx_putB (pc := 27) (v := 3) hB (by decide +kernel) (by decide +kernel) (by decide) fl_Tc_21 rfl rfl (kx_dd d_Tc_init 13 rfl) (fun h hB => ?_)
  refine kx_aload_n (pc := 30) (kx_dd d_Tc_init 14 rfl) rfl rfl ?_
  refine kx_iconst (pc := 31) (v := 4) (kx_dd d_Tc_init 15 rfl) rfl ?_
  refine kx_newV (pc := 32) (N' := 4) cl_Tc_25 (by decide) (by decide) (by decide) (by rw [hB.1]; decide) (Nat.le_of_ble_eq_true rfl) (Nat.le_of_ble_eq_true rfl) (kx_dd d_Tc_init 16 rfl) ?_
  rw [hB.1]
  have hB := hB.new (kd := 55) (len := 4)
  refine kx_putB (pc := 35) (v := 13) hB (by decide +kernel) (by decide +kernel) (by decide) fl_Tc_27 rfl rfl (kx_dd d_Tc_init 17 rfl) (fun h hB => ?_)
  refine kx_aload_n (pc := 38) (kx_dd d_Tc_init 18 rfl) rfl rfl ?_
  have hez := hB.2.2.2.1.2
  refine kx_newB (pc := 39) (N1 := 15) (ci := 5) (r := (kx_C5, kx_T5, 11)) hB rfl rfl cl_Tc_31 (kx_in 156 (by decide +kernel) rfl) (kx_in 5 (by decide +kernel) rfl) (by decide) (Nat.le_of_ble_eq_true rfl) (Nat.le_of_ble_eq_true rfl) (kx_dd d_Tc_init 19 rfl) (fun h hB => ?_)
  refine kx_dup (pc := 42) (kx_dd d_Tc_init 20 rfl) rfl ?_
  refine kx_invI (pc := 43) (a := 14) (as := []) rfl (kx_dd d_Tc_init 21 rfl) ⟨lk_Tc_33, rfl, wi_Pe_init⟩ w_Pe_init rfl rfl (Nat.le_of_ble_eq_true rfl) (x_Pe_init (d := d + 3) _ _ _ _ _ _ hB (by decide +kernel) (by decide +kernel) (by decide)) (Nat.le_refl _) ⟨Nat.le_of_ble_eq_true rfl, Nat.le_of_ble_eq_true rfl⟩ (fun v h' hq => ?_)
  obtain ⟨rfl, hB⟩ := hq
  refine kx_putB (pc := 46) (v := 14) hB (by decide +kernel) (by decide +kernel) (by decide) fl_Tc_34 rfl rfl (kx_dd d_Tc_init 22 rfl) (fun h hB => ?_)
  refine kx_aload_n (pc := 49) (kx_dd d_Tc_init 23 rfl) rfl rfl ?_
  have hez := hB.2.2.2.1.2
  refine kx_newB (pc := 50) (N1 := 31) (ci := 6) (r := (kx_C6, kx_T6, 4)) hB rfl rfl cl_Tc_38 (kx_in 201 (by decide +kernel) rfl) (kx_in 6 (by decide +kernel) rfl) (by decide) (Nat.le_of_ble_eq_true rfl) (Nat.le_of_ble_eq_true rfl) (kx_dd d_Tc_init 24 rfl) (fun h hB => ?_)
  refine kx_dup (pc := 53) (kx_dd d_Tc_init 25 rfl) rfl ?_
  refine kx_invI (pc := 54) (a := 30) (as := []) rfl (kx_dd d_Tc_init 26 rfl) ⟨lk_Tc_40, rfl, wi_Ra_init⟩ w_Ra_init rfl rfl (Nat.le_of_ble_eq_true rfl) (x_Ra_init (d := d + 3) _ _ _ _ _ _ hB (by decide +kernel) (by decide +kernel) (by decide)) (Nat.le_refl _) ⟨Nat.le_of_ble_eq_true rfl, Nat.le_of_ble_eq_true rfl⟩ (fun v h' hq => ?_)
  obtain ⟨rfl, hB⟩ := hq
  refine kx_putB (pc := 57) (v := 30) hB (by decide +kernel) (by decide +kernel) (by decide) fl_Tc_41 rfl rfl (kx_dd d_Tc_init 27 rfl) (fun h hB => ?_)
  refine kx_aload_n (pc := 60) (kx_dd d_Tc_init 28 rfl) rfl rfl ?_
  have hez := hB.2.2.2.1.2
  refine kx_newB (pc := 61) (N1 := 35) (ci := 11) (r := (kx_C11, kx_T11, 5)) hB rfl rfl cl_Tc_45 (kx_in 220 (by decide +kernel) rfl) (kx_in 7 (by decide +kernel) rfl) (by decide) (Nat.le_of_ble_eq_true rfl) (Nat.le_of_ble_eq_true rfl) (kx_dd d_Tc_init 29 rfl) (fun h hB => ?_)
  refine kx_dup (pc := 64) (kx_dd d_Tc_init 30 rfl) rfl ?_
  refine kx_invI (pc := 65) (a := 34) (as := []) rfl (kx_dd d_Tc_init 31 rfl) ⟨lk_Tc_47, rfl, wi_Th_init⟩ w_Th_init rfl rfl (Nat.le_of_ble_eq_true rfl) (x_Th_init (d := d + 3) _ _ _ _ _ _ hB (by decide +kernel) (by decide +kernel) (by decide)) (Nat.le_refl _) ⟨Nat.le_of_ble_eq_true rfl, Nat.le_of_ble_eq_true rfl⟩ (fun v h' hq => ?_)
  obtain ⟨rfl, hB⟩ := hq
  refine kx_putB (pc := 68) (v := 34) hB (by decide +kernel) (by decide +kernel) (by decide) fl_Tc_48 rfl rfl (kx_dd d_Tc_init 32 rfl) (fun h hB => ?_)
  refine kx_aload_n (pc := 71) (kx_dd d_Tc_init 33 rfl) rfl rfl ?_
  have hez := hB.2.2.2.1.2
  refine kx_newB (pc := 72) (N1 := 40) (ci := 2) (r := (kx_C2, kx_T2, 4)) hB rfl rfl cl_Tc_52 (kx_in 243 (by decide +kernel) rfl) (kx_in 8 (by decide +kernel) rfl) (by decide) (Nat.le_of_ble_eq_true rfl) (Nat.le_of_ble_eq_true rfl) (kx_dd d_Tc_init 34 rfl) (fun h hB => ?_)
  refine kx_dup (pc := 75) (kx_dd d_Tc_init 35 rfl) rfl ?_
  refine kx_aload_n (pc := 76) (kx_dd d_Tc_init 36 rfl) rfl rfl ?_
  refine kx_getR (pc := 77) (b := 14) fl_Tc_34 (congrArg Prod.fst (hB.2.2.1.2 (0, 13, 0) (by decide +kernel))) rfl (hB.2.2.1.1 (0, 3, 14) (by decide +kernel)) (kx_dd d_Tc_init 37 rfl) ?_
  refine kx_aload_n (pc := 80) (kx_dd d_Tc_init 38 rfl) rfl rfl ?_
  refine kx_getR (pc := 81) (b := 34) fl_Tc_48 (congrArg Prod.fst (hB.2.2.1.2 (0, 13, 0) (by decide +kernel))) rfl (hB.2.2.1.1 (0, 5, 34) (by decide +kernel)) (kx_dd d_Tc_init 39 rfl) ?_
  refine kx_invI (pc := 84) (a := 39) (as := [_, _]) rfl (kx_dd d_Tc_init 40 rfl) ⟨lk_Tc_54, rfl, wi_Do_init⟩ w_Do_init rfl rfl (Nat.le_of_ble_eq_true rfl) (x_Do_init (d := d) _ _ _ _ _ _ hB (by decide +kernel) (by decide +kernel) (by decide) (by decide +kernel) 14 34) (Nat.le_refl _) ⟨Nat.le_of_ble_eq_true rfl, Nat.le_of_ble_eq_true rfl⟩ (fun v h' hq => ?_)
  obtain ⟨rfl, hB⟩ := hq
  refine kx_putB (pc := 87) (v := 39) hB (by decide +kernel) (by decide +kernel) (by decide) fl_Tc_57 rfl rfl (kx_dd d_Tc_init 41 rfl) (fun h hB => ?_)
  refine kx_aload_n (pc := 90) (kx_dd d_Tc_init 42 rfl) rfl rfl ?_
  have hez := hB.2.2.2.1.2
  refine kx_newB (pc := 91) (N1 := 43) (ci := 10) (r := (kx_C10, kx_T10, 6)) hB rfl rfl cl_Tc_61 (kx_in 292 (by decide +kernel) rfl) (kx_in 12 (by decide +kernel) rfl) (by decide) (Nat.le_of_ble_eq_true rfl) (Nat.le_of_ble_eq_true rfl) (kx_dd d_Tc_init 43 rfl) (fun h hB => ?_)
  refine kx_dup (pc := 94) (kx_dd d_Tc_init 44 rfl) rfl ?_
  refine kx_invI (pc := 95) (a := 42) (as := []) rfl (kx_dd d_Tc_init 45 rfl) ⟨lk_Tc_63, rfl, wi_Te_init⟩ w_Te_init rfl rfl (Nat.le_of_ble_eq_true rfl) (x_Te_init (d := d + 3) _ _ _ _ _ _ hB (by decide +kernel) (by decide +kernel) (by decide)) (Nat.le_refl _) ⟨Nat.le_of_ble_eq_true rfl, Nat.le_of_ble_eq_true rfl⟩ (fun v h' hq => ?_)
  obtain ⟨rfl, hB⟩ := hq
  refine kx_putB (pc := 98) (v := 42) hB (by decide +kernel) (by decide +kernel) (by decide) fl_Tc_64 rfl rfl (kx_dd d_Tc_init 46 rfl) (fun h hB => ?_)
  refine kx_aload_n (pc := 101) (kx_dd d_Tc_init 47 rfl) rfl rfl ?_
  have hez := hB.2.2.2.1.2
  refine kx_newB (pc := 102) (N1 := 46) (ci := 3) (r := (kx_C3, kx_T3, 6)) hB rfl rfl cl_Tc_68 (kx_in 317 (by decide +kernel) rfl) (kx_in 13 (by decide +kernel) rfl) (by decide) (Nat.le_of_ble_eq_true rfl) (Nat.le_of_ble_eq_true rfl) (kx_dd d_Tc_init 48 rfl) (fun h hB => ?_)
  refine kx_dup (pc := 105) (kx_dd d_Tc_init 49 rfl) rfl ?_
  refine kx_aload_n (pc := 106) (kx_dd d_Tc_init 50 rfl) rfl rfl ?_
  refine kx_getR (pc := 107) (b := 14) fl_Tc_34 (congrArg Prod.fst (hB.2.2.1.2 (0, 13, 0) (by decide +kernel))) rfl (hB.2.2.1.1 (0, 3, 14) (by decide +kernel)) (kx_dd d_Tc_init 51 rfl) ?_
  refine kx_aload_n (pc := 110) (kx_dd d_Tc_init 52 rfl) rfl rfl ?_
  refine kx_getR (pc := 111) (b := 39) fl_Tc_57 (congrArg Prod.fst (hB.2.2.1.2 (0, 13, 0) (by decide +kernel))) rfl (hB.2.2.1.1 (0, 6, 39) (by decide +kernel)) (kx_dd d_Tc_init 53 rfl) ?_
  refine kx_invI (pc := 114) (a := 45) (as := [_, _]) rfl (kx_dd d_Tc_init 54 rfl) ⟨lk_Tc_70, rfl, wi_Fu_init⟩ w_Fu_init rfl rfl (Nat.le_of_ble_eq_true rfl) (x_Fu_init (d := d + 3) _ _ _ _ _ _ hB (by decide +kernel) (by decide +kernel) (by decide) 14 39) (Nat.le_refl _) ⟨Nat.le_of_ble_eq_true rfl, Nat.le_of_ble_eq_true rfl⟩ (fun v h' hq => ?_)
  obtain ⟨rfl, hB⟩ := hq
  refine kx_putB (pc := 117) (v := 45) hB (by decide +kernel) (by decide +kernel) (by decide) fl_Tc_73 rfl rfl (kx_dd d_Tc_init 55 rfl) (fun h hB => ?_)
  refine kx_iconst (pc := 120) (v := nI 0) (kx_dd d_Tc_init 56 rfl) rfl ?_
  refine kx_istore_ne (pc := 121) (lv' := [_, _]) (kx_dd d_Tc_init 57 rfl) rfl (Nat.le_of_ble_eq_true rfl) rfl ?_
  refine kx_iload_n (pc := 122) (kx_dd d_Tc_init 58 rfl) rfl rfl ?_
  refine kx_iconst (pc := 123) (v := 4) (kx_dd d_Tc_init 59 rfl) rfl ?_
  refine kx_icmp_ge (pc := 124) (tgt := 146) (kx_dd d_Tc_init 60 rfl) rfl (fun z => absurd z (by decide)) (fun _ => ?_)
  refine kx_aload_n (pc := 127) (kx_dd d_Tc_init 61 rfl) rfl rfl ?_
  refine kx_getR (pc := 128) (b := 13) fl_Tc_27 (congrArg Prod.fst (hB.2.2.1.2 (0, 13, 0) (by decide +kernel))) rfl (hB.2.2.1.1 (0, 2, 13) (by decide +kernel)) (kx_dd d_Tc_init 62 rfl) ?_
  refine kx_iload_n (pc := 131) (kx_dd d_Tc_init 63 rfl) rfl rfl ?_
  have hez := hB.2.2.2.1.2
  refine kx_newB (pc := 132) (N1 := 49) (ci := 7) (r := (kx_C7, kx_T7, 12)) hB rfl rfl cl_Tc_25 (kx_in 80 (by decide +kernel) rfl) (kx_in 4 (by decide +kernel) rfl) (by decide) (Nat.le_of_ble_eq_true rfl) (Nat.le_of_ble_eq_true rfl) (kx_dd d_Tc_init 64 rfl) (fun h hB => ?_)
  refine kx_dup (pc := 135) (kx_dd d_Tc_init 65 rfl) rfl ?_
  refine kx_invI (pc := 136) (a := 48) (as := []) rfl (kx_dd d_Tc_init 66 rfl) ⟨lk_Tc_77, rfl, wi_Ru_init⟩ w_Ru_init rfl rfl (Nat.le_of_ble_eq_true rfl) (x_Ru_init (d := d + 3) _ _ _ _ _ hB (by decide +kernel) (by decide +kernel) (by decide) (by decide +kernel)) (Nat.le_refl _) ⟨Nat.le_of_ble_eq_true rfl, Nat.le_of_ble_eq_true rfl⟩ (fun v h' hq => ?_)
  obtain ⟨rfl, hB⟩ := hq
  refine kx_aast (pc := 139) (k := 55) (ci := 7) (r := (kx_C7, kx_T7, 12)) (congrArg Prod.fst (hB.2.2.1.2 (13, 55, 4) (by decide +kernel))) (by decide) (congrArg Prod.fst (hB.2.2.1.2 (48, 8, 0) (by decide +kernel))) rfl (Or.inr ⟨rfl, rfl⟩) (by rw [hB.2.2.1.2 (13, 55, 4) (by decide +kernel)]; exact vp_in_nI (by decide) (by decide)) (kx_dd d_Tc_init 67 rfl) ?_
  rw [show (nI 0).toNatClampNeg = 0 from nI_clamp (by decide)]
  have hB := hB.setR (a := 13) (j := 0) (v := 48) (by decide) (by decide +kernel)
  refine kx_iinc_e (pc := 140) (v := nI 1) (lv' := [_, _]) (kx_dd d_Tc_init 68 rfl) rfl (Nat.le_of_ble_eq_true rfl) rfl rfl ?_
  refine kx_goto (pc := 143) (tgt := 122) (kx_dd d_Tc_init 69 rfl) rfl ?_
  refine kx_iload_n (pc := 122) (kx_dd d_Tc_init 58 rfl) rfl rfl ?_
  refine kx_iconst (pc := 123) (v := 4) (kx_dd d_Tc_init 59 rfl) rfl ?_
  refine kx_icmp_ge (pc := 124) (tgt := 146) (kx_dd d_Tc_init 60 rfl) rfl (fun z => absurd z (by decide)) (fun _ => ?_)
  refine kx_aload_n (pc := 127) (kx_dd d_Tc_init 61 rfl) rfl rfl ?_
  refine kx_getR (pc := 128) (b := 13) fl_Tc_27 (congrArg Prod.fst (hB.2.2.1.2 (0, 13, 0) (by decide +kernel))) rfl (hB.2.2.1.1 (0, 2, 13) (by decide +kernel)) (kx_dd d_Tc_init 62 rfl) ?_
  refine kx_iload_n (pc := 131) (kx_dd d_Tc_init 63 rfl) rfl rfl ?_
  have hez := hB.2.2.2.1.2
  refine kx_newB (pc := 132) (N1 := 58) (ci := 7) (r := (kx_C7, kx_T7, 12)) hB rfl rfl cl_Tc_25 (kx_in 80 (by decide +kernel) rfl) (kx_in 4 (by decide +kernel) rfl) (by decide) (Nat.le_of_ble_eq_true rfl) (Nat.le_of_ble_eq_true rfl) (kx_dd d_Tc_init 64 rfl) (fun h hB => ?_)
  refine kx_dup (pc := 135) (kx_dd d_Tc_init 65 rfl) rfl ?_
  refine kx_invI (pc := 136) (a := 57) (as := []) rfl (kx_dd d_Tc_init 66 rfl) ⟨lk_Tc_77, rfl, wi_Ru_init⟩ w_Ru_init rfl rfl (Nat.le_of_ble_eq_true rfl) (x_Ru_init (d := d + 3) _ _ _ _ _ hB (by decide +kernel) (by decide +kernel) (by decide) (by decide +kernel)) (Nat.le_refl _) ⟨Nat.le_of_ble_eq_true rfl, Nat.le_of_ble_eq_true rfl⟩ (fun v h' hq => ?_)
  obtain ⟨rfl, hB⟩ := hq
  refine kx_aast (pc := 139) (k := 55) (ci := 7) (r := (kx_C7, kx_T7, 12)) (congrArg Prod.fst (hB.2.2.1.2 (13, 55, 4) (by decide +kernel))) (by decide) (congrArg Prod.fst (hB.2.2.1.2 (57, 8, 0) (by decide +kernel))) rfl (Or.inr ⟨rfl, rfl⟩) (by rw [hB.2.2.1.2 (13, 55, 4) (by decide +kernel)]; exact vp_in_nI (by decide) (by decide)) (kx_dd d_Tc_init 67 rfl) ?_
  rw [show (nI 1).toNatClampNeg = 1 from nI_clamp (by decide)]
  have hB := hB.setR (a := 13) (j := 1) (v := 57) (by decide) (by decide +kernel)
  refine kx_iinc_e (pc := 140) (v := nI 2) (lv' := [_, _]) (kx_dd d_Tc_init 68 rfl) rfl (Nat.le_of_ble_eq_true rfl) rfl rfl ?_
  refine kx_goto (pc := 143) (tgt := 122) (kx_dd d_Tc_init 69 rfl) rfl ?_
  refine kx_iload_n (pc := 122) (kx_dd d_Tc_init 58 rfl) rfl rfl ?_
  refine kx_iconst (pc := 123) (v := 4) (kx_dd d_Tc_init 59 rfl) rfl ?_
  refine kx_icmp_ge (pc := 124) (tgt := 146) (kx_dd d_Tc_init 60 rfl) rfl (fun z => absurd z (by decide)) (fun _ => ?_)
  refine kx_aload_n (pc := 127) (kx_dd d_Tc_init 61 rfl) rfl rfl ?_
  refine kx_getR (pc := 128) (b := 13) fl_Tc_27 (congrArg Prod.fst (hB.2.2.1.2 (0, 13, 0) (by decide +kernel))) rfl (hB.2.2.1.1 (0, 2, 13) (by decide +kernel)) (kx_dd d_Tc_init 62 rfl) ?_
  refine kx_iload_n (pc := 131) (kx_dd d_Tc_init 63 rfl) rfl rfl ?_
  have hez := hB.2.2.2.1.2
  refine kx_newB (pc := 132) (N1 := 67) (ci := 7) (r := (kx_C7, kx_T7, 12)) hB rfl rfl cl_Tc_25 (kx_in 80 (by decide +kernel) rfl) (kx_in 4 (by decide +kernel) rfl) (by decide) (Nat.le_of_ble_eq_true rfl) (Nat.le_of_ble_eq_true rfl) (kx_dd d_Tc_init 64 rfl) (fun h hB => ?_)
  refine kx_dup (pc := 135) (kx_dd d_Tc_init 65 rfl) rfl ?_
  refine kx_invI (pc := 136) (a := 66) (as := []) rfl (kx_dd d_Tc_init 66 rfl) ⟨lk_Tc_77, rfl, wi_Ru_init⟩ w_Ru_init rfl rfl (Nat.le_of_ble_eq_true rfl) (x_Ru_init (d := d + 3) _ _ _ _ _ hB (by decide +kernel) (by decide +kernel) (by decide) (by decide +kernel)) (Nat.le_refl _) ⟨Nat.le_of_ble_eq_true rfl, Nat.le_of_ble_eq_true rfl⟩ (fun v h' hq => ?_)
  obtain ⟨rfl, hB⟩ := hq
  refine kx_aast (pc := 139) (k := 55) (ci := 7) (r := (kx_C7, kx_T7, 12)) (congrArg Prod.fst (hB.2.2.1.2 (13, 55, 4) (by decide +kernel))) (by decide) (congrArg Prod.fst (hB.2.2.1.2 (66, 8, 0) (by decide +kernel))) rfl (Or.inr ⟨rfl, rfl⟩) (by rw [hB.2.2.1.2 (13, 55, 4) (by decide +kernel)]; exact vp_in_nI (by decide) (by decide)) (kx_dd d_Tc_init 67 rfl) ?_
  rw [show (nI 2).toNatClampNeg = 2 from nI_clamp (by decide)]
  have hB := hB.setR (a := 13) (j := 2) (v := 66) (by decide) (by decide +kernel)
  refine kx_iinc_e (pc := 140) (v := nI 3) (lv' := [_, _]) (kx_dd d_Tc_init 68 rfl) rfl (Nat.le_of_ble_eq_true rfl) rfl rfl ?_
  refine kx_goto (pc := 143) (tgt := 122) (kx_dd d_Tc_init 69 rfl) rfl ?_
  refine kx_iload_n (pc := 122) (kx_dd d_Tc_init 58 rfl) rfl rfl ?_
  refine kx_iconst (pc := 123) (v := 4) (kx_dd d_Tc_init 59 rfl) rfl ?_
  refine kx_icmp_ge (pc := 124) (tgt := 146) (kx_dd d_Tc_init 60 rfl) rfl (fun z => absurd z (by decide)) (fun _ => ?_)
  refine kx_aload_n (pc := 127) (kx_dd d_Tc_init 61 rfl) rfl rfl ?_
  refine kx_getR (pc := 128) (b := 13) fl_Tc_27 (congrArg Prod.fst (hB.2.2.1.2 (0, 13, 0) (by decide +kernel))) rfl (hB.2.2.1.1 (0, 2, 13) (by decide +kernel)) (kx_dd d_Tc_init 62 rfl) ?_
  refine kx_iload_n (pc := 131) (kx_dd d_Tc_init 63 rfl) rfl rfl ?_
  have hez := hB.2.2.2.1.2
  refine kx_newB (pc := 132) (N1 := 76) (ci := 7) (r := (kx_C7, kx_T7, 12)) hB rfl rfl cl_Tc_25 (kx_in 80 (by decide +kernel) rfl) (kx_in 4 (by decide +kernel) rfl) (by decide) (Nat.le_of_ble_eq_true rfl) (Nat.le_of_ble_eq_true rfl) (kx_dd d_Tc_init 64 rfl) (fun h hB => ?_)
  refine kx_dup (pc := 135) (kx_dd d_Tc_init 65 rfl) rfl ?_
  refine kx_invI (pc := 136) (a := 75) (as := []) rfl (kx_dd d_Tc_init 66 rfl) ⟨lk_Tc_77, rfl, wi_Ru_init⟩ w_Ru_init rfl rfl (Nat.le_of_ble_eq_true rfl) (x_Ru_init (d := d + 3) _ _ _ _ _ hB (by decide +kernel) (by decide +kernel) (by decide) (by decide +kernel)) (Nat.le_refl _) ⟨Nat.le_of_ble_eq_true rfl, Nat.le_of_ble_eq_true rfl⟩ (fun v h' hq => ?_)
  obtain ⟨rfl, hB⟩ := hq
  refine kx_aast (pc := 139) (k := 55) (ci := 7) (r := (kx_C7, kx_T7, 12)) (congrArg Prod.fst (hB.2.2.1.2 (13, 55, 4) (by decide +kernel))) (by decide) (congrArg Prod.fst (hB.2.2.1.2 (75, 8, 0) (by decide +kernel))) rfl (Or.inr ⟨rfl, rfl⟩) (by rw [hB.2.2.1.2 (13, 55, 4) (by decide +kernel)]; exact vp_in_nI (by decide) (by decide)) (kx_dd d_Tc_init 67 rfl) ?_
  rw [show (nI 3).toNatClampNeg = 3 from nI_clamp (by decide)]
  have hB := hB.setR (a := 13) (j := 3) (v := 75) (by decide) (by decide +kernel)
  refine kx_iinc_e (pc := 140) (v := nI 4) (lv' := [_, _]) (kx_dd d_Tc_init 68 rfl) rfl (Nat.le_of_ble_eq_true rfl) rfl rfl ?_
  refine kx_goto (pc := 143) (tgt := 122) (kx_dd d_Tc_init 69 rfl) rfl ?_
  refine kx_iload_n (pc := 122) (kx_dd d_Tc_init 58 rfl) rfl rfl ?_
  refine kx_iconst (pc := 123) (v := 4) (kx_dd d_Tc_init 59 rfl) rfl ?_
  refine kx_icmp_ge (pc := 124) (tgt := 146) (kx_dd d_Tc_init 60 rfl) rfl (fun _ => ?_) (fun z => absurd (by decide) z)
  refine kx_aload_n (pc := 146) (kx_dd d_Tc_init 70 rfl) rfl rfl ?_
  refine kx_iconst (pc := 147) (v := 1) (kx_dd d_Tc_init 71 rfl) rfl ?_
  refine kx_putI (pc := 148) fl_Tc_78 (congrArg Prod.fst (hB.2.2.1.2 (0, 13, 0) (by decide +kernel))) (by decide) rfl rfl (kx_dd d_Tc_init 72 rfl) ?_
  have hB := hB.setI (a := 0) (j := 12) (v := 1) (by decide) (by decide +kernel)
  have hB := (hB.sub (R' := rC9) (T' := tC) (by decide +kernel) (by decide +kernel)).mono (E' := EC) (fun x y z q => by
    rcases q with q | ⟨n1, (((q | q) | q) | q) | q⟩
    · exact Or.inl q
    · rcases q with q | ⟨n2, q | q⟩
      · exact Or.inr (Or.inl q)
      · exact Or.inr (Or.inr ⟨n1, n2, Or.inr (Or.inr q)⟩)
      · exact Or.inr (Or.inr ⟨n1, n2, Or.inl ⟨by omega, by omega⟩⟩)
    · exact Or.inr (Or.inr ⟨n1, by omega, Or.inr (Or.inl ⟨by omega, by omega⟩)⟩)
    · exact Or.inr (Or.inr ⟨n1, by omega, Or.inr (Or.inl ⟨by omega, by omega⟩)⟩)
    · exact Or.inr (Or.inr ⟨n1, by omega, Or.inr (Or.inl ⟨by omega, by omega⟩)⟩)
    · exact Or.inr (Or.inr ⟨n1, by omega, Or.inr (Or.inl ⟨by omega, by omega⟩)⟩))
  exact kx_vret (pc := 151) rfl (kx_dd d_Tc_init 73 rfl) (Nat.le_of_ble_eq_true rfl) (Nat.le_of_ble_eq_true rfl) ⟨rfl, hB⟩
