/-! the reference: awards, decide -/
theorem sumA_set {D : DK} {c j : Nat} {v : Int32} (hj : j ≠ 10) : ∀ k, sumA (setCf D c j v).2.2.1 k = sumA D.2.2.1 k
  | 0 => rfl
  | k + 1 => by
    unfold sumA
    rw [sumA_set hj k, cN_ne (fun z => hj z.symm)]
theorem max0L (m : Int64) : (if m < 0 then (0 : Int64) else m) = if (0 : Int64) < m then m else 0 := by
  by_cases h1 : m < 0
  · rw [if_pos h1, if_neg (Int64.lt_asymm h1)]
  · rw [if_neg h1]
    by_cases h2 : 0 < m
    · rw [if_pos h2]
    · rw [if_neg h2]
      exact Int64.le_antisymm (Int64.not_lt.mp h2) (Int64.not_lt.mp h1)
def FdD (c a j : Nat) : Prop := FdM a j ∨ (130 ≤ a ∧ a ≤ 138 ∧ j = c)
theorem RUm.fD {r : RU} {v n c : Nat} {T : Nat → Nat} {h h' : kx_Mem} (hp : RUm r v n T h) (hf : kx_Fc (FdD c) h h') : RUm r v n T h' := hp.fm hf (fun a j h1 h2 => by simp only [FdD, FdM, FT]; omega)
theorem y_awards_loop {l : Launch} {g : kx_G} {d : Nat} {h : kx_Mem} (hm : SM h) (nw : Nat) (T : Nat → Nat) (hwt : WTok nw T) (D : DK) (ho : DKok D) (hp : DKm D nw T h) : ∀ n k, k + n = D.2.2.1.1 →  kx_X (l, g, m_Mo_awards, d, 0, 0, (fun v h' => v = some (.int (nI (sumA D.2.2.1 D.2.2.1.1))) ∧ h' = h)) 0 0 4 [some (.ref 84), some (.int (nI (sumA D.2.2.1 k))), some (.int (nI k))] [] (h) := by
  intro n
  induction n with
  | zero =>
    intro k hk 
    have hk0 : k = D.2.2.1.1 := by omega
    subst hk0
    have o60 := ho.2.2.1.1
    refine kx_iload_n (pc := 4) (kx_dd d_Mo_awards 4 rfl) rfl rfl ?_
    refine kx_aload_n (pc := 5) (kx_dd d_Mo_awards 5 rfl) rfl rfl ?_
    refine kx_getI (pc := 6) fl_Mo_510 (hm.k 0 rfl) rfl (kx_dd d_Mo_awards 6 rfl) ?_
    refine kx_icmp_ge (pc := 9) (tgt := 27) (kx_dd d_Mo_awards 7 rfl) rfl (fun c9 => ?_) (fun c9 => ?_)
    · refine kx_iload_n (pc := 27) (kx_dd d_Mo_awards 17 rfl) rfl rfl ?_
      refine kx_iret (pc := 28) rfl (kx_dd d_Mo_awards 18 rfl) (Nat.le_refl _) (Nat.le_refl _) ?_
      exact ⟨rfl, rfl⟩
    · exact absurd (by rw [hp.2.2.1.1]; exact Int32.le_refl _) c9
  | succ n ih =>
    intro k hk 
    have o60 := ho.2.2.1.1
    have hcc := hp.2.2.1.2 k (by omega)
    have occ := ho.2.2.1.2 k (by omega)
    have e10 : h.1 132 k = nI (cN D.2.2.1 k 10) := (hcc.1 10 (by decide) (by decide) (by decide)).trans (occ.1 10 (by decide) (by decide) (by decide) (by decide))
    refine kx_iload_n (pc := 4) (kx_dd d_Mo_awards 4 rfl) rfl rfl ?_
    refine kx_aload_n (pc := 5) (kx_dd d_Mo_awards 5 rfl) rfl rfl ?_
    refine kx_getI (pc := 6) fl_Mo_510 (hm.k 0 rfl) rfl (kx_dd d_Mo_awards 6 rfl) ?_
    refine kx_icmp_ge (pc := 9) (tgt := 27) (kx_dd d_Mo_awards 7 rfl) rfl (fun c9 => ?_) (fun c9 => ?_)
    · exact absurd c9 (by rw [hp.2.2.1.1]; exact nI_ge (by omega) (by omega))
    · refine kx_iload_n (pc := 12) (kx_dd d_Mo_awards 8 rfl) rfl rfl ?_
      refine kx_aload_n (pc := 13) (kx_dd d_Mo_awards 9 rfl) rfl rfl ?_
      refine kx_getR (pc := 14) (b := 132) fl_Mo_354 (hm.k 0 rfl) rfl (hm.r 47 rfl) (kx_dd d_Mo_awards 10 rfl) ?_
      refine kx_iload_n (pc := 17) (kx_dd d_Mo_awards 11 rfl) rfl rfl ?_
      refine kx_ialdn (pc := 18) k (hm.t 48 rfl) rfl (by omega) (by decide) (kx_dd d_Mo_awards 12 rfl) ?_
      refine kx_iadd (pc := 19) (kx_dd d_Mo_awards 13 rfl) ?_
      refine kx_istore_ne (pc := 20) (lv' := [_, _, _]) (kx_dd d_Mo_awards 14 rfl) rfl (Nat.le_of_ble_eq_true rfl) rfl ?_
      refine kx_iinc_e (pc := 21) (v := nI (k + 1)) (lv' := [_, _, _]) (kx_dd d_Mo_awards 15 rfl) rfl (Nat.le_of_ble_eq_true rfl) (nI_1 k) rfl ?_
      refine kx_goto (pc := 24) (tgt := 4) (kx_dd d_Mo_awards 16 rfl) rfl ?_
      rw [e10, nI_add]
      exact ih (k + 1) (by omega)
theorem y_awards {l : Launch} {g : kx_G} {d : Nat} {h : kx_Mem} (hm : SM h) (nw : Nat) (T : Nat → Nat) (hwt : WTok nw T) (D : DK) (ho : DKok D) (hp : DKm D nw T h) : kx_Sp l g m_Mo_awards [.ref 84] h (d) 0 0 (fun v h' => v = some (.int (nI (sumA D.2.2.1 D.2.2.1.1))) ∧ h' = h) := by
  refine kx_enter_e (lv := [_, _, _]) (by decide +kernel) (Nat.le_of_ble_eq_true rfl) rfl ?_
  refine kx_iconst (pc := 0) (v := 0) (kx_dd d_Mo_awards 0 rfl) rfl ?_
  refine kx_istore_ne (pc := 1) (lv' := [_, _, _]) (kx_dd d_Mo_awards 1 rfl) rfl (Nat.le_of_ble_eq_true rfl) rfl ?_
  refine kx_iconst (pc := 2) (v := 0) (kx_dd d_Mo_awards 2 rfl) rfl ?_
  refine kx_istore_ne (pc := 3) (lv' := [_, _, _]) (kx_dd d_Mo_awards 3 rfl) rfl (Nat.le_of_ble_eq_true rfl) rfl ?_
  exact y_awards_loop hm nw T hwt D ho hp D.2.2.1.1 0 (by omega)
theorem y_decide_end {l : Launch} {g : kx_G} {d : Nat} (nw : Nat) (T : Nat → Nat) (D : DK) (r : RU) (td c su : Nat) (h h3 : kx_Mem) (aw : Int64) (hp3 : DKm (setCf (setCf D c 15 (nI (faiF D r c td))) c 16 (nI (dueF D r td c))) nw T h3) (hf3 : kx_Fc (FdD c) h h3) (hck3 : h3.1 84 36 = nI td) (hm3 : SM h3) (hc : c < D.2.2.1.1) (hc60 : c < 60) (eaw : aw.toInt32 = nI (awdF D r td c su)) (w0 w3 : Int32) : kx_X (l, g, m_Mo_decide, d + 7, 0, 0, (fun v9 h' => v9 = none ∧ DKm (decD D r td c su (dueF D r td c)) nw T h' ∧ kx_Fc (FdD c) h h')) 0 0 136 [some (.ref 84), some (.int (nI c)), some (.int (nI su)), some (.int w0), some (.long aw), none, some (.int w3)] [] h3 := by
  refine kx_aload_n (pc := 136) (kx_dd d_Mo_decide 81 rfl) rfl rfl ?_
  refine kx_getR (pc := 137) (b := 130) fl_Mo_348 (hm3.k 0 rfl) rfl (hm3.r 45 rfl) (kx_dd d_Mo_decide 82 rfl) ?_
  refine kx_iload_n (pc := 140) (kx_dd d_Mo_decide 83 rfl) rfl rfl ?_
  refine kx_iconst (pc := 141) (v := 2) (kx_dd d_Mo_decide 84 rfl) rfl ?_
  refine kx_iastn (pc := 142) c (hm3.t 46 rfl) (by decide) rfl (by omega) (by decide) (kx_dd d_Mo_decide 85 rfl) ?_
  refine kx_aload_n (pc := 143) (kx_dd d_Mo_decide 86 rfl) rfl rfl ?_
  refine kx_getR (pc := 144) (b := 131) fl_Mo_351 (hm3.k 0 rfl) rfl (hm3.r 46 rfl) (kx_dd d_Mo_decide 87 rfl) ?_
  refine kx_iload_n (pc := 147) (kx_dd d_Mo_decide 88 rfl) rfl rfl ?_
  refine kx_iload_n (pc := 148) (kx_dd d_Mo_decide 89 rfl) rfl rfl ?_
  refine kx_iastn (pc := 149) c (hm3.t 47 rfl) (by decide) rfl (by omega) (by decide) (kx_dd d_Mo_decide 90 rfl) ?_
  refine kx_aload_n (pc := 150) (kx_dd d_Mo_decide 91 rfl) rfl rfl ?_
  refine kx_getR (pc := 151) (b := 132) fl_Mo_354 (hm3.k 0 rfl) rfl (hm3.r 47 rfl) (kx_dd d_Mo_decide 92 rfl) ?_
  refine kx_iload_n (pc := 154) (kx_dd d_Mo_decide 93 rfl) rfl rfl ?_
  refine kx_lload (pc := 155) (kx_dd d_Mo_decide 94 rfl) rfl ?_
  refine kx_l2i (pc := 157) (kx_dd d_Mo_decide 95 rfl) ?_
  refine kx_iastn (pc := 158) c (hm3.t 48 rfl) (by decide) rfl (by omega) (by decide) (kx_dd d_Mo_decide 96 rfl) ?_
  refine kx_aload_n (pc := 159) (kx_dd d_Mo_decide 97 rfl) rfl rfl ?_
  refine kx_getR (pc := 160) (b := 134) fl_Mo_360 (hm3.k 0 rfl) rfl (hm3.r 49 rfl) (kx_dd d_Mo_decide 98 rfl) ?_
  refine kx_iload_n (pc := 163) (kx_dd d_Mo_decide 99 rfl) rfl rfl ?_
  refine kx_aload_n (pc := 164) (kx_dd d_Mo_decide 100 rfl) rfl rfl ?_
  refine kx_getI (pc := 165) fl_Mo_426 (hm3.k 0 rfl) rfl (kx_dd d_Mo_decide 101 rfl) ?_
  refine kx_iastn (pc := 168) c (hm3.t 50 rfl) (by decide) rfl (by omega) (by decide) (kx_dd d_Mo_decide 102 rfl) ?_
  refine kx_aload_n (pc := 169) (kx_dd d_Mo_decide 103 rfl) rfl rfl ?_
  refine kx_getR (pc := 170) (b := 135) fl_Mo_363 (hm3.k 0 rfl) rfl (hm3.r 50 rfl) (kx_dd d_Mo_decide 104 rfl) ?_
  refine kx_iload_n (pc := 173) (kx_dd d_Mo_decide 105 rfl) rfl rfl ?_
  refine kx_iconst (pc := 174) (v := 0) (kx_dd d_Mo_decide 106 rfl) rfl ?_
  refine kx_iastn (pc := 175) c (hm3.t 51 rfl) (by decide) rfl (by omega) (by decide) (kx_dd d_Mo_decide 107 rfl) ?_
  refine kx_aload_n (pc := 176) (kx_dd d_Mo_decide 108 rfl) rfl rfl ?_
  refine kx_getR (pc := 177) (b := 136) fl_Mo_366 (hm3.k 0 rfl) rfl (hm3.r 51 rfl) (kx_dd d_Mo_decide 109 rfl) ?_
  refine kx_iload_n (pc := 180) (kx_dd d_Mo_decide 110 rfl) rfl rfl ?_
  refine kx_iconst (pc := 181) (v := 0) (kx_dd d_Mo_decide 111 rfl) rfl ?_
  refine kx_iastn (pc := 182) c (hm3.t 52 rfl) (by decide) rfl (by omega) (by decide) (kx_dd d_Mo_decide 112 rfl) ?_
  refine kx_vret (pc := 183) rfl (kx_dd d_Mo_decide 113 rfl) (Nat.le_refl _) (Nat.le_refl _) ?_
  refine ⟨rfl, ?_, (((((hf3.tr (kx_Fc.set (Or.inr ⟨by decide, by decide, rfl⟩))).tr (kx_Fc.set (Or.inr ⟨by decide, by decide, rfl⟩))).tr (kx_Fc.set (Or.inr ⟨by decide, by decide, rfl⟩))).tr (kx_Fc.set (Or.inr ⟨by decide, by decide, rfl⟩))).tr (kx_Fc.set (Or.inr ⟨by decide, by decide, rfl⟩))).tr (kx_Fc.set (Or.inr ⟨by decide, by decide, rfl⟩))⟩
  rw [show (kx_setI (kx_setI (kx_setI h3 130 c 2) 131 c (nI su)) 132 c aw.toInt32).1 84 36 = nI td from by simpa [kx_setI, kx_up] using hck3, eaw]
  have h8 := (((((hp3.set (c := c) (j := 8) (v := 2) (by decide) (by decide)).set (c := c) (j := 9) (v := nI su) (by decide) (by decide)).set (c := c) (j := 10) (v := nI (awdF D r td c su)) (by decide) (by decide)).set (c := c) (j := 12) (v := nI td) (by decide) (by decide)).set (c := c) (j := 13) (v := 0) (by decide) (by decide)).set (c := c) (j := 14) (v := 0) (by decide) (by decide)
  have e9 : setCf (setCf (setCf (setCf (setCf (setCf (setCf (setCf D c 15 (nI (faiF D r c td))) c 16 (nI (dueF D r td c))) c 8 2) c 9 (nI su)) c 10 (nI (awdF D r td c su))) c 12 (nI td)) c 13 0) c 14 0 = decD D r td c su (dueF D r td c) := by
    unfold decD
    rw [← dec_m]
    rfl
  rw [e9] at h8
  exact h8
theorem y_decide {l : Launch} {g : kx_G} {d : Nat} {h : kx_Mem} (hm : SM h) (nw : Nat) (T : Nat → Nat) (hwt : WTok nw T) (D : DK) (ho : DKok D) (hp : DKm D nw T h) (r : RU) (td : Nat) (v : Nat) (hv : v < 4) (hro : RUok r) (hse : RSet r) (hrp : RUm r v nw T h) (hif : h.1 84 31 = nI v) (hck : h.1 84 36 = nI td) (htd : td ≤ 1999) (c : Nat) (hc : c < D.2.2.1.1) (hfi : cN D.2.2.1 c 5 ≤ td) (su : Nat) (hsu : su ≤ 999999) (h3 : cN D.2.2.1 c 8 ≠ 3) : kx_Sp l g m_Mo_decide [.ref 84, .int (nI c), .int (nI su)] h (d + 7) 0 0 (fun v9 h' => v9 = none ∧ DKm (decD D r td c su (dueF D r td c)) nw T h' ∧ kx_Fc (FdD c) h h') := by
  have o60 := ho.2.2.1.1
  have occ := ho.2.2.1.2 c hc
  obtain ⟨-, q0, q1, q2, q3, q4, q5, qd, -⟩ := occ
  have oth := (ho.2.1.2 (cN D.2.2.1 c 2) q2).1
  have ots := ho.2.1.1
  have ol : lostD D c ≤ cN D.2.2.1 c 5 := qd
  obtain ⟨t0, t1, t4, t5, t6, t8, t10, t11, t7⟩ := hse
  have hall := allF_le (D := D) (r := r) (c := c) t4 hsu htd
  have hsm := sumA_le ho.2.2.1 D.2.2.1.1 (Nat.le_refl _)
  have hdu := dueF_le ho (r := r) (td := td) hc
  have hfa := faiF_lt (D := D) (r := r) (c := c) (kn := td)
  refine kx_enter_e (lv := [_, _, _, _, _, _, _]) (by decide +kernel) (Nat.le_of_ble_eq_true rfl) rfl ?_
  refine kx_aload_n (pc := 0) (kx_dd d_Mo_decide 0 rfl) rfl rfl ?_
  refine kx_getR (pc := 1) (b := 137) fl_Mo_369 (hm.k 0 rfl) rfl (hm.r 52 rfl) (kx_dd d_Mo_decide 1 rfl) ?_
  refine kx_iload_n (pc := 4) (kx_dd d_Mo_decide 2 rfl) rfl rfl ?_
  refine kx_aload_n (pc := 5) (kx_dd d_Mo_decide 3 rfl) rfl rfl ?_
  refine kx_iload_n (pc := 6) (kx_dd d_Mo_decide 4 rfl) rfl rfl ?_
  refine kx_aload_n (pc := 7) (kx_dd d_Mo_decide 5 rfl) rfl rfl ?_
  refine kx_getI (pc := 8) fl_Mo_251 (hm.k 0 rfl) rfl (kx_dd d_Mo_decide 6 rfl) ?_
  refine kx_aload_n (pc := 11) (kx_dd d_Mo_decide 7 rfl) rfl rfl ?_
  refine kx_getI (pc := 12) fl_Mo_426 (hm.k 0 rfl) rfl (kx_dd d_Mo_decide 8 rfl) ?_
  rw [hif, hck]
  refine kx_invV (pc := 15) (a := 84) (as := [_, _, _]) (kx_dd d_Mo_decide 9 rfl) ⟨lk_Mo_556, wi_Mo_failsOf, we_Mo_failsOf⟩ w_Mo_failsOf (hm.k 0 rfl) rfl rfl rfl rfl (Nat.le_of_ble_eq_true rfl) (y_failsOf (d := d + 2) hm nw T hwt D ho hp r hro v (by omega) hrp c hc td (by omega)) (Nat.le_refl _) ⟨Nat.le_refl _, Nat.le_refl _⟩ (fun v h' hq => ?_)
  obtain ⟨rfl, he⟩ := hq
  rw [he]
  clear he
  refine kx_iastn (pc := 18) c (hm.t 53 rfl) (by decide) rfl (by omega) (by decide) (kx_dd d_Mo_decide 10 rfl) ?_
  have hf1 : kx_Fc (FdD c) h (kx_setI h 137 c (nI (faiF D r c td))) := kx_Fc.set (Or.inr ⟨by decide, by decide, rfl⟩)
  have hm1 := hm.fc hf1
  have hp1 : DKm (setCf D c 15 (nI (faiF D r c td))) nw T (kx_setI h 137 c (nI (faiF D r c td))) := hp.set (by decide) (by decide)
  have ho1 : DKok (setCf D c 15 (nI (faiF D r c td))) := ho.set (by decide) (Or.inr ⟨_, rfl, by show _ ≤ 63; omega⟩)
  have hrp1 := hrp.fD hf1
  have hif1 : ((kx_setI h 137 c (nI (faiF D r c td)))).1 84 31 = nI v := (hf1.2 84 31 (by simp [FdD, FdM, FT])).trans hif
  have hck1 : ((kx_setI h 137 c (nI (faiF D r c td)))).1 84 36 = nI td := (hf1.2 84 36 (by simp [FdD, FdM, FT])).trans hck
  refine kx_aload_n (pc := 19) (kx_dd d_Mo_decide 11 rfl) rfl rfl ?_
  refine kx_getR (pc := 20) (b := 138) fl_Mo_372 (hm1.k 0 rfl) rfl (hm1.r 53 rfl) (kx_dd d_Mo_decide 12 rfl) ?_
  refine kx_iload_n (pc := 23) (kx_dd d_Mo_decide 13 rfl) rfl rfl ?_
  refine kx_aload_n (pc := 24) (kx_dd d_Mo_decide 14 rfl) rfl rfl ?_
  refine kx_iload_n (pc := 25) (kx_dd d_Mo_decide 15 rfl) rfl rfl ?_
  refine kx_invV (pc := 26) (a := 84) (as := [_]) (kx_dd d_Mo_decide 16 rfl) ⟨lk_Mo_564, wi_Mo_dueOf, we_Mo_dueOf⟩ w_Mo_dueOf (hm1.k 0 rfl) rfl rfl rfl rfl (Nat.le_of_ble_eq_true rfl) (y_dueOf (d := d) hm1 nw T hwt (setCf D c 15 (nI (faiF D r c td))) ho1 hp1 r td v hv hro hrp1 hif1 hck1 (by omega) c hc) (Nat.le_refl _) ⟨Nat.le_refl _, Nat.le_refl _⟩ (fun v h' hq => ?_)
  revert h'
  intro h2 hq
  obtain ⟨rfl, hq1⟩ := hq
  have hm2 := hm1.fc hq1
  rw [dueF_set (by decide) (fun z => absurd z (by decide))]
  refine kx_iastn (pc := 29) c (hm2.t 54 rfl) (by decide) rfl (by omega) (by decide) (kx_dd d_Mo_decide 17 rfl) ?_
  have hf2 : kx_Fc (FdD c) h h2 := hf1.tr (hq1.mono (fun a j z => Or.inl z))
  have hp2 := hp1.fd hq1
  have hf3 : kx_Fc (FdD c) h (kx_setI h2 138 c (nI (dueF D r td c))) := hf2.tr (kx_Fc.set (Or.inr ⟨by decide, by decide, rfl⟩))
  have hm3 := hm.fc hf3
  have hp3 : DKm (setCf (setCf D c 15 (nI (faiF D r c td))) c 16 (nI (dueF D r td c))) nw T (kx_setI h2 138 c (nI (dueF D r td c))) := hp2.set (by decide) (by decide)
  have ho2 : DKok (setCf (setCf D c 15 (nI (faiF D r c td))) c 16 (nI (dueF D r td c))) := ho1.set (by decide) (Or.inr ⟨_, rfl, hdu⟩)
  have hrp3 := hrp.fD hf3
  have hif3 : ((kx_setI h2 138 c (nI (dueF D r td c)))).1 84 31 = nI v := (hf3.2 84 31 (by simp [FdD, FdM, FT])).trans hif
  have hck3 : ((kx_setI h2 138 c (nI (dueF D r td c)))).1 84 36 = nI td := (hf3.2 84 36 (by simp [FdD, FdM, FT])).trans hck
  have s4 := (hrp3.1 4 (by decide)).trans (t0 4 (by decide) (by decide))
  have s5 := (hrp3.1 5 (by decide)).trans (t0 5 (by decide) (by decide))
  have s7 := hrp3.1 7 (by decide)
  have hcc := hp3.2.2.1.2 c hc
  have occ := ho2.2.2.1.2 c hc
  have f2 : ((kx_setI h2 138 c (nI (dueF D r td c)))).1 124 c = nI (cN D.2.2.1 c 2) := by
    have z := (hcc.1 2 (by decide) (by decide) (by decide)).trans (occ.1 2 (by decide) (by decide) (by decide) (by decide))
    rwa [cN_ne (show 2 ≠ 16 by decide), cN_ne (show 2 ≠ 15 by decide)] at z
  have f5 : ((kx_setI h2 138 c (nI (dueF D r td c)))).1 128 c = nI (cN D.2.2.1 c 5) := by
    have z := hcc.2.1.trans (occ.1 5 (by decide) (by decide) (by decide) (by decide))
    rwa [cN_ne (show 5 ≠ 16 by decide), cN_ne (show 5 ≠ 15 by decide)] at z
  have fl : ((kx_setI h2 138 c (nI (dueF D r td c)))).1 118 (cN D.2.2.1 c 2) = nI (lostD D c) := (hp3.2.1.2 _ q2).1
  refine kx_aload_n (pc := 30) (kx_dd d_Mo_decide 18 rfl) rfl rfl ?_
  refine kx_aload_n (pc := 31) (kx_dd d_Mo_decide 19 rfl) rfl rfl ?_
  refine kx_getI (pc := 32) fl_Mo_251 (hm3.k 0 rfl) rfl (kx_dd d_Mo_decide 20 rfl) ?_
  refine kx_iconst (pc := 35) (v := 5) (kx_dd d_Mo_decide 21 rfl) rfl ?_
  rw [hif3]
  refine kx_invV (pc := 36) (a := 84) (as := [_, _]) (kx_dd d_Mo_decide 22 rfl) ⟨lk_Mo_162, wi_Mo_ruleOf, we_Mo_ruleOf⟩ w_Mo_ruleOf (hm3.k 0 rfl) rfl rfl rfl rfl (Nat.le_of_ble_eq_true rfl) (y_ruleOf (d := d + 6) hm3 v 5 (by omega) (by decide)) (Nat.le_refl _) ⟨Nat.le_refl _, Nat.le_refl _⟩ (fun v h' hq => ?_)
  obtain ⟨rfl, he⟩ := hq
  rw [he]
  clear he
  refine kx_iconst (pc := 39) (v := 1) (kx_dd d_Mo_decide 23 rfl) rfl ?_
  refine kx_icmp_ne (pc := 40) (tgt := 52) (kx_dd d_Mo_decide 24 rfl) rfl (fun c40 => ?_) (fun c40 => ?_)
  · refine kx_aload_n (pc := 52) (kx_dd d_Mo_decide 30 rfl) rfl rfl ?_
    refine kx_getR (pc := 53) (b := 118) fl_Mo_312 (hm3.k 0 rfl) rfl (hm3.r 33 rfl) (kx_dd d_Mo_decide 31 rfl) ?_
    refine kx_aload_n (pc := 56) (kx_dd d_Mo_decide 32 rfl) rfl rfl ?_
    refine kx_getR (pc := 57) (b := 124) fl_Mo_330 (hm3.k 0 rfl) rfl (hm3.r 39 rfl) (kx_dd d_Mo_decide 33 rfl) ?_
    refine kx_iload_n (pc := 60) (kx_dd d_Mo_decide 34 rfl) rfl rfl ?_
    refine kx_ialdn (pc := 61) c (hm3.t 40 rfl) rfl (by omega) (by decide) (kx_dd d_Mo_decide 35 rfl) ?_
    rw [f2]
    refine kx_ialdn (pc := 62) (cN D.2.2.1 c 2) (hm3.t 34 rfl) rfl (by omega) (by decide) (kx_dd d_Mo_decide 36 rfl) ?_
    refine kx_istore_ne (pc := 63) (lv' := [_, _, _, _, _, _, _]) (kx_dd d_Mo_decide 37 rfl) rfl (Nat.le_of_ble_eq_true rfl) rfl ?_
    refine kx_iload_n (pc := 64) (kx_dd d_Mo_decide 38 rfl) rfl rfl ?_
    refine kx_i2l (pc := 65) (kx_dd d_Mo_decide 39 rfl) ?_
    refine kx_iload_n (pc := 66) (kx_dd d_Mo_decide 40 rfl) rfl rfl ?_
    refine kx_i2l (pc := 67) (kx_dd d_Mo_decide 41 rfl) ?_
    refine kx_aload_n (pc := 68) (kx_dd d_Mo_decide 42 rfl) rfl rfl ?_
    refine kx_aload_n (pc := 69) (kx_dd d_Mo_decide 43 rfl) rfl rfl ?_
    refine kx_getI (pc := 70) fl_Mo_251 (hm3.k 0 rfl) rfl (kx_dd d_Mo_decide 44 rfl) ?_
    refine kx_iconst (pc := 73) (v := 4) (kx_dd d_Mo_decide 45 rfl) rfl ?_
    rw [hif3]
    refine kx_invV (pc := 74) (a := 84) (as := [_, _]) (kx_dd d_Mo_decide 46 rfl) ⟨lk_Mo_162, wi_Mo_ruleOf, we_Mo_ruleOf⟩ w_Mo_ruleOf (hm3.k 0 rfl) rfl rfl rfl rfl (Nat.le_of_ble_eq_true rfl) (y_ruleOf (d := d + 6) hm3 v 4 (by omega) (by decide)) (Nat.le_refl _) ⟨Nat.le_refl _, Nat.le_refl _⟩ (fun v h' hq => ?_)
    obtain ⟨rfl, he⟩ := hq
    rw [he]
    clear he
    refine kx_i2l (pc := 77) (kx_dd d_Mo_decide 47 rfl) ?_
    refine kx_lmul (pc := 78) (kx_dd d_Mo_decide 48 rfl) ?_
    refine kx_aload_n (pc := 79) (kx_dd d_Mo_decide 49 rfl) rfl rfl ?_
    refine kx_getI (pc := 80) fl_Mo_426 (hm3.k 0 rfl) rfl (kx_dd d_Mo_decide 50 rfl) ?_
    refine kx_iload_n (pc := 83) (kx_dd d_Mo_decide 51 rfl) rfl rfl ?_
    refine kx_isub (pc := 84) (kx_dd d_Mo_decide 52 rfl) ?_
    refine kx_i2l (pc := 85) (kx_dd d_Mo_decide 53 rfl) ?_
    refine kx_lmul (pc := 86) (kx_dd d_Mo_decide 54 rfl) ?_
    refine kx_ldc2 (pc := 87) kl_Mo_567 (kx_dd d_Mo_decide 55 rfl) ?_
    refine kx_ldiv (pc := 90) (kx_dd d_Mo_decide 56 rfl) (by decide) ?_
    refine kx_ladd (pc := 91) (kx_dd d_Mo_decide 57 rfl) ?_
    refine kx_lstore_e (pc := 92) (lv' := [_, _, _, _, _, _, _]) (kx_dd d_Mo_decide 58 rfl) (Nat.le_of_ble_eq_true rfl) rfl ?_
    refine kx_aload_n (pc := 94) (kx_dd d_Mo_decide 59 rfl) rfl rfl ?_
    refine kx_aload_n (pc := 95) (kx_dd d_Mo_decide 60 rfl) rfl rfl ?_
    refine kx_getI (pc := 96) fl_Mo_251 (hm3.k 0 rfl) rfl (kx_dd d_Mo_decide 61 rfl) ?_
    refine kx_bipush (pc := 99) (v := 7) (kx_dd d_Mo_decide 62 rfl) rfl ?_
    rw [hif3]
    refine kx_invV (pc := 101) (a := 84) (as := [_, _]) (kx_dd d_Mo_decide 63 rfl) ⟨lk_Mo_162, wi_Mo_ruleOf, we_Mo_ruleOf⟩ w_Mo_ruleOf (hm3.k 0 rfl) rfl rfl rfl rfl (Nat.le_of_ble_eq_true rfl) (y_ruleOf (d := d + 6) hm3 v 7 (by omega) (by decide)) (Nat.le_refl _) ⟨Nat.le_refl _, Nat.le_refl _⟩ (fun v h' hq => ?_)
    obtain ⟨rfl, he⟩ := hq
    rw [he]
    clear he
    refine kx_istore_e (pc := 104) (lv' := [_, _, _, _, _, _, _]) (kx_dd d_Mo_decide 64 rfl) (Nat.le_of_ble_eq_true rfl) rfl ?_
    refine kx_iload (pc := 106) (kx_dd d_Mo_decide 65 rfl) rfl ?_
    refine kx_iconst (pc := 108) (v := -1) (kx_dd d_Mo_decide 66 rfl) rfl ?_
    refine kx_icmp_eq (pc := 109) (tgt := 136) (kx_dd d_Mo_decide 67 rfl) rfl (fun c109 => ?_) (fun c109 => ?_)
    · rw [s7] at c109
      rw [s5, show (1 : Int32) = nI 1 from rfl, nI_eq (by omega) (by decide)] at c40
      have hsin : sinD D r c = lostD D c := if_pos (by omega)
      have hle : sinD D r c ≤ td := by rw [hsin]; omega
      have ev : (nI su).toInt64 + (nI su).toInt64 * (((kx_setI h2 138 c (nI (dueF D r td c)))).1 89 (11 * v + 4)).toInt64 * (((kx_setI h2 138 c (nI (dueF D r td c)))).1 84 36 - (((kx_setI h2 138 c (nI (dueF D r td c)))).1 118 (cN D.2.2.1 c 2))).toInt64 / 36000 = lN (allF D r td c su) := by
        rw [fl, s4, hck3, ← hsin, pk_sub hle, nI_l (by omega), nI_l (by omega), nI_l (by omega), lN_mul, lN_mul, show (36000 : Int64) = lN 36000 from rfl, pk_lDiv (by omega) (by decide) (by decide), lN_add]
        rfl
      rw [ev]
      have eaw : (lN (allF D r td c su)).toInt32 = nI (awdF D r td c su) := by
        unfold awdF
        rw [if_pos c109, lN_i]
      exact y_decide_end nw T D r td c su h (kx_setI h2 138 c (nI (dueF D r td c))) _ hp3 hf3 hck3 hm3 hc (by omega) eaw _ _
    · refine kx_lconst (pc := 112) (v := 0) (kx_dd d_Mo_decide 68 rfl) rfl ?_
      refine kx_lload (pc := 113) (kx_dd d_Mo_decide 69 rfl) rfl ?_
      refine kx_ldc2 (pc := 115) kl_Mo_569 (kx_dd d_Mo_decide 70 rfl) ?_
      refine kx_iload (pc := 118) (kx_dd d_Mo_decide 71 rfl) rfl ?_
      refine kx_i2l (pc := 120) (kx_dd d_Mo_decide 72 rfl) ?_
      refine kx_lmul (pc := 121) (kx_dd d_Mo_decide 73 rfl) ?_
      refine kx_aload_n (pc := 122) (kx_dd d_Mo_decide 74 rfl) rfl rfl ?_
      refine kx_invV (pc := 123) (a := 84) (as := []) (kx_dd d_Mo_decide 75 rfl) ⟨lk_Mo_571, wi_Mo_awards, we_Mo_awards⟩ w_Mo_awards (hm3.k 0 rfl) rfl rfl rfl rfl (Nat.le_of_ble_eq_true rfl) (y_awards (d := d + 6) hm3 nw T hwt (setCf (setCf D c 15 (nI (faiF D r c td))) c 16 (nI (dueF D r td c))) ho2 hp3) (Nat.le_refl _) ⟨Nat.le_refl _, Nat.le_refl _⟩ (fun v h' hq => ?_)
      obtain ⟨rfl, he⟩ := hq
      rw [he]
      clear he
      rw [show sumA (setCf (setCf D c 15 (nI (faiF D r c td))) c 16 (nI (dueF D r td c))).2.2.1 (setCf (setCf D c 15 (nI (faiF D r c td))) c 16 (nI (dueF D r td c))).2.2.1.1 = sumA D.2.2.1 D.2.2.1.1 from (sumA_set (by decide) _).trans (sumA_set (by decide) _)]
      refine kx_i2l (pc := 126) (kx_dd d_Mo_decide 76 rfl) ?_
      refine kx_lsub (pc := 127) (kx_dd d_Mo_decide 77 rfl) ?_
      refine kx_mminL (pc := 128) mk_Mo_517 (kx_dd d_Mo_decide 78 rfl) (Nat.le_of_ble_eq_true rfl) (Nat.le_of_ble_eq_true rfl) (Nat.le_refl _) (Nat.le_refl _) ?_
      refine kx_mmaxL (pc := 131) mk_Mo_574 (kx_dd d_Mo_decide 79 rfl) (Nat.le_of_ble_eq_true rfl) (Nat.le_of_ble_eq_true rfl) (Nat.le_refl _) (Nat.le_refl _) ?_
      refine kx_lstore_e (pc := 134) (lv' := [_, _, _, _, _, _, _]) (kx_dd d_Mo_decide 80 rfl) (Nat.le_of_ble_eq_true rfl) rfl ?_
      rw [s7] at c109
      rw [s5, show (1 : Int32) = nI 1 from rfl, nI_eq (by omega) (by decide)] at c40
      have hsin : sinD D r c = lostD D c := if_pos (by omega)
      have hle : sinD D r c ≤ td := by rw [hsin]; omega
      have ev : (nI su).toInt64 + (nI su).toInt64 * (((kx_setI h2 138 c (nI (dueF D r td c)))).1 89 (11 * v + 4)).toInt64 * (((kx_setI h2 138 c (nI (dueF D r td c)))).1 84 36 - (((kx_setI h2 138 c (nI (dueF D r td c)))).1 118 (cN D.2.2.1 c 2))).toInt64 / 36000 = lN (allF D r td c su) := by
        rw [fl, s4, hck3, ← hsin, pk_sub hle, nI_l (by omega), nI_l (by omega), nI_l (by omega), lN_mul, lN_mul, show (36000 : Int64) = lN 36000 from rfl, pk_lDiv (by omega) (by decide) (by decide), lN_add]
        rfl
      rcases t7 with t7 | ⟨t7, t71, t72⟩
      · exact absurd t7 c109
      rw [ev, s7, t7, nI_l (by omega), nI_l (by omega), show (1000 : Int64) = lN 1000 from rfl, lN_mul, max0L]
      have eaw := capL (x := 1000 * rsN r 7) (y := sumA D.2.2.1 D.2.2.1.1) (z := allF D r td c su) (by omega) (by omega) (by omega)
      rw [show (if allF D r td c su < 1000 * rsN r 7 - sumA D.2.2.1 D.2.2.1.1 then allF D r td c su else 1000 * rsN r 7 - sumA D.2.2.1 D.2.2.1.1) = awdF D r td c su by unfold awdF; rw [if_neg c109, Nat.mul_comm]] at eaw
      exact y_decide_end nw T D r td c su h (kx_setI h2 138 c (nI (dueF D r td c))) _ hp3 hf3 hck3 hm3 hc (by omega) eaw _ _
  · refine kx_aload_n (pc := 43) (kx_dd d_Mo_decide 25 rfl) rfl rfl ?_
    refine kx_getR (pc := 44) (b := 128) fl_Mo_342 (hm3.k 0 rfl) rfl (hm3.r 43 rfl) (kx_dd d_Mo_decide 26 rfl) ?_
    refine kx_iload_n (pc := 47) (kx_dd d_Mo_decide 27 rfl) rfl rfl ?_
    refine kx_ialdn (pc := 48) c (hm3.t 44 rfl) rfl (by omega) (by decide) (kx_dd d_Mo_decide 28 rfl) ?_
    refine kx_goto (pc := 49) (tgt := 63) (kx_dd d_Mo_decide 29 rfl) rfl ?_
    refine kx_istore_ne (pc := 63) (lv' := [_, _, _, _, _, _, _]) (kx_dd d_Mo_decide 37 rfl) rfl (Nat.le_of_ble_eq_true rfl) rfl ?_
    refine kx_iload_n (pc := 64) (kx_dd d_Mo_decide 38 rfl) rfl rfl ?_
    refine kx_i2l (pc := 65) (kx_dd d_Mo_decide 39 rfl) ?_
    refine kx_iload_n (pc := 66) (kx_dd d_Mo_decide 40 rfl) rfl rfl ?_
    refine kx_i2l (pc := 67) (kx_dd d_Mo_decide 41 rfl) ?_
    refine kx_aload_n (pc := 68) (kx_dd d_Mo_decide 42 rfl) rfl rfl ?_
    refine kx_aload_n (pc := 69) (kx_dd d_Mo_decide 43 rfl) rfl rfl ?_
    refine kx_getI (pc := 70) fl_Mo_251 (hm3.k 0 rfl) rfl (kx_dd d_Mo_decide 44 rfl) ?_
    refine kx_iconst (pc := 73) (v := 4) (kx_dd d_Mo_decide 45 rfl) rfl ?_
    rw [hif3]
    refine kx_invV (pc := 74) (a := 84) (as := [_, _]) (kx_dd d_Mo_decide 46 rfl) ⟨lk_Mo_162, wi_Mo_ruleOf, we_Mo_ruleOf⟩ w_Mo_ruleOf (hm3.k 0 rfl) rfl rfl rfl rfl (Nat.le_of_ble_eq_true rfl) (y_ruleOf (d := d + 6) hm3 v 4 (by omega) (by decide)) (Nat.le_refl _) ⟨Nat.le_refl _, Nat.le_refl _⟩ (fun v h' hq => ?_)
    obtain ⟨rfl, he⟩ := hq
    rw [he]
    clear he
    refine kx_i2l (pc := 77) (kx_dd d_Mo_decide 47 rfl) ?_
    refine kx_lmul (pc := 78) (kx_dd d_Mo_decide 48 rfl) ?_
    refine kx_aload_n (pc := 79) (kx_dd d_Mo_decide 49 rfl) rfl rfl ?_
    refine kx_getI (pc := 80) fl_Mo_426 (hm3.k 0 rfl) rfl (kx_dd d_Mo_decide 50 rfl) ?_
    refine kx_iload_n (pc := 83) (kx_dd d_Mo_decide 51 rfl) rfl rfl ?_
    refine kx_isub (pc := 84) (kx_dd d_Mo_decide 52 rfl) ?_
    refine kx_i2l (pc := 85) (kx_dd d_Mo_decide 53 rfl) ?_
    refine kx_lmul (pc := 86) (kx_dd d_Mo_decide 54 rfl) ?_
    refine kx_ldc2 (pc := 87) kl_Mo_567 (kx_dd d_Mo_decide 55 rfl) ?_
    refine kx_ldiv (pc := 90) (kx_dd d_Mo_decide 56 rfl) (by decide) ?_
    refine kx_ladd (pc := 91) (kx_dd d_Mo_decide 57 rfl) ?_
    refine kx_lstore_e (pc := 92) (lv' := [_, _, _, _, _, _, _]) (kx_dd d_Mo_decide 58 rfl) (Nat.le_of_ble_eq_true rfl) rfl ?_
    refine kx_aload_n (pc := 94) (kx_dd d_Mo_decide 59 rfl) rfl rfl ?_
    refine kx_aload_n (pc := 95) (kx_dd d_Mo_decide 60 rfl) rfl rfl ?_
    refine kx_getI (pc := 96) fl_Mo_251 (hm3.k 0 rfl) rfl (kx_dd d_Mo_decide 61 rfl) ?_
    refine kx_bipush (pc := 99) (v := 7) (kx_dd d_Mo_decide 62 rfl) rfl ?_
    rw [hif3]
    refine kx_invV (pc := 101) (a := 84) (as := [_, _]) (kx_dd d_Mo_decide 63 rfl) ⟨lk_Mo_162, wi_Mo_ruleOf, we_Mo_ruleOf⟩ w_Mo_ruleOf (hm3.k 0 rfl) rfl rfl rfl rfl (Nat.le_of_ble_eq_true rfl) (y_ruleOf (d := d + 6) hm3 v 7 (by omega) (by decide)) (Nat.le_refl _) ⟨Nat.le_refl _, Nat.le_refl _⟩ (fun v h' hq => ?_)
    obtain ⟨rfl, he⟩ := hq
    rw [he]
    clear he
    refine kx_istore_e (pc := 104) (lv' := [_, _, _, _, _, _, _]) (kx_dd d_Mo_decide 64 rfl) (Nat.le_of_ble_eq_true rfl) rfl ?_
    refine kx_iload (pc := 106) (kx_dd d_Mo_decide 65 rfl) rfl ?_
    refine kx_iconst (pc := 108) (v := -1) (kx_dd d_Mo_decide 66 rfl) rfl ?_
    refine kx_icmp_eq (pc := 109) (tgt := 136) (kx_dd d_Mo_decide 67 rfl) rfl (fun c109 => ?_) (fun c109 => ?_)
    · rw [s7] at c109
      rw [s5, show (1 : Int32) = nI 1 from rfl, nI_eq (by omega) (by decide)] at c40
      have hsin : sinD D r c = cN D.2.2.1 c 5 := if_neg (by omega)
      have hle : sinD D r c ≤ td := by rw [hsin]; omega
      have ev : (nI su).toInt64 + (nI su).toInt64 * (((kx_setI h2 138 c (nI (dueF D r td c)))).1 89 (11 * v + 4)).toInt64 * (((kx_setI h2 138 c (nI (dueF D r td c)))).1 84 36 - (((kx_setI h2 138 c (nI (dueF D r td c)))).1 128 c)).toInt64 / 36000 = lN (allF D r td c su) := by
        rw [f5, s4, hck3, ← hsin, pk_sub hle, nI_l (by omega), nI_l (by omega), nI_l (by omega), lN_mul, lN_mul, show (36000 : Int64) = lN 36000 from rfl, pk_lDiv (by omega) (by decide) (by decide), lN_add]
        rfl
      rw [ev]
      have eaw : (lN (allF D r td c su)).toInt32 = nI (awdF D r td c su) := by
        unfold awdF
        rw [if_pos c109, lN_i]
      exact y_decide_end nw T D r td c su h (kx_setI h2 138 c (nI (dueF D r td c))) _ hp3 hf3 hck3 hm3 hc (by omega) eaw _ _
    · refine kx_lconst (pc := 112) (v := 0) (kx_dd d_Mo_decide 68 rfl) rfl ?_
      refine kx_lload (pc := 113) (kx_dd d_Mo_decide 69 rfl) rfl ?_
      refine kx_ldc2 (pc := 115) kl_Mo_569 (kx_dd d_Mo_decide 70 rfl) ?_
      refine kx_iload (pc := 118) (kx_dd d_Mo_decide 71 rfl) rfl ?_
      refine kx_i2l (pc := 120) (kx_dd d_Mo_decide 72 rfl) ?_
      refine kx_lmul (pc := 121) (kx_dd d_Mo_decide 73 rfl) ?_
      refine kx_aload_n (pc := 122) (kx_dd d_Mo_decide 74 rfl) rfl rfl ?_
      refine kx_invV (pc := 123) (a := 84) (as := []) (kx_dd d_Mo_decide 75 rfl) ⟨lk_Mo_571, wi_Mo_awards, we_Mo_awards⟩ w_Mo_awards (hm3.k 0 rfl) rfl rfl rfl rfl (Nat.le_of_ble_eq_true rfl) (y_awards (d := d + 6) hm3 nw T hwt (setCf (setCf D c 15 (nI (faiF D r c td))) c 16 (nI (dueF D r td c))) ho2 hp3) (Nat.le_refl _) ⟨Nat.le_refl _, Nat.le_refl _⟩ (fun v h' hq => ?_)
      obtain ⟨rfl, he⟩ := hq
      rw [he]
      clear he
      rw [show sumA (setCf (setCf D c 15 (nI (faiF D r c td))) c 16 (nI (dueF D r td c))).2.2.1 (setCf (setCf D c 15 (nI (faiF D r c td))) c 16 (nI (dueF D r td c))).2.2.1.1 = sumA D.2.2.1 D.2.2.1.1 from (sumA_set (by decide) _).trans (sumA_set (by decide) _)]
      refine kx_i2l (pc := 126) (kx_dd d_Mo_decide 76 rfl) ?_
      refine kx_lsub (pc := 127) (kx_dd d_Mo_decide 77 rfl) ?_
      refine kx_mminL (pc := 128) mk_Mo_517 (kx_dd d_Mo_decide 78 rfl) (Nat.le_of_ble_eq_true rfl) (Nat.le_of_ble_eq_true rfl) (Nat.le_refl _) (Nat.le_refl _) ?_
      refine kx_mmaxL (pc := 131) mk_Mo_574 (kx_dd d_Mo_decide 79 rfl) (Nat.le_of_ble_eq_true rfl) (Nat.le_of_ble_eq_true rfl) (Nat.le_refl _) (Nat.le_refl _) ?_
      refine kx_lstore_e (pc := 134) (lv' := [_, _, _, _, _, _, _]) (kx_dd d_Mo_decide 80 rfl) (Nat.le_of_ble_eq_true rfl) rfl ?_
      rw [s7] at c109
      rw [s5, show (1 : Int32) = nI 1 from rfl, nI_eq (by omega) (by decide)] at c40
      have hsin : sinD D r c = cN D.2.2.1 c 5 := if_neg (by omega)
      have hle : sinD D r c ≤ td := by rw [hsin]; omega
      have ev : (nI su).toInt64 + (nI su).toInt64 * (((kx_setI h2 138 c (nI (dueF D r td c)))).1 89 (11 * v + 4)).toInt64 * (((kx_setI h2 138 c (nI (dueF D r td c)))).1 84 36 - (((kx_setI h2 138 c (nI (dueF D r td c)))).1 128 c)).toInt64 / 36000 = lN (allF D r td c su) := by
        rw [f5, s4, hck3, ← hsin, pk_sub hle, nI_l (by omega), nI_l (by omega), nI_l (by omega), lN_mul, lN_mul, show (36000 : Int64) = lN 36000 from rfl, pk_lDiv (by omega) (by decide) (by decide), lN_add]
        rfl
      rcases t7 with t7 | ⟨t7, t71, t72⟩
      · exact absurd t7 c109
      rw [ev, s7, t7, nI_l (by omega), nI_l (by omega), show (1000 : Int64) = lN 1000 from rfl, lN_mul, max0L]
      have eaw := capL (x := 1000 * rsN r 7) (y := sumA D.2.2.1 D.2.2.1.1) (z := allF D r td c su) (by omega) (by omega) (by omega)
      rw [show (if allF D r td c su < 1000 * rsN r 7 - sumA D.2.2.1 D.2.2.1.1 then allF D r td c su else 1000 * rsN r 7 - sumA D.2.2.1 D.2.2.1.1) = awdF D r td c su by unfold awdF; rw [if_neg c109, Nat.mul_comm]] at eaw
      exact y_decide_end nw T D r td c su h (kx_setI h2 138 c (nI (dueF D r td c))) _ hp3 hf3 hck3 hm3 hc (by omega) eaw _ _
