/-! test cases: the class: choose; tests, test -/
theorem x_ch_loop {l : Launch} {g : kx_G} {d : Nat} (h0 : kx_Mem) (hs0 : SC h0) (D : DK) (ho : DKok D) (q : Nat) (h4 : h0.1 42 4 = nI D.2.2.1.1) (hL : LKp D (fun a => lkC D q a) h0) (Q : Option Value → kx_Mem → Prop) (x2 x3 : Int32) (kont : ∀ h, kx_Fc FoP h0 h → TBc (tstF D q 1) h → kx_X (l, g, m_Te_choose, d + 4, 0, 0, Q) 0 0 50 [some (.ref 42), some (.ref 39), some (.int x2), some (.int x3), some (.int (nI D.2.2.1.1))] [] h) : ∀ f i, i + f = D.2.2.1.1 → ∀ h, kx_Fc FoP h0 h → TBc (chL (chSt (opD D) (lkN D q) D.2.2.1.1 1 0 0 0 tr0) 0 i ((0, 0, tr0) : TB)) h → kx_X (l, g, m_Te_choose, d + 4, 0, 0, Q) 0 0 19 [some (.ref 42), some (.ref 39), some (.int x2), some (.int x3), some (.int (nI i))] [] h := by
  intro f
  induction f with
  | zero =>
    intro i hi h hf hB
    have e : i = D.2.2.1.1 := by omega
    subst e
    have hs : SC h := hs0.fc hf
    have o1 := ho.2.2.1.1
    have h4h : h.1 42 4 = nI D.2.2.1.1 := by rw [hf.2 42 4 (by unfold FoP; omega)]; exact h4
    have hLh : ∀ a, a < D.2.2.1.1 → h.2.1 43 a = lN (lkC D q a) := fun a ha => by rw [hf.1]; exact hL a ha
    refine kx_iload (pc := 19) (kx_dd d_Te_choose 12 rfl) rfl ?_
    refine kx_aload_n (pc := 21) (kx_dd d_Te_choose 13 rfl) rfl rfl ?_
    refine kx_getI (pc := 22) fl_Te_32 (hs.k 42 rfl) rfl (kx_dd d_Te_choose 14 rfl) ?_
    refine kx_icmp_ge (pc := 25) (tgt := 50) (kx_dd d_Te_choose 15 rfl) rfl (fun c25 => ?_) (fun c25 => ?_)
    · exact kont h hf hB
    · exact absurd (by rw [h4h]; exact Int32.le_refl _) c25
  | succ f ih =>
    intro i hi h hf hB
    have hs : SC h := hs0.fc hf
    have o1 := ho.2.2.1.1
    have h4h : h.1 42 4 = nI D.2.2.1.1 := by rw [hf.2 42 4 (by unfold FoP; omega)]; exact h4
    have hLh : ∀ a, a < D.2.2.1.1 → h.2.1 43 a = lN (lkC D q a) := fun a ha => by rw [hf.1]; exact hL a ha
    have hk : i < D.2.2.1.1 := by omega
    refine kx_iload (pc := 19) (kx_dd d_Te_choose 12 rfl) rfl ?_
    refine kx_aload_n (pc := 21) (kx_dd d_Te_choose 13 rfl) rfl rfl ?_
    refine kx_getI (pc := 22) fl_Te_32 (hs.k 42 rfl) rfl (kx_dd d_Te_choose 14 rfl) ?_
    refine kx_icmp_ge (pc := 25) (tgt := 50) (kx_dd d_Te_choose 15 rfl) rfl (fun c25 => ?_) (fun c25 => ?_)
    · exact absurd c25 (by rw [h4h]; exact nI_ge (by omega) (by omega))
    · refine kx_aload_n (pc := 28) (kx_dd d_Te_choose 16 rfl) rfl rfl ?_
      refine kx_aload_n (pc := 29) (kx_dd d_Te_choose 17 rfl) rfl rfl ?_
      refine kx_getR (pc := 30) (b := 43) fl_Te_11 (hs.k 42 rfl) rfl (hs.r 45 rfl) (kx_dd d_Te_choose 18 rfl) ?_
      refine kx_iload (pc := 33) (kx_dd d_Te_choose 19 rfl) rfl ?_
      refine kx_laldn (pc := 35) i (hs.t 43 rfl) rfl (by omega) (by decide) (kx_dd d_Te_choose 20 rfl) ?_
      rw [hLh i hk]
      refine kx_iconst (pc := 36) (v := 1) (kx_dd d_Te_choose 21 rfl) rfl ?_
      refine kx_iload (pc := 37) (kx_dd d_Te_choose 22 rfl) rfl ?_
      refine kx_iconst (pc := 39) (v := -1) (kx_dd d_Te_choose 23 rfl) rfl ?_
      refine kx_iconst (pc := 40) (v := -1) (kx_dd d_Te_choose 24 rfl) rfl ?_
      refine kx_invV (pc := 41) (a := 42) (as := [_, _, _, _, _]) (kx_dd d_Te_choose 25 rfl) ⟨lk_Te_35, wi_Te_offer, we_Te_offer⟩ w_Te_offer (hs.k 42 rfl) rfl rfl rfl rfl (Nat.le_of_ble_eq_true rfl) (x_Te_offer (d := d + 2) hs _ hB (lkC D q i) 1 (lkC_lt ho) (by decide) (upF tr0 0 (nI i)) _ _ _ (fun _ => rfl) (fun z => absurd z (by decide)) (fun z => absurd z (by decide))) (Nat.le_refl _) ⟨Nat.le_refl _, Nat.le_refl _⟩ (fun v h' hq => ?_)
      revert h'
      intro h1 hq
      obtain ⟨rfl, hB1, hf1⟩ := hq
      refine kx_iinc_e (pc := 44) (v := nI (i + 1)) (lv' := [_, _, _, _, _]) (kx_dd d_Te_choose 26 rfl) rfl (Nat.le_of_ble_eq_true rfl) (nI_1 i) rfl ?_
      refine kx_goto (pc := 47) (tgt := 19) (kx_dd d_Te_choose 27 rfl) rfl ?_
      refine ih (i + 1) (by omega) h1 (hf.tr hf1) ?_
      show TBc ((chSt (opD D) (lkN D q) D.2.2.1.1 1 0 0 0 tr0) (0 + i) (chL (chSt (opD D) (lkN D q) D.2.2.1.1 1 0 0 0 tr0) 0 i ((0, 0, tr0) : TB))) h1
      rw [Nat.zero_add, ← s1_eq]
      exact hB1
theorem x_Te_choose {l : Launch} {g : kx_G} {d : Nat} {h : kx_Mem} (hs : SC h) (D : DK) (A : DA) (ho : DKok D) (hp : DKc D A h) (q : Nat) (hq0 : q < 2 ^ 30) (N : Nat) (hN1 : 1 ≤ N) (hN3 : N ≤ 3) : kx_Sp l g m_Te_choose [.ref 42, .ref 39, .int (nI q), .int (nI N)] h (d + 4) 0 0 (fun v h' => v = some (.int (nI (tstF D q N).1)) ∧ TBc (tstF D q N) h' ∧ kx_Fg FtP FtL2 h h') := by
  refine kx_enter_e (lv := [_, _, _, _, _]) (by decide +kernel) (Nat.le_of_ble_eq_true rfl) rfl ?_
  refine kx_aload_n (pc := 0) (kx_dd d_Te_choose 0 rfl) rfl rfl ?_
  refine kx_aload_n (pc := 1) (kx_dd d_Te_choose 1 rfl) rfl rfl ?_
  refine kx_iload_n (pc := 2) (kx_dd d_Te_choose 2 rfl) rfl rfl ?_
  refine kx_invV (pc := 3) (a := 42) (as := [_, _]) (kx_dd d_Te_choose 3 rfl) ⟨lk_Te_25, wi_Te_findLikes, we_Te_findLikes⟩ w_Te_findLikes (hs.k 42 rfl) rfl rfl rfl rfl (Nat.le_of_ble_eq_true rfl) (x_Te_findLikes (d := d) hs D A ho hp q hq0) (Nat.le_refl _) ⟨Nat.le_refl _, Nat.le_refl _⟩ (fun v h' hq => ?_)
  revert h'
  intro h1 hq
  obtain ⟨rfl, hf1, h41, hL1⟩ := hq
  have hs : SC h1 := hs.fg hf1
  refine kx_aload_n (pc := 6) (kx_dd d_Te_choose 4 rfl) rfl rfl ?_
  refine kx_iconst (pc := 7) (v := 0) (kx_dd d_Te_choose 5 rfl) rfl ?_
  refine kx_putI (pc := 8) fl_Te_21 (hs.k 42 rfl) (by decide) rfl rfl (kx_dd d_Te_choose 6 rfl) ?_
  refine kx_aload_n (pc := 11) (kx_dd d_Te_choose 7 rfl) rfl rfl ?_
  refine kx_iconst (pc := 12) (v := 0) (kx_dd d_Te_choose 8 rfl) rfl ?_
  refine kx_putI (pc := 13) fl_Te_29 (hs.k 42 rfl) (by decide) rfl rfl (kx_dd d_Te_choose 9 rfl) ?_
  refine kx_iconst (pc := 16) (v := 0) (kx_dd d_Te_choose 10 rfl) rfl ?_
  refine kx_istore_e (pc := 17) (lv' := [_, _, _, _, _]) (kx_dd d_Te_choose 11 rfl) (Nat.le_of_ble_eq_true rfl) rfl ?_
  have hf2 : kx_Fc FoP h1 (kx_setI (kx_setI h1 42 2 0) 42 3 0) := (kx_Fc.set (by unfold FoP; omega)).tr (kx_Fc.set (by unfold FoP; omega))
  have hB0 : TBc ((0, 0, tr0) : TB) (kx_setI (kx_setI h1 42 2 0) 42 3 0) := ⟨⟨Nat.zero_le _, Nat.zero_le _⟩, setI_at, by rw [setI_ne (Or.inr (by decide)), setI_at]; rfl, fun p hp => absurd hp (Nat.not_lt_zero p)⟩
  have hs2 : SC (kx_setI (kx_setI h1 42 2 0) 42 3 0) := hs.fc hf2
  have h42 : (kx_setI (kx_setI h1 42 2 0) 42 3 0).1 42 4 = nI D.2.2.1.1 := by rw [hf2.2 42 4 (by unfold FoP; omega)]; exact h41
  have hL2 : LKp D (fun a => lkC D q a) (kx_setI (kx_setI h1 42 2 0) 42 3 0) := fun a ha => by rw [hf2.1]; exact hL1 a ha
  generalize (kx_setI (kx_setI h1 42 2 0) 42 3 0) = h2 at hf2 hB0 hs2 h42 hL2 ⊢
  refine x_ch_loop h2 hs2 D ho q h42 hL2 _ _ _ (fun h5 hf5 hB5 => ?_) D.2.2.1.1 0 (by omega) h2 kx_Fc.rf hB0
  have hs : SC h5 := hs2.fc hf5
  refine kx_aload_n (pc := 50) (kx_dd d_Te_choose 28 rfl) rfl rfl ?_
  refine kx_aload_n (pc := 51) (kx_dd d_Te_choose 29 rfl) rfl rfl ?_
  refine kx_getI (pc := 52) fl_Te_29 (hs.k 42 rfl) rfl (kx_dd d_Te_choose 30 rfl) ?_
  rw [hB5.2.1]
  refine kx_putI (pc := 55) fl_Te_39 (hs.k 42 rfl) (by decide) rfl rfl (kx_dd d_Te_choose 31 rfl) ?_
  have hf6 : kx_Fc (fun a j => a = 42 ∧ j = 5) h5 (kx_setI h5 42 5 (nI (tstF D q 1).1)) := kx_Fc.set ⟨rfl, rfl⟩
  have hB6 : TBc (tstF D q 1) (kx_setI h5 42 5 (nI (tstF D q 1).1)) := hB5.fo hf6 (fun a j z => by unfold FoP at z; omega)
  have h56 : (kx_setI h5 42 5 (nI (tstF D q 1).1)).1 42 5 = nI (tstF D q 1).1 := setI_at
  have hs6 : SC (kx_setI h5 42 5 (nI (tstF D q 1).1)) := (hs2.fc hf5).fc hf6
  have h46 : (kx_setI h5 42 5 (nI (tstF D q 1).1)).1 42 4 = nI D.2.2.1.1 := by rw [hf6.2 42 4 (by omega), hf5.2 42 4 (by unfold FoP; omega)]; exact h42
  have hL6 : LKp D (fun a => lkC D q a) (kx_setI h5 42 5 (nI (tstF D q 1).1)) := fun a ha => by rw [hf6.1, hf5.1]; exact hL2 a ha
  have hF6 : kx_Fg FtP FtL2 h (kx_setI h5 42 5 (nI (tstF D q 1).1)) := ((hf1.mono (fun a j z => by unfold FfP at z; unfold FtP; omega) (fun a j z => z)).tr ((hf2.mono (fun a j z => by unfold FoP at z; unfold FtP; omega)).g)).tr (((hf5.mono (fun a j z => by unfold FoP at z; unfold FtP; omega)).g).tr ((hf6.mono (fun a j z => by unfold FtP; omega)).g))
  have hwd := (s1_wd (D := D) (q := q) (B := ((0, 0, tr0) : TB)) D.2.2.1.1).2
  generalize (kx_setI h5 42 5 (nI (tstF D q 1).1)) = h6 at hf6 hB6 h56 hs6 h46 hL6 hF6 ⊢
  have hs := hs6
  refine kx_iload_n (pc := 58) (kx_dd d_Te_choose 32 rfl) rfl rfl ?_
  refine kx_iconst (pc := 59) (v := 1) (kx_dd d_Te_choose 33 rfl) rfl ?_
  refine kx_icmp_le (pc := 60) (tgt := 67) (kx_dd d_Te_choose 34 rfl) rfl (fun c60 => ?_) (fun c60 => ?_)
  · refine kx_iload_n (pc := 67) (kx_dd d_Te_choose 37 rfl) rfl rfl ?_
    refine kx_iconst (pc := 68) (v := 2) (kx_dd d_Te_choose 38 rfl) rfl ?_
    refine kx_icmp_le (pc := 69) (tgt := 76) (kx_dd d_Te_choose 39 rfl) rfl (fun c69 => ?_) (fun c69 => ?_)
    · refine kx_aload_n (pc := 76) (kx_dd d_Te_choose 42 rfl) rfl rfl ?_
      refine kx_getI (pc := 77) fl_Te_29 (hs.k 42 rfl) rfl (kx_dd d_Te_choose 43 rfl) ?_
      refine kx_iret (pc := 80) rfl (kx_dd d_Te_choose 44 rfl) (Nat.le_refl _) (Nat.le_refl _) ?_
      rw [show (1 : Int32) = nI 1 from rfl, nI_leI (by omega) (by decide)] at c60
      rw [show (2 : Int32) = nI 2 from rfl, nI_leI (by omega) (by decide)] at c69
      have e : N = 1 := by omega
      subst e
      exact ⟨by rw [hB6.2.1], hB6, hF6⟩
    · rw [show (1 : Int32) = nI 1 from rfl, nI_leI (by omega) (by decide)] at c60
      rw [show (2 : Int32) = nI 2 from rfl, nI_leI (by omega) (by decide)] at c69
      omega
  · refine kx_aload_n (pc := 63) (kx_dd d_Te_choose 35 rfl) rfl rfl ?_
    refine kx_invV (pc := 64) (a := 42) (as := []) (kx_dd d_Te_choose 36 rfl) ⟨lk_Te_42, wi_Te_offerPairs, we_Te_offerPairs⟩ w_Te_offerPairs (hs.k 42 rfl) rfl rfl rfl rfl (Nat.le_of_ble_eq_true rfl) (x_Te_offerPairs (d := d + 1) hs6 D ho q h46 hL6 (tstF D q 1) hB6) (Nat.le_refl _) ⟨Nat.le_refl _, Nat.le_refl _⟩ (fun v h' hq => ?_)
    revert h'
    intro h7 hq
    obtain ⟨rfl, hB7, hf7⟩ := hq
    have hs := hs6.fc hf7
    have h47 : h7.1 42 4 = nI D.2.2.1.1 := by rw [hf7.2 42 4 (by unfold FoP; omega)]; exact h46
    have h57 : h7.1 42 5 = nI (tstF D q 1).1 := by rw [hf7.2 42 5 (by unfold FoP; omega)]; exact h56
    have hL7 : LKp D (fun a => lkC D q a) h7 := fun a ha => by rw [hf7.1]; exact hL6 a ha
    have hF7 := hF6.tr ((hf7.mono (fun a j z => by unfold FoP at z; unfold FtP; omega)).g)
    refine kx_iload_n (pc := 67) (kx_dd d_Te_choose 37 rfl) rfl rfl ?_
    refine kx_iconst (pc := 68) (v := 2) (kx_dd d_Te_choose 38 rfl) rfl ?_
    refine kx_icmp_le (pc := 69) (tgt := 76) (kx_dd d_Te_choose 39 rfl) rfl (fun c69 => ?_) (fun c69 => ?_)
    · refine kx_aload_n (pc := 76) (kx_dd d_Te_choose 42 rfl) rfl rfl ?_
      refine kx_getI (pc := 77) fl_Te_29 (hs.k 42 rfl) rfl (kx_dd d_Te_choose 43 rfl) ?_
      refine kx_iret (pc := 80) rfl (kx_dd d_Te_choose 44 rfl) (Nat.le_refl _) (Nat.le_refl _) ?_
      rw [show (1 : Int32) = nI 1 from rfl, nI_leI (by omega) (by decide)] at c60
      rw [show (2 : Int32) = nI 2 from rfl, nI_leI (by omega) (by decide)] at c69
      have e : N = 2 := by omega
      subst e
      exact ⟨by rw [hB7.2.1]; rfl, hB7, hF7⟩
    · refine kx_aload_n (pc := 72) (kx_dd d_Te_choose 40 rfl) rfl rfl ?_
      refine kx_invV (pc := 73) (a := 42) (as := []) (kx_dd d_Te_choose 41 rfl) ⟨lk_Te_45, wi_Te_offerTriples, we_Te_offerTriples⟩ w_Te_offerTriples (hs.k 42 rfl) rfl rfl rfl rfl (Nat.le_of_ble_eq_true rfl) (x_Te_offerTriples (d := d) hs D ho q h47 hL7 (tstF D q 1).1 h57 hB6.1.1 hwd (tstF D q 2) hB7) (Nat.le_refl _) ⟨Nat.le_refl _, Nat.le_refl _⟩ (fun v h' hq => ?_)
      revert h'
      intro h8 hq
      obtain ⟨rfl, hB8, hf8⟩ := hq
      have hs := hs.fc hf8
      have hF8 := hF7.tr ((hf8.mono (fun a j z => by unfold FoP at z; unfold FtP; omega)).g)
      refine kx_aload_n (pc := 76) (kx_dd d_Te_choose 42 rfl) rfl rfl ?_
      refine kx_getI (pc := 77) fl_Te_29 (hs.k 42 rfl) rfl (kx_dd d_Te_choose 43 rfl) ?_
      refine kx_iret (pc := 80) rfl (kx_dd d_Te_choose 44 rfl) (Nat.le_refl _) (Nat.le_refl _) ?_
      rw [show (1 : Int32) = nI 1 from rfl, nI_leI (by omega) (by decide)] at c60
      rw [show (2 : Int32) = nI 2 from rfl, nI_leI (by omega) (by decide)] at c69
      have e : N = 3 := by omega
      subst e
      exact ⟨by rw [hB8.2.1]; rfl, hB8, hF8⟩
/-- what tests says: K what holds the best, F the frame -/
def TsQ (D : DK) (q : Nat) (K : TB → kx_Mem → Prop) (F : kx_Mem → kx_Mem → Prop) (a : Int32) (h : kx_Mem) (v : Option Value) (h' : kx_Mem) : Prop := (¬ (1 ≤ a ∧ a ≤ 3) ∧ v = some (.int (-2)) ∧ h' = h) ∨ ∃ N, 1 ≤ N ∧ N ≤ 3 ∧ a = nI N ∧ v = some (.int (nI (tstF D q N).1)) ∧ K (tstF D q N) h' ∧ F h h'
theorem val13 {a : Int32} (h : 1 ≤ a ∧ a ≤ 3) : ∃ k, 1 ≤ k ∧ k ≤ 3 ∧ a = nI k := by
  obtain ⟨k, hk, rfl⟩ := nI_of (Int32.not_lt.mpr (Int32.le_trans (by decide) h.1))
  exact ⟨k, (nI_leI (a := 1) (by decide) hk).mp h.1, (nI_leI (b := 3) hk (by decide)).mp h.2, rfl⟩
theorem x_Tc_tests {l : Launch} {g : kx_G} {d : Nat} {h : kx_Mem} (hs : SC h) (D : DK) (A : DA) (ho : DKok D) (hp : DKc D A h) (AV : Nat → Nat) (DV : Nat) (V : Nat → RU) (hV : CVs AV DV V h) (u : Nat) (hu : u < 4) (hif : h.1 0 10 = nI u) (hse : RSet (V u)) (a : Int32) : kx_Sp l g m_Tc_tests [.ref 0, .int a] h (d + 5) 0 0 (fun v h' => TsQ D (rsN (V u) 8) TBc (kx_Fg FtP FtL2) a h v h') := by
  have r8 := hse.2.2.2.2.2.1
  refine kx_enter_e (lv := [_, _, _]) (by decide +kernel) (Nat.le_of_ble_eq_true rfl) rfl ?_
  refine kx_aload_n (pc := 0) (kx_dd d_Tc_tests 0 rfl) rfl rfl ?_
  refine kx_aload_n (pc := 1) (kx_dd d_Tc_tests 1 rfl) rfl rfl ?_
  refine kx_getI (pc := 2) fl_Tc_148 (hs.k 0 rfl) rfl (kx_dd d_Tc_tests 2 rfl) ?_
  rw [hif]
  refine kx_invV (pc := 5) (a := 0) (as := [_]) (kx_dd d_Tc_tests 3 rfl) ⟨lk_Tc_151, wi_Tc_versionAt, we_Tc_versionAt⟩ w_Tc_versionAt (hs.k 0 rfl) rfl rfl rfl rfl (Nat.le_of_ble_eq_true rfl) (x_Tc_versionV (d := d + 3) hs AV DV V hV u hu) (Nat.le_refl _) ⟨Nat.le_refl _, Nat.le_refl _⟩ (fun v h' hq => ?_)
  obtain ⟨rfl, he⟩ := hq
  rw [he]
  clear he
  refine kx_astore_ne (pc := 8) (lv' := [_, _, _]) (kx_dd d_Tc_tests 4 rfl) rfl (Nat.le_of_ble_eq_true rfl) rfl ?_
  refine kx_iload_n (pc := 9) (kx_dd d_Tc_tests 5 rfl) rfl rfl ?_
  refine kx_iconst (pc := 10) (v := 1) (kx_dd d_Tc_tests 6 rfl) rfl ?_
  refine kx_iconst (pc := 11) (v := 3) (kx_dd d_Tc_tests 7 rfl) rfl ?_
  refine kx_invS (pc := 12) (as := [_, _, _]) (kx_dd d_Tc_tests 8 rfl) ⟨lk_Tc_90, wt_Tc_within⟩ w_Tc_within rfl rfl (Nat.le_of_ble_eq_true rfl) (x_Tc_within (d := d + 4) a 1 3) (Nat.le_refl _) ⟨Nat.le_refl _, Nat.le_refl _⟩ (fun v h' hq => ?_)
  obtain ⟨rfl, he⟩ := hq
  rw [he]
  clear he
  refine kx_if_eq (pc := 15) (tgt := 22) (kx_dd d_Tc_tests 9 rfl) rfl (fun c15 => ?_) (fun c15 => ?_)
  · refine kx_bipush (pc := 22) (v := -2) (kx_dd d_Tc_tests 12 rfl) rfl ?_
    refine kx_iret (pc := 24) rfl (kx_dd d_Tc_tests 13 rfl) (Nat.le_refl _) (Nat.le_refl _) ?_
    exact Or.inl ⟨bP_0.mp c15, rfl, rfl⟩
  · refine kx_aload_n (pc := 18) (kx_dd d_Tc_tests 10 rfl) rfl rfl ?_
    refine kx_ifnonnull (pc := 19) (tgt := 25) (kx_dd d_Tc_tests 11 rfl) rfl ?_
    obtain ⟨k9, k1, k3, rfl⟩ := val13 ((bP_ti _).mp c15)
    refine kx_aload_n (pc := 25) (kx_dd d_Tc_tests 14 rfl) rfl rfl ?_
    refine kx_getR (pc := 26) (b := 42) fl_Tc_64 (hs.k 0 rfl) rfl (hs.r 7 rfl) (kx_dd d_Tc_tests 15 rfl) ?_
    refine kx_aload_n (pc := 29) (kx_dd d_Tc_tests 16 rfl) rfl rfl ?_
    refine kx_getR (pc := 30) (b := 39) fl_Tc_57 (hs.k 0 rfl) rfl (hs.r 6 rfl) (kx_dd d_Tc_tests 17 rfl) ?_
    refine kx_aload_n (pc := 33) (kx_dd d_Tc_tests 18 rfl) rfl rfl ?_
    refine kx_getR (pc := 34) (b := (AV u + 1)) fl_Tc_246 (congrArg Prod.fst (IsRu.of hs (hV.2.2 u hu).2.1).1) rfl (IsRu.of hs (hV.2.2 u hu).2.1).2.2.2.2.2.2.2.2.2.1 (kx_dd d_Tc_tests 19 rfl) ?_
    refine kx_bipush (pc := 37) (v := 8) (kx_dd d_Tc_tests 20 rfl) rfl ?_
    refine kx_ialdn (pc := 39) 8 ((IsRu.of hs (hV.2.2 u hu).2.1).2.1) rfl (by decide) (by decide) (kx_dd d_Tc_tests 21 rfl) ?_
    rw [(hV.2.2 u hu).2.2.2.2.1.1 8 (by decide), hse.1 8 (by decide) (by decide)]
    refine kx_iload_n (pc := 40) (kx_dd d_Tc_tests 22 rfl) rfl rfl ?_
    refine kx_invV (pc := 41) (a := 42) (as := [_, _, _]) (kx_dd d_Tc_tests 23 rfl) ⟨lk_Tc_286, wi_Te_choose, we_Te_choose⟩ w_Te_choose (hs.k 42 rfl) rfl rfl rfl rfl (Nat.le_of_ble_eq_true rfl) (x_Te_choose (d := d) hs D A ho hp (rsN (V u) 8) (by omega) k9 k1 k3) (Nat.le_refl _) ⟨Nat.le_refl _, Nat.le_refl _⟩ (fun v h' hq => ?_)
    revert h'
    intro h9 hq
    obtain ⟨rfl, hB9, hF9⟩ := hq
    refine kx_iret (pc := 44) rfl (kx_dd d_Tc_tests 24 rfl) (Nat.le_refl _) (Nat.le_refl _) ?_
    exact Or.inr ⟨k9, k1, k3, rfl, rfl, hB9, hF9⟩
theorem x_Tc_test {l : Launch} {g : kx_G} {d : Nat} {h : kx_Mem} (hs : SC h) (B : TB) (hB : TBc B h) (a : Int32) : kx_Sp l g m_Tc_test [.ref 0, .int a] h (d + 1) 0 0 (fun v h' => v = some (.int (if 0 ≤ a ∧ a < nI B.2.1 then B.2.2 a.toNatClampNeg else -1)) ∧ h' = h) := by
  refine kx_enter_e (lv := [_, _]) (by decide +kernel) (Nat.le_of_ble_eq_true rfl) rfl ?_
  refine kx_aload_n (pc := 0) (kx_dd d_Tc_test 0 rfl) rfl rfl ?_
  refine kx_getR (pc := 1) (b := 42) fl_Tc_64 (hs.k 0 rfl) rfl (hs.r 7 rfl) (kx_dd d_Tc_test 1 rfl) ?_
  refine kx_iload_n (pc := 4) (kx_dd d_Tc_test 2 rfl) rfl rfl ?_
  refine kx_invV (pc := 5) (a := 42) (as := [_]) (kx_dd d_Tc_test 3 rfl) ⟨lk_Tc_290, wi_Te_chosenAt, we_Te_chosenAt⟩ w_Te_chosenAt (hs.k 42 rfl) rfl rfl rfl rfl (Nat.le_of_ble_eq_true rfl) (x_Te_chosenAt (d := d) hs B hB a) (Nat.le_refl _) ⟨Nat.le_refl _, Nat.le_refl _⟩ (fun v h' hq => ?_)
  obtain ⟨rfl, he⟩ := hq
  rw [he]
  clear he
  refine kx_iret (pc := 8) rfl (kx_dd d_Tc_test 4 rfl) (Nat.le_refl _) (Nat.le_refl _) ?_
  exact ⟨rfl, rfl⟩
