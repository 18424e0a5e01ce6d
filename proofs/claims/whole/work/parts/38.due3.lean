/-! the class: Docket.dueOf, awardOf, decide -/
theorem x_Do_due2 {l : Launch} {g : kx_G} {d : Nat} {h0 : kx_Mem} (hs0 : SC h0) (D : DK) (A : DA) (ho : DKok D) (hp0 : DKc D A h0) (a : Nat) (hra : isRuA a) (r : RU) (hro : RUok r) (hrp0 : RUc r a h0) (c : Nat) (hc : c < D.2.2.1.1) (kn : Nat) (hkn : kn < 2 ^ 31) : ∀ f k, k + f = 4 → ∀ h, kx_Fc FdC h0 h → SHc D A (cN D.2.2.1 c 2) (duS D r kn (cN D.2.2.1 c 2) k).1 h → kx_X (l, g, m_Do_dueOf, d + 5, 0, 0, (fun v h' => v = some (.int (nI (dueF D r kn c))) ∧ kx_Fc FdC h0 h')) 0 0 92 [some (.ref 39), some (.ref (A.1 c)), some (.ref a), some (.int (nI kn)), some (.long (lN (pvK (prB D r kn (cN D.2.2.1 c 2)) D.2.2.1.1))), none, some (.int (nI (duS D r kn (cN D.2.2.1 c 2) k).2)), some (.int (nI k))] [] h := by
  have o60 := ho.2.2.1.1
  have ha83 : a ≤ 75 := by unfold isRuA at hra; omega
  have hth := (ho.2.2.1.2 c hc).2.2.2.1
  intro f
  induction f with
  | zero =>
    intro k hk h hf hsh
    have hk4 : k = 4 := by omega
    subst hk4
    have hs := hs0.fc hf
    have hp := hp0.fd hf
    have hrp := hrp0.fd hra hf
    have hr := IsRu.of hs hra
    have hcc := hp.2.2.2.2.1.2 c hc
    have ec2 := (hcc.2.2.2.1 2 (by decide) (by decide)).trans ((ho.2.2.1.2 c hc).1 2 (by decide) (by decide) (by decide) (by decide))
    refine kx_iload (pc := 92) (kx_dd d_Do_dueOf 45 rfl) rfl ?_
    refine kx_iconst (pc := 94) (v := 4) (kx_dd d_Do_dueOf 46 rfl) rfl ?_
    refine kx_icmp_ge (pc := 95) (tgt := 121) (kx_dd d_Do_dueOf 47 rfl) rfl (fun c95 => ?_) (fun c95 => ?_)
    · refine kx_aload_n (pc := 121) (kx_dd d_Do_dueOf 59 rfl) rfl rfl ?_
      refine kx_getI (pc := 122) fl_Do_143 (congrArg Prod.fst hcc.2.2.1) rfl (kx_dd d_Do_dueOf 60 rfl) ?_
      refine kx_iret (pc := 125) rfl (kx_dd d_Do_dueOf 61 rfl) (Nat.le_refl _) (Nat.le_refl _) ?_
      exact ⟨by rw [hsh c hc rfl]; rfl, hf⟩
    · exact absurd (by decide) c95
  | succ f ih =>
    intro k hk h hf hsh
    have hs := hs0.fc hf
    have hp := hp0.fd hf
    have hrp := hrp0.fd hra hf
    have hr := IsRu.of hs hra
    have hcc := hp.2.2.2.2.1.2 c hc
    have ec2 := (hcc.2.2.2.1 2 (by decide) (by decide)).trans ((ho.2.2.1.2 c hc).1 2 (by decide) (by decide) (by decide) (by decide))
    have hdl := duS_le ho (r := r) (td := kn) hth k
    have hok := hro.2.2.2.2.2.2.2 k (by omega)
    have eo := hrp.2.1 k (by omega)
    refine kx_iload (pc := 92) (kx_dd d_Do_dueOf 45 rfl) rfl ?_
    refine kx_iconst (pc := 94) (v := 4) (kx_dd d_Do_dueOf 46 rfl) rfl ?_
    refine kx_icmp_ge (pc := 95) (tgt := 121) (kx_dd d_Do_dueOf 47 rfl) rfl (fun c95 => ?_) (fun c95 => ?_)
    · exact absurd c95 (nI_ge (b := 4) (by omega) (by decide))
    · refine kx_aload_n (pc := 98) (kx_dd d_Do_dueOf 48 rfl) rfl rfl ?_
      refine kx_lload (pc := 99) (kx_dd d_Do_dueOf 49 rfl) rfl ?_
      refine kx_aload_n (pc := 101) (kx_dd d_Do_dueOf 50 rfl) rfl rfl ?_
      refine kx_getR (pc := 102) (b := (a + 2)) fl_Do_149 (congrArg Prod.fst hr.1) rfl (hr.2.2.2.2.2.2.2.2.2.2.1) (kx_dd d_Do_dueOf 51 rfl) ?_
      refine kx_iload (pc := 105) (kx_dd d_Do_dueOf 52 rfl) rfl ?_
      refine kx_ialdn (pc := 107) k (hr.2.2.1) rfl (by omega) (by decide) (kx_dd d_Do_dueOf 53 rfl) ?_
      refine kx_iload (pc := 108) (kx_dd d_Do_dueOf 54 rfl) rfl ?_
      rw [eo]
      refine kx_invV (pc := 110) (a := 39) (as := [_, _, _]) (kx_dd d_Do_dueOf 55 rfl) ⟨lk_Do_152, wi_Do_partRole, we_Do_partRole⟩ w_Do_partRole (hs.k 39 rfl) rfl rfl rfl rfl (Nat.le_of_ble_eq_true rfl) (x_Do_partRole (d := d + 1) hs D A ho hp r kn (cN D.2.2.1 c 2) (ruO r k) hok (duS D r kn (cN D.2.2.1 c 2) k).1 (duS D r kn (cN D.2.2.1 c 2) k).2 hdl.1 hsh) (Nat.le_refl _) ⟨Nat.le_refl _, Nat.le_refl _⟩ (fun v h' hq => ?_)
      obtain ⟨rfl, hq1, hq2⟩ := hq
      refine kx_istore_e (pc := 113) (lv' := [_, _, _, _, _, _, _, _]) (kx_dd d_Do_dueOf 56 rfl) (Nat.le_of_ble_eq_true rfl) rfl ?_
      refine kx_iinc_e (pc := 115) (v := nI (k + 1)) (lv' := [_, _, _, _, _, _, _, _]) (kx_dd d_Do_dueOf 57 rfl) rfl (Nat.le_of_ble_eq_true rfl) (nI_1 k) rfl ?_
      refine kx_goto (pc := 118) (tgt := 92) (kx_dd d_Do_dueOf 58 rfl) rfl ?_
      exact ih (k + 1) (by omega) _ (hf.tr hq2) hq1
theorem x_Do_due1 {l : Launch} {g : kx_G} {d : Nat} {h0 : kx_Mem} (hs0 : SC h0) (D : DK) (A : DA) (ho : DKok D) (hp0 : DKc D A h0) (a : Nat) (hra : isRuA a) (r : RU) (hro : RUok r) (hrp0 : RUc r a h0) (c : Nat) (hc : c < D.2.2.1.1) (kn : Nat) (hkn : kn < 2 ^ 31) : ∀ f k, k + f = D.2.2.1.1 → ∀ h w7, kx_Fc FdC h0 h → (∀ i, i < k → cN D.2.2.1 i 2 = (cN D.2.2.1 c 2) → h.1 (A.1 i) 17 = nI 0) → kx_X (l, g, m_Do_dueOf, d + 5, 0, 0, (fun v h' => v = some (.int (nI (dueF D r kn c))) ∧ kx_Fc FdC h0 h')) 0 0 6 [some (.ref 39), some (.ref (A.1 c)), some (.ref a), some (.int (nI kn)), some (.long (lN (pvK (prB D r kn (cN D.2.2.1 c 2)) k))), none, some (.int (nI k)), w7] [] h := by
  have o60 := ho.2.2.1.1
  have ha83 : a ≤ 75 := by unfold isRuA at hra; omega
  have hth := (ho.2.2.1.2 c hc).2.2.2.1
  intro f
  induction f with
  | zero =>
    intro k hk h w7 hf hz
    have hk4 : k = D.2.2.1.1 := by omega
    subst hk4
    have hs := hs0.fc hf
    have hp := hp0.fd hf
    have hrp := hrp0.fd hra hf
    have hr := IsRu.of hs hra
    have hcc := hp.2.2.2.2.1.2 c hc
    have ec2 := (hcc.2.2.2.1 2 (by decide) (by decide)).trans ((ho.2.2.1.2 c hc).1 2 (by decide) (by decide) (by decide) (by decide))
    refine kx_iload (pc := 6) (kx_dd d_Do_dueOf 4 rfl) rfl ?_
    refine kx_aload_n (pc := 8) (kx_dd d_Do_dueOf 5 rfl) rfl rfl ?_
    refine kx_getR (pc := 9) (b := 40) fl_Do_12 (hs.k 39 rfl) rfl (hs.r 43 rfl) (kx_dd d_Do_dueOf 6 rfl) ?_
    refine kx_invV (pc := 12) (a := 40) (as := []) (kx_dd d_Do_dueOf 7 rfl) ⟨lk_Do_29, wi_AL_size, we_AL_size⟩ w_AL_size (hs.k 40 rfl) rfl rfl rfl rfl (Nat.le_of_ble_eq_true rfl) (x_AL_size (d := d + 4) 40 _ _ _ _ (DKc.k40 hs).1 hp.2.2.1) (Nat.le_refl _) ⟨Nat.le_refl _, Nat.le_refl _⟩ (fun v h' hq => ?_)
    obtain ⟨rfl, he⟩ := hq
    rw [he]
    clear he
    refine kx_icmp_ge (pc := 15) (tgt := 76) (kx_dd d_Do_dueOf 8 rfl) rfl (fun c15 => ?_) (fun c15 => ?_)
    · refine kx_aload_n (pc := 76) (kx_dd d_Do_dueOf 37 rfl) rfl rfl ?_
      refine kx_getR (pc := 77) (b := 34) fl_Do_25 (hs.k 39 rfl) rfl (hs.r 42 rfl) (kx_dd d_Do_dueOf 38 rfl) ?_
      refine kx_aload_n (pc := 80) (kx_dd d_Do_dueOf 39 rfl) rfl rfl ?_
      refine kx_getI (pc := 81) fl_Do_79 (congrArg Prod.fst hcc.2.2.1) rfl (kx_dd d_Do_dueOf 40 rfl) ?_
      rw [ec2]
      refine kx_invV (pc := 84) (a := 34) (as := [_]) (kx_dd d_Do_dueOf 41 rfl) ⟨lk_Do_146, wi_Th_worthOf, we_Th_worthOf⟩ w_Th_worthOf (hs.k 34 rfl) rfl rfl rfl rfl (Nat.le_of_ble_eq_true rfl) (x_Th_worthOf (d := d + 1) hs D.2.1 ho.2.1 hp.2.1 (cN D.2.2.1 c 2) hth) (Nat.le_refl _) ⟨Nat.le_refl _, Nat.le_refl _⟩ (fun v h' hq => ?_)
      obtain ⟨rfl, hq1⟩ := hq
      have hf2 : kx_Fc FdC h h' := hq1.c (fun b hb j => Or.inl (by simpa using hb))
      refine kx_istore_e (pc := 87) (lv' := [_, _, _, _, _, _, _, _]) (kx_dd d_Do_dueOf 42 rfl) (Nat.le_of_ble_eq_true rfl) rfl ?_
      refine kx_iconst (pc := 89) (v := 0) (kx_dd d_Do_dueOf 43 rfl) rfl ?_
      refine kx_istore_e (pc := 90) (lv' := [_, _, _, _, _, _, _, _]) (kx_dd d_Do_dueOf 44 rfl) (Nat.le_of_ble_eq_true rfl) rfl ?_
      refine x_Do_due2 hs0 D A ho hp0 a hra r hro hrp0 c hc kn hkn 4 0 (by omega) h' (hf.tr hf2) (fun i hi ht => ?_)
      rw [hq1.2 (A.1 i) (by have := (hp.2.2.2.2.1.2 i hi).1; simp; omega)]
      exact hz i hi ht
    · exact absurd (Int32.le_refl _) c15
  | succ f ih =>
    intro k hk h w7 hf hz
    have hs := hs0.fc hf
    have hp := hp0.fd hf
    have hrp := hrp0.fd hra hf
    have hr := IsRu.of hs hra
    have hcc := hp.2.2.2.2.1.2 c hc
    have ec2 := (hcc.2.2.2.1 2 (by decide) (by decide)).trans ((ho.2.2.1.2 c hc).1 2 (by decide) (by decide) (by decide) (by decide))
    have hck := hp.2.2.2.2.1.2 k (by omega)
    have ock := ho.2.2.1.2 k (by omega)
    have ek2 := (hck.2.2.2.1 2 (by decide) (by decide)).trans (ock.1 2 (by decide) (by decide) (by decide) (by decide))
    have q2 := ock.2.2.2.1
    have ots := ho.2.1.1
    have hpv : pvK (prB D r kn (cN D.2.2.1 c 2)) (k + 1) = if (prB D r kn (cN D.2.2.1 c 2)) k then pvK (prB D r kn (cN D.2.2.1 c 2)) k ||| 2 ^ k else pvK (prB D r kn (cN D.2.2.1 c 2)) k := rfl
    refine kx_iload (pc := 6) (kx_dd d_Do_dueOf 4 rfl) rfl ?_
    refine kx_aload_n (pc := 8) (kx_dd d_Do_dueOf 5 rfl) rfl rfl ?_
    refine kx_getR (pc := 9) (b := 40) fl_Do_12 (hs.k 39 rfl) rfl (hs.r 43 rfl) (kx_dd d_Do_dueOf 6 rfl) ?_
    refine kx_invV (pc := 12) (a := 40) (as := []) (kx_dd d_Do_dueOf 7 rfl) ⟨lk_Do_29, wi_AL_size, we_AL_size⟩ w_AL_size (hs.k 40 rfl) rfl rfl rfl rfl (Nat.le_of_ble_eq_true rfl) (x_AL_size (d := d + 4) 40 _ _ _ _ (DKc.k40 hs).1 hp.2.2.1) (Nat.le_refl _) ⟨Nat.le_refl _, Nat.le_refl _⟩ (fun v h' hq => ?_)
    obtain ⟨rfl, he⟩ := hq
    rw [he]
    clear he
    refine kx_icmp_ge (pc := 15) (tgt := 76) (kx_dd d_Do_dueOf 8 rfl) rfl (fun c15 => ?_) (fun c15 => ?_)
    · exact absurd c15 (nI_ge (by omega) (by omega))
    · refine kx_aload_n (pc := 18) (kx_dd d_Do_dueOf 9 rfl) rfl rfl ?_
      refine kx_getR (pc := 19) (b := 40) fl_Do_12 (hs.k 39 rfl) rfl (hs.r 43 rfl) (kx_dd d_Do_dueOf 10 rfl) ?_
      refine kx_iload (pc := 22) (kx_dd d_Do_dueOf 11 rfl) rfl ?_
      refine kx_invV (pc := 24) (a := 40) (as := [_]) (kx_dd d_Do_dueOf 12 rfl) ⟨lk_Do_33, wi_AL_get, we_AL_get⟩ w_AL_get (hs.k 40 rfl) rfl rfl rfl rfl (Nat.le_of_ble_eq_true rfl) (x_AL_get (d := d + 2) 40 _ _ _ _ (DKc.k40 hs).1 hp.2.2.1 k (by omega)) (Nat.le_refl _) ⟨Nat.le_refl _, Nat.le_refl _⟩ (fun v h' hq => ?_)
      obtain ⟨rfl, he⟩ := hq
      rw [he]
      clear he
      refine kx_cast (pc := 27) (ci := 1) (congrArg Prod.fst hck.2.2.1) rfl cl_Do_37 (kx_dd d_Do_dueOf 13 rfl) ?_
      refine kx_astore_e (pc := 30) (lv' := [_, _, _, _, _, _, _, _]) (kx_dd d_Do_dueOf 14 rfl) (Nat.le_of_ble_eq_true rfl) rfl ?_
      refine kx_aload (pc := 32) (kx_dd d_Do_dueOf 15 rfl) rfl ?_
      refine kx_getI (pc := 34) fl_Do_79 (congrArg Prod.fst hck.2.2.1) rfl (kx_dd d_Do_dueOf 16 rfl) ?_
      refine kx_aload_n (pc := 37) (kx_dd d_Do_dueOf 17 rfl) rfl rfl ?_
      refine kx_getI (pc := 38) fl_Do_79 (congrArg Prod.fst hcc.2.2.1) rfl (kx_dd d_Do_dueOf 18 rfl) ?_
      refine kx_icmp_ne (pc := 41) (tgt := 70) (kx_dd d_Do_dueOf 19 rfl) rfl (fun c41 => ?_) (fun c41 => ?_)
      · refine kx_iinc_e (pc := 70) (v := nI (k + 1)) (lv' := [_, _, _, _, _, _, _, _]) (kx_dd d_Do_dueOf 35 rfl) rfl (Nat.le_of_ble_eq_true rfl) (nI_1 k) rfl ?_
        refine kx_goto (pc := 73) (tgt := 6) (kx_dd d_Do_dueOf 36 rfl) rfl ?_
        rw [ek2, ec2, nI_eq (by omega) (by omega)] at c41
        have hI : ¬ (prB D r kn (cN D.2.2.1 c 2)) k = true := fun z => c41 (of_decide_eq_true z).1
        rw [if_neg hI] at hpv
        have ih1 := ih (k + 1) (by omega) h (some (.ref (A.1 k))) hf (fun i hi ht => hz i (by rcases Nat.lt_succ_iff_lt_or_eq.mp hi with z | z; exact z; exact absurd (z ▸ ht) c41) ht)
        rw [hpv] at ih1
        exact ih1
      · refine kx_aload (pc := 44) (kx_dd d_Do_dueOf 20 rfl) rfl ?_
        refine kx_iconst (pc := 46) (v := 0) (kx_dd d_Do_dueOf 21 rfl) rfl ?_
        refine kx_putI (pc := 47) fl_Do_143 (congrArg Prod.fst hck.2.2.1) hck.2.1 rfl rfl (kx_dd d_Do_dueOf 22 rfl) ?_
        have hf2 : kx_Fc FdC h (kx_setI h (A.1 k) 17 0) := kx_Fc.set (Or.inr ⟨hck.1, rfl⟩)
        have hs2 := hs.fc hf2
        have hp2 := hp.fd hf2
        have hrp2 := hrp.fd hra hf2
        have hr2 := IsRu.of hs2 hra
        refine kx_aload_n (pc := 50) (kx_dd d_Do_dueOf 23 rfl) rfl rfl ?_
        refine kx_aload (pc := 51) (kx_dd d_Do_dueOf 24 rfl) rfl ?_
        refine kx_aload_n (pc := 53) (kx_dd d_Do_dueOf 25 rfl) rfl rfl ?_
        refine kx_iload_n (pc := 54) (kx_dd d_Do_dueOf 26 rfl) rfl rfl ?_
        refine kx_invV (pc := 55) (a := 39) (as := [_, _, _]) (kx_dd d_Do_dueOf 27 rfl) ⟨lk_Do_134, wi_Do_failuresOf, we_Do_failuresOf⟩ w_Do_failuresOf (hs.k 39 rfl) rfl rfl rfl rfl (Nat.le_of_ble_eq_true rfl) (x_Do_failuresOf (d := d) hs2 D A ho hp2 a hr2 r hro hrp2 k (by omega) kn hkn) (Nat.le_refl _) ⟨Nat.le_refl _, Nat.le_refl _⟩ (fun v h' hq => ?_)
        obtain ⟨rfl, he⟩ := hq
        rw [he]
        clear he
        refine kx_if_ne (pc := 58) (tgt := 70) (kx_dd d_Do_dueOf 28 rfl) rfl (fun c58 => ?_) (fun c58 => ?_)
        · refine kx_iinc_e (pc := 70) (v := nI (k + 1)) (lv' := [_, _, _, _, _, _, _, _]) (kx_dd d_Do_dueOf 35 rfl) rfl (Nat.le_of_ble_eq_true rfl) (nI_1 k) rfl ?_
          refine kx_goto (pc := 73) (tgt := 6) (kx_dd d_Do_dueOf 36 rfl) rfl ?_
          rw [ek2, ec2, nI_eq (by omega) (by omega)] at c41
          rw [nI_z (Nat.lt_of_lt_of_le faiF_lt (by decide))] at c58
          have hI : ¬ (prB D r kn (cN D.2.2.1 c 2)) k = true := fun z => c58 (of_decide_eq_true z).2
          rw [if_neg hI] at hpv
          have ih1 := ih (k + 1) (by omega) (kx_setI h (A.1 k) 17 0) (some (.ref (A.1 k))) (hf.tr hf2) (fun i hi ht => by
      by_cases e : A.1 i = A.1 k
      · simp [kx_setI, kx_up, e, nI_0]
      · have hne : i ≠ k := fun q => e (by rw [q])
        rw [← hz i (by omega) ht]; simp [kx_setI, kx_up, e])
          rw [hpv] at ih1
          exact ih1
        · refine kx_lload (pc := 61) (kx_dd d_Do_dueOf 29 rfl) rfl ?_
          refine kx_lconst (pc := 63) (v := 1) (kx_dd d_Do_dueOf 30 rfl) rfl ?_
          refine kx_iload (pc := 64) (kx_dd d_Do_dueOf 31 rfl) rfl ?_
          refine kx_lshl (pc := 66) (kx_dd d_Do_dueOf 32 rfl) ?_
          refine kx_lor (pc := 67) (kx_dd d_Do_dueOf 33 rfl) ?_
          refine kx_lstore_e (pc := 68) (lv' := [_, _, _, _, _, _, _, _]) (kx_dd d_Do_dueOf 34 rfl) (Nat.le_of_ble_eq_true rfl) rfl ?_
          refine kx_iinc_e (pc := 70) (v := nI (k + 1)) (lv' := [_, _, _, _, _, _, _, _]) (kx_dd d_Do_dueOf 35 rfl) rfl (Nat.le_of_ble_eq_true rfl) (nI_1 k) rfl ?_
          refine kx_goto (pc := 73) (tgt := 6) (kx_dd d_Do_dueOf 36 rfl) rfl ?_
          rw [ek2, ec2, nI_eq (by omega) (by omega)] at c41
          rw [nI_z (Nat.lt_of_lt_of_le faiF_lt (by decide))] at c58
          have hI : (prB D r kn (cN D.2.2.1 c 2)) k = true := decide_eq_true ⟨c41, c58⟩
          rw [if_pos hI] at hpv
          rw [lN_pow (by omega), lN_or]
          have ih1 := ih (k + 1) (by omega) (kx_setI h (A.1 k) 17 0) (some (.ref (A.1 k))) (hf.tr hf2) (fun i hi ht => by
      by_cases e : A.1 i = A.1 k
      · simp [kx_setI, kx_up, e, nI_0]
      · have hne : i ≠ k := fun q => e (by rw [q])
        rw [← hz i (by omega) ht]; simp [kx_setI, kx_up, e])
          rw [hpv] at ih1
          exact ih1
theorem x_Do_dueOf {l : Launch} {g : kx_G} {d : Nat} {h : kx_Mem} (hs : SC h) (D : DK) (A : DA) (ho : DKok D) (hp : DKc D A h) (a : Nat) (hra : isRuA a) (r : RU) (hro : RUok r) (hrp : RUc r a h) (c : Nat) (hc : c < D.2.2.1.1) (kn : Nat) (hkn : kn < 2 ^ 31) : kx_Sp l g m_Do_dueOf [.ref 39, .ref (A.1 c), .ref a, .int (nI kn)] h (d + 5) 0 0 (fun v h' => v = some (.int (nI (dueF D r kn c))) ∧ kx_Fc FdC h h') := by
  refine kx_enter_e (lv := [_, _, _, _, _, _, _, _]) (by decide +kernel) (Nat.le_of_ble_eq_true rfl) rfl ?_
  refine kx_lconst (pc := 0) (v := 0) (kx_dd d_Do_dueOf 0 rfl) rfl ?_
  refine kx_lstore_e (pc := 1) (lv' := [_, _, _, _, _, _, _, _]) (kx_dd d_Do_dueOf 1 rfl) (Nat.le_of_ble_eq_true rfl) rfl ?_
  refine kx_iconst (pc := 3) (v := 0) (kx_dd d_Do_dueOf 2 rfl) rfl ?_
  refine kx_istore_e (pc := 4) (lv' := [_, _, _, _, _, _, _, _]) (kx_dd d_Do_dueOf 3 rfl) (Nat.le_of_ble_eq_true rfl) rfl ?_
  exact x_Do_due1 hs D A ho hp a hra r hro hrp c hc kn hkn D.2.2.1.1 0 (by omega) h _ kx_Fc.rf (fun i hi => absurd hi (Nat.not_lt_zero i))
