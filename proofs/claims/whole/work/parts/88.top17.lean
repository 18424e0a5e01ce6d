/-! top-level: spread -/
noncomputable def sprK (r : RU) (td c : Nat) (D : DK) : Nat → Nat × DK
  | 0 => (0, D)
  | k + 1 => @ite _ (cN (sprK r td c D k).2.2.2.1 k 8 = 0 ∧ likP (sprK r td c D k).2 (rsN r 8) k c) (Classical.propDecidable _) ((sprK r td c D k).1 + 1, decD (sprK r td c D k).2 r td k (meaF (dueF (sprK r td c D k).2 r td k) (cN (sprK r td c D k).2.2.2.1 c 9) (cN (sprK r td c D k).2.2.2.1 c 16)) (dueF (sprK r td c D k).2 r td k)) (sprK r td c D k)
theorem sprK_y {r : RU} {td c k : Nat} {D D1 : DK} (h1 : (sprK r td c D k).2 = D1) (h : cN D1.2.2.1 k 8 = 0 ∧ likP D1 (rsN r 8) k c) : sprK r td c D (k + 1) = ((sprK r td c D k).1 + 1, decD D1 r td k (meaF (dueF D1 r td k) (cN D1.2.2.1 c 9) (cN D1.2.2.1 c 16)) (dueF D1 r td k)) := by
  subst h1
  conv => lhs; unfold sprK
  exact if_pos h
theorem sprK_n {r : RU} {td c k : Nat} {D D1 : DK} (h1 : (sprK r td c D k).2 = D1) (h : ¬ (cN D1.2.2.1 k 8 = 0 ∧ likP D1 (rsN r 8) k c)) : sprK r td c D (k + 1) = sprK r td c D k := by
  subst h1
  conv => lhs; unfold sprK
  exact if_neg h
theorem meaF_le {du su kd : Nat} : meaF du su kd ≤ du := by
  unfold meaF
  split
  · omega
  · split <;> omega
theorem dec5 {D : DK} {r : RU} {td c su du c' j : Nat} (hj : j < 8 ∨ j = 11) : (decD D r td c su du).2.2.1.2.1 c' j = D.2.2.1.2.1 c' j := by
  show decF _ _ _ _ _ _ _ _ _ = _
  unfold decF
  split
  · rw [if_neg (by omega), if_neg (by omega), if_neg (by omega), if_neg (by omega), if_neg (by omega), if_neg (by omega), if_neg (by omega), if_neg (by omega)]
  · rfl
theorem sprK_ok {D : DK} (ho : DKok D) {r : RU} (hse : RSet r) {td c : Nat} (htd : td ≤ 1999) : ∀ k, k ≤ D.2.2.1.1 → DKok (sprK r td c D k).2 ∧ (sprK r td c D k).2.2.2.1.1 = D.2.2.1.1 ∧ (∀ c', cN (sprK r td c D k).2.2.2.1 c' 5 = cN D.2.2.1 c' 5) ∧ (sprK r td c D k).1 ≤ k
  | 0, _ => ⟨ho, rfl, fun _ => rfl, Nat.le_refl _⟩
  | k + 1, hk => by
    obtain ⟨h1, h2, h3, h4⟩ := sprK_ok ho hse (c := c) htd k (by omega)
    by_cases e : cN (sprK r td c D k).2.2.2.1 k 8 = 0 ∧ likP (sprK r td c D k).2 (rsN r 8) k c
    · rw [sprK_y rfl e]
      have hd := dueF_le h1 (r := r) (td := td) (c := k) (by omega)
      exact ⟨h1.dec hse (Nat.le_trans meaF_le hd) htd hd, h2, fun c' => by unfold cN; rw [dec5 (Or.inl (by decide))]; exact h3 c', by show (sprK r td c D k).1 + 1 ≤ k + 1; omega⟩
    · rw [sprK_n rfl e]
      exact ⟨h1, h2, h3, by omega⟩
noncomputable def sprR (D : DK) (r : RU) (td : Nat) (a : Int32) : Int32 × DK :=
  if 0 ≤ a ∧ a < nI D.2.2.1.1 then
    if cN D.2.2.1 a.toNatClampNeg 8 = 2 then (nI (sprK r td a.toNatClampNeg D D.2.2.1.1).1, (sprK r td a.toNatClampNeg D D.2.2.1.1).2)
    else (-4, D)
  else (-2, D)
theorem meaI {du su kd : Nat} (hd : du ≤ 999999) (hs : su ≤ 999999) (hk : kd ≤ 999999) (h0 : ¬ kd = 0) : (if (nI du).toInt64 * (nI su).toInt64 / (nI kd).toInt64 < (nI du).toInt64 then (nI du).toInt64 * (nI su).toInt64 / (nI kd).toInt64 else (nI du).toInt64).toInt32 = nI (meaF du su kd) := by
  have hm : du * su ≤ 999999 * 999999 := Nat.mul_le_mul hd hs
  have hq : du * su / kd ≤ du * su := Nat.div_le_self _ _
  rw [nI_l (by omega), nI_l (by omega), nI_l (by omega), lN_mul, pk_lDiv (by omega) (by omega) (by omega)]
  unfold meaF
  rw [if_neg h0]
  by_cases e : du * su / kd < du
  · rw [if_pos ((pk_lLT (by omega) (by omega)).mpr e), if_pos e, lN_i]
  · rw [if_neg (fun z => e ((pk_lLT (by omega) (by omega)).mp z)), if_neg e, lN_i]
theorem x_spread_loop {l : Launch} {g : kx_G} {d : Nat} (h0 : kx_Mem) (D : DK) (A : DA) (ho : DKok D) (AV : Nat → Nat) (DV : Nat) (V : Nat → RU) (u : Nat) (hu : u < 4) (hse : RSet (V u)) (td : Nat) (htd : td ≤ 1999) (hfi : ∀ c, c < D.2.2.1.1 → cN D.2.2.1 c 5 ≤ td) (c9 : Nat) (hc0 : c9 < D.2.2.1.1) (x1 : Int32) : ∀ n k, k + n = D.2.2.1.1 → ∀ h w6 w7, SC h → DKc (sprK (V u) td c9 D k).2 A h → CVs AV DV V h → h.1 0 9 = nI td → kx_Fc FvC h0 h → kx_X (l, g, m_Tc_spread, d + 6, 0, 0, (fun v h' => DkQ (nI (sprK (V u) td c9 D D.2.2.1.1).1, (sprK (V u) td c9 D D.2.2.1.1).2) (fun D h => DKc D A h) FvC h0 v h')) 0 0 46 [some (.ref 0), some (.int x1), some (.ref (A.1 c9)), some (.ref (AV u)), some (.int (nI (sprK (V u) td c9 D k).1)), some (.int (nI k)), w6, w7] [] (h) := by
  intro n
  induction n with
  | zero =>
    intro k hk h w6 w7 hs hp hV hck hF
    have hk0 : k = D.2.2.1.1 := by omega
    subst hk0
    obtain ⟨ho1, n1, f1, b1⟩ := sprK_ok ho hse (c := c9) htd D.2.2.1.1 (Nat.le_refl _)
    obtain ⟨D1, hD1⟩ : ∃ D1, (sprK (V u) td c9 D D.2.2.1.1).2 = D1 := ⟨_, rfl⟩
    rw [hD1] at ho1 n1 hp
    refine kx_iload (pc := 46) (kx_dd d_Tc_spread 26 rfl) rfl ?_
    refine kx_aload_n (pc := 48) (kx_dd d_Tc_spread 27 rfl) rfl rfl ?_
    refine kx_getR (pc := 49) (b := 39) fl_Tc_57 (hs.k 0 rfl) rfl (hs.r 6 rfl) (kx_dd d_Tc_spread 28 rfl) ?_
    refine kx_getR (pc := 52) (b := 40) fl_Tc_293 (hs.k 39 rfl) rfl (hs.r 43 rfl) (kx_dd d_Tc_spread 29 rfl) ?_
    refine kx_invV (pc := 55) (a := 40) (as := []) (kx_dd d_Tc_spread 30 rfl) ⟨lk_Tc_297, wi_AL_size, we_AL_size⟩ w_AL_size (hs.k 40 rfl) rfl rfl rfl rfl (Nat.le_of_ble_eq_true rfl) (x_AL_size (d := d + 5) 40 D1.2.2.1.1 A.2.2.1 A.2.2.2.1 A.1 (DKc.k40 hs).1 hp.2.2.1) (Nat.le_refl _) ⟨Nat.le_refl _, Nat.le_refl _⟩ (fun v h' hq => ?_)
    obtain ⟨rfl, he⟩ := hq
    rw [he]
    clear he
    refine kx_icmp_ge (pc := 58) (tgt := 149) (kx_dd d_Tc_spread 31 rfl) rfl (fun c58 => ?_) (fun c58 => ?_)
    · refine kx_iload (pc := 149) (kx_dd d_Tc_spread 72 rfl) rfl ?_
      refine kx_iret (pc := 151) rfl (kx_dd d_Tc_spread 73 rfl) (Nat.le_refl _) (Nat.le_refl _) ?_
      dsimp only
      exact DkQ.of rfl (by rw [hD1]; exact ho1) (by rw [hD1]; exact hp) hF
    · exact absurd (by rw [n1]; exact Int32.le_refl _) c58
  | succ n ih =>
    intro k hk h w6 w7 hs hp hV hck hF
    obtain ⟨ho1, n1, f1, b1⟩ := sprK_ok ho hse (c := c9) htd k (by omega)
    obtain ⟨D1, hD1⟩ : ∃ D1, (sprK (V u) td c9 D k).2 = D1 := ⟨_, rfl⟩
    rw [hD1] at ho1 n1 f1 hp
    have hc9 : c9 < D1.2.2.1.1 := by omega
    have o1 := ho.2.2.1.1
    have hk : k < D1.2.2.1.1 := by omega
    have e8 : h.1 (A.1 k) 8 = nI (cN D1.2.2.1 k 8) := ((hp.2.2.2.2.1.2 k hk).2.2.2.1 8 (by decide) (by decide)).trans ((ho1.2.2.1.2 k hk).1 8 (by decide) (by decide) (by decide) (by decide))
    have b8 : cN D1.2.2.1 k 8 ≤ 3 := (ho1.2.2.1.2 k hk).2.2.2.2.2.2.2.2.2.1
    have hdu := dueF_le ho1 (r := V u) (td := td) hk
    have r8 := hse.2.2.2.2.2.1
    refine kx_iload (pc := 46) (kx_dd d_Tc_spread 26 rfl) rfl ?_
    refine kx_aload_n (pc := 48) (kx_dd d_Tc_spread 27 rfl) rfl rfl ?_
    refine kx_getR (pc := 49) (b := 39) fl_Tc_57 (hs.k 0 rfl) rfl (hs.r 6 rfl) (kx_dd d_Tc_spread 28 rfl) ?_
    refine kx_getR (pc := 52) (b := 40) fl_Tc_293 (hs.k 39 rfl) rfl (hs.r 43 rfl) (kx_dd d_Tc_spread 29 rfl) ?_
    refine kx_invV (pc := 55) (a := 40) (as := []) (kx_dd d_Tc_spread 30 rfl) ⟨lk_Tc_297, wi_AL_size, we_AL_size⟩ w_AL_size (hs.k 40 rfl) rfl rfl rfl rfl (Nat.le_of_ble_eq_true rfl) (x_AL_size (d := d + 5) 40 D1.2.2.1.1 A.2.2.1 A.2.2.2.1 A.1 (DKc.k40 hs).1 hp.2.2.1) (Nat.le_refl _) ⟨Nat.le_refl _, Nat.le_refl _⟩ (fun v h' hq => ?_)
    obtain ⟨rfl, he⟩ := hq
    rw [he]
    clear he
    refine kx_icmp_ge (pc := 58) (tgt := 149) (kx_dd d_Tc_spread 31 rfl) rfl (fun c58 => ?_) (fun c58 => ?_)
    · exact absurd c58 (by rw [n1]; exact nI_ge (by omega) (by omega))
    · refine kx_aload_n (pc := 61) (kx_dd d_Tc_spread 32 rfl) rfl rfl ?_
      refine kx_getR (pc := 62) (b := 39) fl_Tc_57 (hs.k 0 rfl) rfl (hs.r 6 rfl) (kx_dd d_Tc_spread 33 rfl) ?_
      refine kx_getR (pc := 65) (b := 40) fl_Tc_293 (hs.k 39 rfl) rfl (hs.r 43 rfl) (kx_dd d_Tc_spread 34 rfl) ?_
      refine kx_iload (pc := 68) (kx_dd d_Tc_spread 35 rfl) rfl ?_
      refine kx_invV (pc := 70) (a := 40) (as := [_]) (kx_dd d_Tc_spread 36 rfl) ⟨lk_Tc_302, wi_AL_get, we_AL_get⟩ w_AL_get (hs.k 40 rfl) rfl rfl rfl rfl (Nat.le_of_ble_eq_true rfl) (x_AL_get (d := d + 3) 40 D1.2.2.1.1 A.2.2.1 A.2.2.2.1 A.1 (DKc.k40 hs).1 hp.2.2.1 k hk) (Nat.le_refl _) ⟨Nat.le_refl _, Nat.le_refl _⟩ (fun v h' hq => ?_)
      obtain ⟨rfl, he⟩ := hq
      rw [he]
      clear he
      refine kx_cast (pc := 73) (ci := 1) (congrArg Prod.fst (hp.2.2.2.2.1.2 k hk).2.2.1) rfl cl_Tc_181 (kx_dd d_Tc_spread 37 rfl) ?_
      refine kx_astore_e (pc := 76) (lv' := [_, _, _, _, _, _, _, _]) (kx_dd d_Tc_spread 38 rfl) (Nat.le_of_ble_eq_true rfl) rfl ?_
      refine kx_aload (pc := 78) (kx_dd d_Tc_spread 39 rfl) rfl ?_
      refine kx_getI (pc := 80) fl_Tc_239 (congrArg Prod.fst (hp.2.2.2.2.1.2 k hk).2.2.1) rfl (kx_dd d_Tc_spread 40 rfl) ?_
      refine kx_if_ne (pc := 83) (tgt := 143) (kx_dd d_Tc_spread 41 rfl) rfl (fun c83 => ?_) (fun c83 => ?_)
      · refine kx_iinc_e (pc := 143) (v := nI (k + 1)) (lv' := [_, _, _, _, _, _, _, _]) (kx_dd d_Tc_spread 70 rfl) rfl (Nat.le_of_ble_eq_true rfl) (nI_1 k) rfl ?_
        refine kx_goto (pc := 146) (tgt := 46) (kx_dd d_Tc_spread 71 rfl) rfl ?_
        rw [e8, nI_z (by omega)] at c83
        have e := sprK_n (r := V u) (td := td) (c := c9) hD1 (fun z => c83 z.1)
        have ih1 := ih (k + 1) (by omega)
        rw [e] at ih1
        exact ih1 _ _ _ hs (by rw [hD1]; exact hp) hV hck hF
      · rw [e8, nI_z (by omega)] at c83
        refine kx_aload (pc := 86) (kx_dd d_Tc_spread 42 rfl) rfl ?_
        refine kx_aload_n (pc := 88) (kx_dd d_Tc_spread 43 rfl) rfl rfl ?_
        refine kx_aload_n (pc := 89) (kx_dd d_Tc_spread 44 rfl) rfl rfl ?_
        refine kx_getR (pc := 90) (b := (AV u + 1)) fl_Tc_246 (congrArg Prod.fst (IsRu.of hs (hV.2.2 u hu).2.1).1) rfl (IsRu.of hs (hV.2.2 u hu).2.1).2.2.2.2.2.2.2.2.2.1 (kx_dd d_Tc_spread 45 rfl) ?_
        refine kx_bipush (pc := 93) (v := 8) (kx_dd d_Tc_spread 46 rfl) rfl ?_
        refine kx_ialdn (pc := 95) 8 ((IsRu.of hs (hV.2.2 u hu).2.1).2.1) rfl (by decide) (by decide) (kx_dd d_Tc_spread 47 rfl) ?_
        rw [(hV.2.2 u hu).2.2.2.2.1.1 8 (by decide), hse.1 8 (by decide) (by decide)]
        refine kx_invV (pc := 96) (a := (A.1 k)) (as := [_, _]) (kx_dd d_Tc_spread 48 rfl) ⟨lk_Tc_282, wi_Cl_isLike, we_Cl_isLike⟩ w_Cl_isLike (congrArg Prod.fst (hp.2.2.2.2.1.2 k hk).2.2.1) rfl rfl rfl rfl (Nat.le_of_ble_eq_true rfl) (x_Cl_isLike (d := d + 4) hs D1 A ho1 hp k hk c9 hc9 (rsN (V u) 8) (by omega)) (Nat.le_refl _) ⟨Nat.le_refl _, Nat.le_refl _⟩ (fun v h' hq => ?_)
        obtain ⟨rfl, he⟩ := hq
        rw [he]
        clear he
        refine kx_if_eq (pc := 99) (tgt := 143) (kx_dd d_Tc_spread 49 rfl) rfl (fun c99 => ?_) (fun c99 => ?_)
        · refine kx_iinc_e (pc := 143) (v := nI (k + 1)) (lv' := [_, _, _, _, _, _, _, _]) (kx_dd d_Tc_spread 70 rfl) rfl (Nat.le_of_ble_eq_true rfl) (nI_1 k) rfl ?_
          refine kx_goto (pc := 146) (tgt := 46) (kx_dd d_Tc_spread 71 rfl) rfl ?_
          have e := sprK_n (r := V u) (td := td) (c := c9) hD1 (fun z => bP_0.mp c99 z.2)
          have ih1 := ih (k + 1) (by omega)
          rw [e] at ih1
          exact ih1 _ _ _ hs (by rw [hD1]; exact hp) hV hck hF
        · refine kx_aload_n (pc := 102) (kx_dd d_Tc_spread 50 rfl) rfl rfl ?_
          refine kx_getR (pc := 103) (b := 39) fl_Tc_57 (hs.k 0 rfl) rfl (hs.r 6 rfl) (kx_dd d_Tc_spread 51 rfl) ?_
          refine kx_aload (pc := 106) (kx_dd d_Tc_spread 52 rfl) rfl ?_
          refine kx_aload_n (pc := 108) (kx_dd d_Tc_spread 53 rfl) rfl rfl ?_
          refine kx_aload_n (pc := 109) (kx_dd d_Tc_spread 54 rfl) rfl rfl ?_
          refine kx_getI (pc := 110) fl_Tc_94 (hs.k 0 rfl) rfl (kx_dd d_Tc_spread 55 rfl) ?_
          rw [hck]
          refine kx_invV (pc := 113) (a := 39) (as := [_, _, _]) (kx_dd d_Tc_spread 56 rfl) ⟨lk_Tc_243, wi_Do_dueOf, we_Do_dueOf⟩ w_Do_dueOf (hs.k 39 rfl) rfl rfl rfl rfl (Nat.le_of_ble_eq_true rfl) (x_Do_dueOf (d := d) hs D1 A ho1 hp (AV u) (hV.2.2 u hu).2.1 (V u) (hV.2.2 u hu).2.2.2.1 (hV.2.2 u hu).2.2.2.2.1 k hk td (by omega)) (Nat.le_refl _) ⟨Nat.le_refl _, Nat.le_refl _⟩ (fun v h' hq => ?_)
          revert h'
          intro h1 hq
          obtain ⟨rfl, hf9⟩ := hq
          have hs : SC h1 := hs.fc hf9
          have hp : DKc D1 A h1 := hp.fd hf9
          have hV : CVs AV DV V h1 := hV.fv hf9 (fun b j q1 q2 => by unfold FdC; omega)
          have hck : h1.1 0 9 = nI td := by rw [hf9.2 0 9 (by unfold FdC; omega)]; exact hck
          have hF : kx_Fc FvC h0 h1 := hF.tr (hf9.mono (fun a j z => by unfold FdC at z; unfold FvC; omega))
          refine kx_istore_e (pc := 116) (lv' := [_, _, _, _, _, _, _, _]) (kx_dd d_Tc_spread 57 rfl) (Nat.le_of_ble_eq_true rfl) rfl ?_
          refine kx_aload_n (pc := 118) (kx_dd d_Tc_spread 58 rfl) rfl rfl ?_
          refine kx_getR (pc := 119) (b := 39) fl_Tc_57 (hs.k 0 rfl) rfl (hs.r 6 rfl) (kx_dd d_Tc_spread 59 rfl) ?_
          refine kx_aload (pc := 122) (kx_dd d_Tc_spread 60 rfl) rfl ?_
          refine kx_aload_n (pc := 124) (kx_dd d_Tc_spread 61 rfl) rfl rfl ?_
          refine kx_iload (pc := 125) (kx_dd d_Tc_spread 62 rfl) rfl ?_
          refine kx_invV (pc := 127) (a := (A.1 c9)) (as := [_]) (kx_dd d_Tc_spread 63 rfl) ⟨lk_Tc_306, wi_Cl_measureOf, we_Cl_measureOf⟩ w_Cl_measureOf (congrArg Prod.fst (hp.2.2.2.2.1.2 c9 hc9).2.2.1) rfl rfl rfl rfl (Nat.le_of_ble_eq_true rfl) (x_Cl_measureOf (d := d + 4) hs D1 A ho1 hp c9 hc9 (dueF D1 (V u) td k) hdu) (Nat.le_refl _) ⟨Nat.le_refl _, Nat.le_refl _⟩ (fun v h' hq => ?_)
          obtain ⟨rfl, he⟩ := hq
          rw [he]
          clear he
          refine kx_iload (pc := 130) (kx_dd d_Tc_spread 64 rfl) rfl ?_
          refine kx_aload_n (pc := 132) (kx_dd d_Tc_spread 65 rfl) rfl rfl ?_
          refine kx_aload_n (pc := 133) (kx_dd d_Tc_spread 66 rfl) rfl rfl ?_
          refine kx_getI (pc := 134) fl_Tc_94 (hs.k 0 rfl) rfl (kx_dd d_Tc_spread 67 rfl) ?_
          rw [hck]
          refine kx_invV (pc := 137) (a := 39) (as := [_, _, _, _, _]) (kx_dd d_Tc_spread 68 rfl) ⟨lk_Tc_259, wi_Do_decide, we_Do_decide⟩ w_Do_decide (hs.k 39 rfl) rfl rfl rfl rfl (Nat.le_of_ble_eq_true rfl) (x_Do_decide (d := d) hs D1 A ho1 hp (AV u) (hV.2.2 u hu).2.1 (V u) (hV.2.2 u hu).2.2.2.1 hse (hV.2.2 u hu).2.2.2.2.1 k hk td htd (by rw [f1]; exact hfi k (by omega)) _ (Nat.le_trans meaF_le hdu) (by omega) (dueF D1 (V u) td k) hdu) (Nat.le_refl _) ⟨Nat.le_refl _, Nat.le_refl _⟩ (fun v h' hq => ?_)
          revert h'
          intro h2 hq
          obtain ⟨rfl, hp2, hf2⟩ := hq
          have hs : SC h2 := hs.fc hf2
          refine kx_iinc_e (pc := 140) (v := nI ((sprK (V u) td c9 D k).1 + 1)) (lv' := [_, _, _, _, _, _, _, _]) (kx_dd d_Tc_spread 69 rfl) rfl (Nat.le_of_ble_eq_true rfl) (nI_1 _) rfl ?_
          refine kx_iinc_e (pc := 143) (v := nI (k + 1)) (lv' := [_, _, _, _, _, _, _, _]) (kx_dd d_Tc_spread 70 rfl) rfl (Nat.le_of_ble_eq_true rfl) (nI_1 k) rfl ?_
          refine kx_goto (pc := 146) (tgt := 46) (kx_dd d_Tc_spread 71 rfl) rfl ?_
          have e := sprK_y (r := V u) (td := td) (c := c9) hD1 ⟨c83, (bP_ti _).mp c99⟩
          have ih1 := ih (k + 1) (by omega)
          rw [e] at ih1
          have hA : 154 ≤ A.1 k := (hp.2.2.2.2.1.2 k hk).1
          exact ih1 _ _ _ hs hp2 (hV.fv hf2 (fun b j q1 q2 => by omega)) (by rw [hf2.2 0 9 (by omega)]; exact hck) (hF.tr (hf2.mono (fun a j z => Or.inr (by omega))))
theorem x_Tc_spread {l : Launch} {g : kx_G} {d : Nat} {h : kx_Mem} (hs : SC h) (D : DK) (A : DA) (ho : DKok D) (hp : DKc D A h) (AV : Nat → Nat) (DV : Nat) (V : Nat → RU) (hV : CVs AV DV V h) (u : Nat) (hu : u < 4) (hif : h.1 0 10 = nI u) (hse : RSet (V u)) (td : Nat) (htd : td ≤ 1999) (hck : h.1 0 9 = nI td) (hfi : ∀ c, c < D.2.2.1.1 → cN D.2.2.1 c 5 ≤ td) (a : Int32) : kx_Sp l g m_Tc_spread [.ref 0, .int a] h (d + 6) 0 0 (fun v h' => DkQ (sprR D (V u) td a) (fun D h => DKc D A h) FvC h v h') := by
  have o1 := ho.2.2.1.1
  by_cases e9 : 0 ≤ a ∧ a < nI D.2.2.1.1
  · skip
    obtain ⟨a9, ha9, rfl⟩ := valP (n := D.2.2.1.1) (by omega) e9
    have e1 : h.1 (A.1 a9) 8 = nI (cN D.2.2.1 a9 8) := ((hp.2.2.2.2.1.2 a9 ha9).2.2.2.1 8 (by decide) (by decide)).trans ((ho.2.2.1.2 a9 ha9).1 8 (by decide) (by decide) (by decide) (by decide))
    have b8 : cN D.2.2.1 a9 8 ≤ 3 := (ho.2.2.1.2 a9 ha9).2.2.2.2.2.2.2.2.2.1
    refine kx_enter_e (lv := [_, _, _, _, _, _, _, _]) (by decide +kernel) (Nat.le_of_ble_eq_true rfl) rfl ?_
    refine kx_aload_n (pc := 0) (kx_dd d_Tc_spread 0 rfl) rfl rfl ?_
    refine kx_getR (pc := 1) (b := 39) fl_Tc_57 (hs.k 0 rfl) rfl (hs.r 6 rfl) (kx_dd d_Tc_spread 1 rfl) ?_
    refine kx_iload_n (pc := 4) (kx_dd d_Tc_spread 2 rfl) rfl rfl ?_
    refine kx_invV (pc := 5) (a := 39) (as := [_]) (kx_dd d_Tc_spread 3 rfl) ⟨lk_Tc_190, wi_Do_claimAt, we_Do_claimAt⟩ w_Do_claimAt (hs.k 39 rfl) rfl rfl rfl rfl (Nat.le_of_ble_eq_true rfl) (x_Do_claimAt (d := d + 2) hs D A ho hp a9 ha9) (Nat.le_refl _) ⟨Nat.le_refl _, Nat.le_refl _⟩ (fun v h' hq => ?_)
    obtain ⟨rfl, he⟩ := hq
    rw [he]
    clear he
    refine kx_astore_ne (pc := 8) (lv' := [_, _, _, _, _, _, _, _]) (kx_dd d_Tc_spread 4 rfl) rfl (Nat.le_of_ble_eq_true rfl) rfl ?_
    refine kx_aload_n (pc := 9) (kx_dd d_Tc_spread 5 rfl) rfl rfl ?_
    refine kx_aload_n (pc := 10) (kx_dd d_Tc_spread 6 rfl) rfl rfl ?_
    refine kx_getI (pc := 11) fl_Tc_148 (hs.k 0 rfl) rfl (kx_dd d_Tc_spread 7 rfl) ?_
    rw [hif]
    refine kx_invV (pc := 14) (a := 0) (as := [_]) (kx_dd d_Tc_spread 8 rfl) ⟨lk_Tc_151, wi_Tc_versionAt, we_Tc_versionAt⟩ w_Tc_versionAt (hs.k 0 rfl) rfl rfl rfl rfl (Nat.le_of_ble_eq_true rfl) (x_Tc_versionV (d := d + 4) hs AV DV V hV u hu) (Nat.le_refl _) ⟨Nat.le_refl _, Nat.le_refl _⟩ (fun v h' hq => ?_)
    obtain ⟨rfl, he⟩ := hq
    rw [he]
    clear he
    refine kx_astore_ne (pc := 17) (lv' := [_, _, _, _, _, _, _, _]) (kx_dd d_Tc_spread 9 rfl) rfl (Nat.le_of_ble_eq_true rfl) rfl ?_
    refine kx_aload_n (pc := 18) (kx_dd d_Tc_spread 10 rfl) rfl rfl ?_
    refine kx_ifnull (pc := 19) (kx_dd d_Tc_spread 11 rfl) ?_
    refine kx_aload_n (pc := 22) (kx_dd d_Tc_spread 12 rfl) rfl rfl ?_
    refine kx_ifnonnull (pc := 23) (tgt := 29) (kx_dd d_Tc_spread 13 rfl) rfl ?_
    refine kx_aload_n (pc := 29) (kx_dd d_Tc_spread 16 rfl) rfl rfl ?_
    refine kx_getI (pc := 30) fl_Tc_239 (congrArg Prod.fst (hp.2.2.2.2.1.2 a9 ha9).2.2.1) rfl (kx_dd d_Tc_spread 17 rfl) ?_
    refine kx_iconst (pc := 33) (v := 2) (kx_dd d_Tc_spread 18 rfl) rfl ?_
    refine kx_icmp_eq (pc := 34) (tgt := 40) (kx_dd d_Tc_spread 19 rfl) rfl (fun c34 => ?_) (fun c34 => ?_)
    · rw [e1, show (2 : Int32) = nI 2 from rfl, nI_eq (by omega) (by decide)] at c34
      refine kx_iconst (pc := 40) (v := 0) (kx_dd d_Tc_spread 22 rfl) rfl ?_
      refine kx_istore_e (pc := 41) (lv' := [_, _, _, _, _, _, _, _]) (kx_dd d_Tc_spread 23 rfl) (Nat.le_of_ble_eq_true rfl) rfl ?_
      refine kx_iconst (pc := 43) (v := 0) (kx_dd d_Tc_spread 24 rfl) rfl ?_
      refine kx_istore_e (pc := 44) (lv' := [_, _, _, _, _, _, _, _]) (kx_dd d_Tc_spread 25 rfl) (Nat.le_of_ble_eq_true rfl) rfl ?_
      refine kx_mono (fun v h' z => ?_) (x_spread_loop h D A ho AV DV V u hu hse td htd hfi a9 ha9 _ D.2.2.1.1 0 (by omega) h _ _ hs hp hV hck kx_Fc.rf)
      have e : sprR D (V u) td (nI a9) = (nI (sprK (V u) td a9 D D.2.2.1.1).1, (sprK (V u) td a9 D D.2.2.1.1).2) := by unfold sprR; rw [if_pos e9, nI_clamp (by omega), if_pos c34]
      rw [e]
      exact z
    · refine kx_bipush (pc := 37) (v := -4) (kx_dd d_Tc_spread 20 rfl) rfl ?_
      refine kx_iret (pc := 39) rfl (kx_dd d_Tc_spread 21 rfl) (Nat.le_refl _) (Nat.le_refl _) ?_
      rw [e1, show (2 : Int32) = nI 2 from rfl, nI_eq (by omega) (by decide)] at c34
      dsimp only
      exact DkQ.of (by unfold sprR; rw [if_pos e9, nI_clamp (by omega), if_neg c34]) ho hp kx_Fc.rf
  · skip
    refine kx_enter_e (lv := [_, _, _, _, _, _, _, _]) (by decide +kernel) (Nat.le_of_ble_eq_true rfl) rfl ?_
    refine kx_aload_n (pc := 0) (kx_dd d_Tc_spread 0 rfl) rfl rfl ?_
    refine kx_getR (pc := 1) (b := 39) fl_Tc_57 (hs.k 0 rfl) rfl (hs.r 6 rfl) (kx_dd d_Tc_spread 1 rfl) ?_
    refine kx_iload_n (pc := 4) (kx_dd d_Tc_spread 2 rfl) rfl rfl ?_
    refine kx_invV (pc := 5) (a := 39) (as := [_]) (kx_dd d_Tc_spread 3 rfl) ⟨lk_Tc_190, wi_Do_claimAt, we_Do_claimAt⟩ w_Do_claimAt (hs.k 39 rfl) rfl rfl rfl rfl (Nat.le_of_ble_eq_true rfl) (x_Do_claimAtN (d := d + 4) hs D A ho hp a e9) (Nat.le_refl _) ⟨Nat.le_refl _, Nat.le_refl _⟩ (fun v h' hq => ?_)
    obtain ⟨rfl, he⟩ := hq
    rw [he]
    clear he
    refine kx_astore_neN (pc := 8) (lv' := [_, _, _, _, _, _, _, _]) (kx_dd d_Tc_spread 4 rfl) rfl (Nat.le_of_ble_eq_true rfl) rfl ?_
    refine kx_aload_n (pc := 9) (kx_dd d_Tc_spread 5 rfl) rfl rfl ?_
    refine kx_aload_n (pc := 10) (kx_dd d_Tc_spread 6 rfl) rfl rfl ?_
    refine kx_getI (pc := 11) fl_Tc_148 (hs.k 0 rfl) rfl (kx_dd d_Tc_spread 7 rfl) ?_
    rw [hif]
    refine kx_invV (pc := 14) (a := 0) (as := [_]) (kx_dd d_Tc_spread 8 rfl) ⟨lk_Tc_151, wi_Tc_versionAt, we_Tc_versionAt⟩ w_Tc_versionAt (hs.k 0 rfl) rfl rfl rfl rfl (Nat.le_of_ble_eq_true rfl) (x_Tc_versionV (d := d + 4) hs AV DV V hV u hu) (Nat.le_refl _) ⟨Nat.le_refl _, Nat.le_refl _⟩ (fun v h' hq => ?_)
    obtain ⟨rfl, he⟩ := hq
    rw [he]
    clear he
    refine kx_astore_ne (pc := 17) (lv' := [_, _, _, _, _, _, _, _]) (kx_dd d_Tc_spread 9 rfl) rfl (Nat.le_of_ble_eq_true rfl) rfl ?_
    refine kx_aload_nN (pc := 18) (kx_dd d_Tc_spread 10 rfl) rfl rfl ?_
    refine kx_ifnullN (pc := 19) (tgt := 26) (kx_dd d_Tc_spread 11 rfl) rfl ?_
    refine kx_bipush (pc := 26) (v := -2) (kx_dd d_Tc_spread 14 rfl) rfl ?_
    refine kx_iret (pc := 28) rfl (kx_dd d_Tc_spread 15 rfl) (Nat.le_refl _) (Nat.le_refl _) ?_
    dsimp only
    exact DkQ.of (if_neg e9) ho hp kx_Fc.rf
theorem y_spread_loop {l : Launch} {g : kx_G} {d : Nat} (h0 : kx_Mem) (nw : Nat) (T : Nat → Nat) (hwt : WTok nw T) (D : DK) (ho : DKok D) (r : RU) (u : Nat) (hu : u < 4) (hro : RUok r) (hse : RSet r) (td : Nat) (htd : td ≤ 1999) (hfi : ∀ c, c < D.2.2.1.1 → cN D.2.2.1 c 5 ≤ td) (c9 : Nat) (hc0 : c9 < D.2.2.1.1) : ∀ n k, k + n = D.2.2.1.1 → ∀ h w4 w5 w6, SM h → DKm (sprK r td c9 D k).2 nw T h → RUm r u nw T h → h.1 84 31 = nI u → h.1 84 36 = nI td → kx_Fc (FvM D.2.2.1.1) h0 h → kx_X (l, g, m_Mo_spread, d + 8, 0, 0, (fun v h' => DkQ (nI (sprK r td c9 D D.2.2.1.1).1, (sprK r td c9 D D.2.2.1.1).2) (fun D h => DKm D nw T h) (FvM D.2.2.1.1) h0 v h')) 0 0 28 [some (.ref 84), some (.int (nI c9)), some (.int (nI (sprK r td c9 D k).1)), some (.int (nI k)), w4, w5, w6] [] (h) := by
  intro n
  induction n with
  | zero =>
    intro k hk h w4 w5 w6 hm hp hrp hif hck hF
    have hk0 : k = D.2.2.1.1 := by omega
    subst hk0
    obtain ⟨ho1, n1, f1, b1⟩ := sprK_ok ho hse (c := c9) htd D.2.2.1.1 (Nat.le_refl _)
    obtain ⟨D1, hD1⟩ : ∃ D1, (sprK r td c9 D D.2.2.1.1).2 = D1 := ⟨_, rfl⟩
    rw [hD1] at ho1 n1 hp
    have e51 : h.1 84 51 = nI D.2.2.1.1 := by rw [← n1]; exact hp.2.2.1.1
    refine kx_iload_n (pc := 28) (kx_dd d_Mo_spread 18 rfl) rfl rfl ?_
    refine kx_aload_n (pc := 29) (kx_dd d_Mo_spread 19 rfl) rfl rfl ?_
    refine kx_getI (pc := 30) fl_Mo_510 (hm.k 0 rfl) rfl (kx_dd d_Mo_spread 20 rfl) ?_
    refine kx_icmp_ge (pc := 33) (tgt := 120) (kx_dd d_Mo_spread 21 rfl) rfl (fun c33 => ?_) (fun c33 => ?_)
    · refine kx_iload_n (pc := 120) (kx_dd d_Mo_spread 69 rfl) rfl rfl ?_
      refine kx_iret (pc := 121) rfl (kx_dd d_Mo_spread 70 rfl) (Nat.le_refl _) (Nat.le_refl _) ?_
      dsimp only
      exact DkQ.of rfl (by rw [hD1]; exact ho1) (by rw [hD1]; exact hp) hF
    · exact absurd (by rw [e51]; exact Int32.le_refl _) c33
  | succ n ih =>
    intro k hk h w4 w5 w6 hm hp hrp hif hck hF
    obtain ⟨ho1, n1, f1, b1⟩ := sprK_ok ho hse (c := c9) htd k (by omega)
    obtain ⟨D1, hD1⟩ : ∃ D1, (sprK r td c9 D k).2 = D1 := ⟨_, rfl⟩
    rw [hD1] at ho1 n1 f1 hp
    have hc9 : c9 < D1.2.2.1.1 := by omega
    have o1 := ho.2.2.1.1
    have e51 : h.1 84 51 = nI D.2.2.1.1 := by rw [← n1]; exact hp.2.2.1.1
    have hk : k < D1.2.2.1.1 := by omega
    have e8 : h.1 130 k = nI (cN D1.2.2.1 k 8) := ((hp.2.2.1.2 k hk).1 8 (by decide) (by decide) (by decide)).trans ((ho1.2.2.1.2 k hk).1 8 (by decide) (by decide) (by decide) (by decide))
    have b8 : cN D1.2.2.1 k 8 ≤ 3 := (ho1.2.2.1.2 k hk).2.2.2.2.2.2.2.2.2.1
    have hdu := dueF_le ho1 (r := r) (td := td) hk
    obtain ⟨-, -, -, -, -, -, -, -, -, -, q9, -, -, -, -, q16, -⟩ := ho1.2.2.1.2 c9 hc9
    refine kx_iload_n (pc := 28) (kx_dd d_Mo_spread 18 rfl) rfl rfl ?_
    refine kx_aload_n (pc := 29) (kx_dd d_Mo_spread 19 rfl) rfl rfl ?_
    refine kx_getI (pc := 30) fl_Mo_510 (hm.k 0 rfl) rfl (kx_dd d_Mo_spread 20 rfl) ?_
    refine kx_icmp_ge (pc := 33) (tgt := 120) (kx_dd d_Mo_spread 21 rfl) rfl (fun c33 => ?_) (fun c33 => ?_)
    · exact absurd c33 (by rw [e51]; exact nI_ge (by omega) (by omega))
    · refine kx_aload_n (pc := 36) (kx_dd d_Mo_spread 22 rfl) rfl rfl ?_
      refine kx_getR (pc := 37) (b := 130) fl_Mo_348 (hm.k 0 rfl) rfl (hm.r 45 rfl) (kx_dd d_Mo_spread 23 rfl) ?_
      refine kx_iload_n (pc := 40) (kx_dd d_Mo_spread 24 rfl) rfl rfl ?_
      refine kx_ialdn (pc := 41) k (hm.t 46 rfl) rfl (by omega) (by decide) (kx_dd d_Mo_spread 25 rfl) ?_
      refine kx_if_ne (pc := 42) (tgt := 114) (kx_dd d_Mo_spread 26 rfl) rfl (fun c42 => ?_) (fun c42 => ?_)
      · refine kx_iinc_e (pc := 114) (v := nI (k + 1)) (lv' := [_, _, _, _, _, _, _]) (kx_dd d_Mo_spread 67 rfl) rfl (Nat.le_of_ble_eq_true rfl) (nI_1 k) rfl ?_
        refine kx_goto (pc := 117) (tgt := 28) (kx_dd d_Mo_spread 68 rfl) rfl ?_
        rw [e8, nI_z (by omega)] at c42
        have e := sprK_n (r := r) (td := td) (c := c9) hD1 (fun z => c42 z.1)
        have ih1 := ih (k + 1) (by omega)
        rw [e] at ih1
        exact ih1 _ _ _ _ hm (by rw [hD1]; exact hp) hrp hif hck hF
      · rw [e8, nI_z (by omega)] at c42
        refine kx_aload_n (pc := 45) (kx_dd d_Mo_spread 27 rfl) rfl rfl ?_
        refine kx_iload_n (pc := 46) (kx_dd d_Mo_spread 28 rfl) rfl rfl ?_
        refine kx_iload_n (pc := 47) (kx_dd d_Mo_spread 29 rfl) rfl rfl ?_
        refine kx_invV (pc := 48) (a := 84) (as := [_, _]) (kx_dd d_Mo_spread 30 rfl) ⟨lk_Mo_585, wi_Mo_areLike, we_Mo_areLike⟩ w_Mo_areLike (hm.k 0 rfl) rfl rfl rfl rfl (Nat.le_of_ble_eq_true rfl) (y_areLike (d := d + 6) hm nw T hwt D1 ho1 hp r u hu hse hrp hif c9 k hc9 hk) (Nat.le_refl _) ⟨Nat.le_refl _, Nat.le_refl _⟩ (fun v h' hq => ?_)
        obtain ⟨rfl, he⟩ := hq
        rw [he]
        clear he
        refine kx_if_ne (pc := 51) (tgt := 57) (kx_dd d_Mo_spread 31 rfl) rfl (fun c51 => ?_) (fun c51 => ?_)
        · refine kx_aload_n (pc := 57) (kx_dd d_Mo_spread 33 rfl) rfl rfl ?_
          refine kx_iload_n (pc := 58) (kx_dd d_Mo_spread 34 rfl) rfl rfl ?_
          refine kx_invV (pc := 59) (a := 84) (as := [_]) (kx_dd d_Mo_spread 35 rfl) ⟨lk_Mo_564, wi_Mo_dueOf, we_Mo_dueOf⟩ w_Mo_dueOf (hm.k 0 rfl) rfl rfl rfl rfl (Nat.le_of_ble_eq_true rfl) (y_dueOf (d := d + 1) hm nw T hwt D1 ho1 hp r td u hu hro hrp hif hck (by omega) k hk) (Nat.le_refl _) ⟨Nat.le_refl _, Nat.le_refl _⟩ (fun v h' hq => ?_)
          revert h'
          intro h1 hq
          obtain ⟨rfl, hf9⟩ := hq
          have hm : SM h1 := hm.fc hf9
          have hp : DKm D1 nw T h1 := hp.fd hf9
          have hrp : RUm r u nw T h1 := hrp.fd hf9
          have hif : h1.1 84 31 = nI u := by rw [hf9.2 84 31 (by unfold FdM FT; omega)]; exact hif
          have hck : h1.1 84 36 = nI td := by rw [hf9.2 84 36 (by unfold FdM FT; omega)]; exact hck
          have hF : kx_Fc (FvM D.2.2.1.1) h0 h1 := hF.tr (hf9.mono (fun a j z => Or.inl z))
          have e16 : h1.1 138 c9 = nI (cN D1.2.2.1 c9 16) := ((hp.2.2.1.2 c9 hc9).1 16 (by decide) (by decide) (by decide)).trans ((ho1.2.2.1.2 c9 hc9).1 16 (by decide) (by decide) (by decide) (by decide))
          have e9 : h1.1 131 c9 = nI (cN D1.2.2.1 c9 9) := ((hp.2.2.1.2 c9 hc9).1 9 (by decide) (by decide) (by decide)).trans ((ho1.2.2.1.2 c9 hc9).1 9 (by decide) (by decide) (by decide) (by decide))
          refine kx_i2l (pc := 62) (kx_dd d_Mo_spread 36 rfl) ?_
          refine kx_lstore_e (pc := 63) (lv' := [_, _, _, _, _, _, _]) (kx_dd d_Mo_spread 37 rfl) (Nat.le_of_ble_eq_true rfl) rfl ?_
          refine kx_aload_n (pc := 65) (kx_dd d_Mo_spread 38 rfl) rfl rfl ?_
          refine kx_getR (pc := 66) (b := 138) fl_Mo_372 (hm.k 0 rfl) rfl (hm.r 53 rfl) (kx_dd d_Mo_spread 39 rfl) ?_
          refine kx_iload_n (pc := 69) (kx_dd d_Mo_spread 40 rfl) rfl rfl ?_
          refine kx_ialdn (pc := 70) c9 (hm.t 54 rfl) rfl (by omega) (by decide) (kx_dd d_Mo_spread 41 rfl) ?_
          refine kx_if_ne (pc := 71) (tgt := 78) (kx_dd d_Mo_spread 42 rfl) rfl (fun c71 => ?_) (fun c71 => ?_)
          · rw [e16, nI_z (by omega)] at c71
            refine kx_lload (pc := 78) (kx_dd d_Mo_spread 45 rfl) rfl ?_
            refine kx_lload (pc := 80) (kx_dd d_Mo_spread 46 rfl) rfl ?_
            refine kx_aload_n (pc := 82) (kx_dd d_Mo_spread 47 rfl) rfl rfl ?_
            refine kx_getR (pc := 83) (b := 131) fl_Mo_351 (hm.k 0 rfl) rfl (hm.r 46 rfl) (kx_dd d_Mo_spread 48 rfl) ?_
            refine kx_iload_n (pc := 86) (kx_dd d_Mo_spread 49 rfl) rfl rfl ?_
            refine kx_ialdn (pc := 87) c9 (hm.t 47 rfl) rfl (by omega) (by decide) (kx_dd d_Mo_spread 50 rfl) ?_
            refine kx_i2l (pc := 88) (kx_dd d_Mo_spread 51 rfl) ?_
            refine kx_lmul (pc := 89) (kx_dd d_Mo_spread 52 rfl) ?_
            refine kx_aload_n (pc := 90) (kx_dd d_Mo_spread 53 rfl) rfl rfl ?_
            refine kx_getR (pc := 91) (b := 138) fl_Mo_372 (hm.k 0 rfl) rfl (hm.r 53 rfl) (kx_dd d_Mo_spread 54 rfl) ?_
            refine kx_iload_n (pc := 94) (kx_dd d_Mo_spread 55 rfl) rfl rfl ?_
            refine kx_ialdn (pc := 95) c9 (hm.t 54 rfl) rfl (by omega) (by decide) (kx_dd d_Mo_spread 56 rfl) ?_
            refine kx_i2l (pc := 96) (kx_dd d_Mo_spread 57 rfl) ?_
            refine kx_ldiv (pc := 97) (kx_dd d_Mo_spread 58 rfl) (by rw [e16]; exact dv_ne (by omega) (by omega)) ?_
            refine kx_mminL (pc := 98) mk_Mo_517 (kx_dd d_Mo_spread 59 rfl) (Nat.le_of_ble_eq_true rfl) (Nat.le_of_ble_eq_true rfl) (Nat.le_refl _) (Nat.le_refl _) ?_
            refine kx_l2i (pc := 101) (kx_dd d_Mo_spread 60 rfl) ?_
            rw [e16, e9, meaI hdu q9 q16 c71]
            refine kx_istore_e (pc := 102) (lv' := [_, _, _, _, _, _, _]) (kx_dd d_Mo_spread 61 rfl) (Nat.le_of_ble_eq_true rfl) rfl ?_
            refine kx_aload_n (pc := 104) (kx_dd d_Mo_spread 62 rfl) rfl rfl ?_
            refine kx_iload_n (pc := 105) (kx_dd d_Mo_spread 63 rfl) rfl rfl ?_
            refine kx_iload (pc := 106) (kx_dd d_Mo_spread 64 rfl) rfl ?_
            refine kx_invV (pc := 108) (a := 84) (as := [_, _]) (kx_dd d_Mo_spread 65 rfl) ⟨lk_Mo_576, wi_Mo_decide, we_Mo_decide⟩ w_Mo_decide (hm.k 0 rfl) rfl rfl rfl rfl (Nat.le_of_ble_eq_true rfl) (y_decide (d := d) hm nw T hwt D1 ho1 hp r td u hu hro hse hrp hif hck htd k hk (by rw [f1]; exact hfi k (by omega)) (meaF (dueF D1 r td k) (cN D1.2.2.1 c9 9) (cN D1.2.2.1 c9 16)) (Nat.le_trans meaF_le hdu) (by omega)) (Nat.le_refl _) ⟨Nat.le_refl _, Nat.le_refl _⟩ (fun v h' hq => ?_)
            revert h'
            intro h2 hq
            obtain ⟨rfl, hp2, hf2⟩ := hq
            refine kx_iinc_e (pc := 111) (v := nI ((sprK r td c9 D k).1 + 1)) (lv' := [_, _, _, _, _, _, _]) (kx_dd d_Mo_spread 66 rfl) rfl (Nat.le_of_ble_eq_true rfl) (nI_1 _) rfl ?_
            refine kx_iinc_e (pc := 114) (v := nI (k + 1)) (lv' := [_, _, _, _, _, _, _]) (kx_dd d_Mo_spread 67 rfl) rfl (Nat.le_of_ble_eq_true rfl) (nI_1 k) rfl ?_
            refine kx_goto (pc := 117) (tgt := 28) (kx_dd d_Mo_spread 68 rfl) rfl ?_
            have e := sprK_y (r := r) (td := td) (c := c9) hD1 ⟨c42, likP_comm.mp ((bP_ti _).mp c51)⟩
            have ih1 := ih (k + 1) (by omega)
            rw [e] at ih1
            exact ih1 _ _ _ _ (hm.fc hf2) hp2 (hrp.fD hf2) (by rw [hf2.2 84 31 (by unfold FdD FdM FT; omega)]; exact hif) (by rw [hf2.2 84 36 (by unfold FdD FdM FT; omega)]; exact hck) (hF.tr (hf2.mono (fun a j z => z.elim Or.inl (fun y => Or.inr ⟨y.1, y.2.1, by have := y.2.2; omega⟩))))
          · refine kx_iconst (pc := 74) (v := 0) (kx_dd d_Mo_spread 43 rfl) rfl ?_
            refine kx_goto (pc := 75) (tgt := 102) (kx_dd d_Mo_spread 44 rfl) rfl ?_
            rw [e16, nI_z (by omega)] at c71
            rw [show (0 : Int32) = nI (meaF (dueF D1 r td k) (cN D1.2.2.1 c9 9) (cN D1.2.2.1 c9 16)) from by unfold meaF; rw [if_pos c71]; rfl]
            refine kx_istore_e (pc := 102) (lv' := [_, _, _, _, _, _, _]) (kx_dd d_Mo_spread 61 rfl) (Nat.le_of_ble_eq_true rfl) rfl ?_
            refine kx_aload_n (pc := 104) (kx_dd d_Mo_spread 62 rfl) rfl rfl ?_
            refine kx_iload_n (pc := 105) (kx_dd d_Mo_spread 63 rfl) rfl rfl ?_
            refine kx_iload (pc := 106) (kx_dd d_Mo_spread 64 rfl) rfl ?_
            refine kx_invV (pc := 108) (a := 84) (as := [_, _]) (kx_dd d_Mo_spread 65 rfl) ⟨lk_Mo_576, wi_Mo_decide, we_Mo_decide⟩ w_Mo_decide (hm.k 0 rfl) rfl rfl rfl rfl (Nat.le_of_ble_eq_true rfl) (y_decide (d := d) hm nw T hwt D1 ho1 hp r td u hu hro hse hrp hif hck htd k hk (by rw [f1]; exact hfi k (by omega)) (meaF (dueF D1 r td k) (cN D1.2.2.1 c9 9) (cN D1.2.2.1 c9 16)) (Nat.le_trans meaF_le hdu) (by omega)) (Nat.le_refl _) ⟨Nat.le_refl _, Nat.le_refl _⟩ (fun v h' hq => ?_)
            revert h'
            intro h2 hq
            obtain ⟨rfl, hp2, hf2⟩ := hq
            refine kx_iinc_e (pc := 111) (v := nI ((sprK r td c9 D k).1 + 1)) (lv' := [_, _, _, _, _, _, _]) (kx_dd d_Mo_spread 66 rfl) rfl (Nat.le_of_ble_eq_true rfl) (nI_1 _) rfl ?_
            refine kx_iinc_e (pc := 114) (v := nI (k + 1)) (lv' := [_, _, _, _, _, _, _]) (kx_dd d_Mo_spread 67 rfl) rfl (Nat.le_of_ble_eq_true rfl) (nI_1 k) rfl ?_
            refine kx_goto (pc := 117) (tgt := 28) (kx_dd d_Mo_spread 68 rfl) rfl ?_
            have e := sprK_y (r := r) (td := td) (c := c9) hD1 ⟨c42, likP_comm.mp ((bP_ti _).mp c51)⟩
            have ih1 := ih (k + 1) (by omega)
            rw [e] at ih1
            exact ih1 _ _ _ _ (hm.fc hf2) hp2 (hrp.fD hf2) (by rw [hf2.2 84 31 (by unfold FdD FdM FT; omega)]; exact hif) (by rw [hf2.2 84 36 (by unfold FdD FdM FT; omega)]; exact hck) (hF.tr (hf2.mono (fun a j z => z.elim Or.inl (fun y => Or.inr ⟨y.1, y.2.1, by have := y.2.2; omega⟩))))
        · refine kx_goto (pc := 54) (tgt := 114) (kx_dd d_Mo_spread 32 rfl) rfl ?_
          refine kx_iinc_e (pc := 114) (v := nI (k + 1)) (lv' := [_, _, _, _, _, _, _]) (kx_dd d_Mo_spread 67 rfl) rfl (Nat.le_of_ble_eq_true rfl) (nI_1 k) rfl ?_
          refine kx_goto (pc := 117) (tgt := 28) (kx_dd d_Mo_spread 68 rfl) rfl ?_
          have e := sprK_n (r := r) (td := td) (c := c9) hD1 (fun z => bP_0.mp c51 (likP_comm.mp z.2))
          have ih1 := ih (k + 1) (by omega)
          rw [e] at ih1
          exact ih1 _ _ _ _ hm (by rw [hD1]; exact hp) hrp hif hck hF
theorem y_spread {l : Launch} {g : kx_G} {d : Nat} {h : kx_Mem} (hm : SM h) (nw : Nat) (T : Nat → Nat) (hwt : WTok nw T) (D : DK) (ho : DKok D) (hp : DKm D nw T h) (r : RU) (u : Nat) (hu : u < 4) (hro : RUok r) (hse : RSet r) (hrp : RUm r u nw T h) (hif : h.1 84 31 = nI u) (td : Nat) (htd : td ≤ 1999) (hck : h.1 84 36 = nI td) (hfi : ∀ c, c < D.2.2.1.1 → cN D.2.2.1 c 5 ≤ td) (a : Int32) : kx_Sp l g m_Mo_spread [.ref 84, .int a] h (d + 8) 0 0 (fun v h' => DkQ (sprR D r td a) (fun D h => DKm D nw T h) (FvM D.2.2.1.1) h v h') := by
  have o1 := ho.2.2.1.1
  refine kx_enter_e (lv := [_, _, _, _, _, _, _]) (by decide +kernel) (Nat.le_of_ble_eq_true rfl) rfl ?_
  refine kx_aload_n (pc := 0) (kx_dd d_Mo_spread 0 rfl) rfl rfl ?_
  refine kx_iload_n (pc := 1) (kx_dd d_Mo_spread 1 rfl) rfl rfl ?_
  refine kx_invV (pc := 2) (a := 84) (as := [_]) (kx_dd d_Mo_spread 2 rfl) ⟨lk_Mo_520, wi_Mo_isClaim, we_Mo_isClaim⟩ w_Mo_isClaim (hm.k 0 rfl) rfl rfl rfl rfl (Nat.le_of_ble_eq_true rfl) (y_isClaim (d := d + 6) hm nw T hwt D ho hp a) (Nat.le_refl _) ⟨Nat.le_refl _, Nat.le_refl _⟩ (fun v h' hq => ?_)
  obtain ⟨rfl, he⟩ := hq
  rw [he]
  clear he
  refine kx_if_ne (pc := 5) (tgt := 11) (kx_dd d_Mo_spread 3 rfl) rfl (fun c5 => ?_) (fun c5 => ?_)
  · have c5 := (bP_ti _).mp c5
    obtain ⟨a9, ha9, rfl⟩ := valP (n := D.2.2.1.1) (by omega) c5
    have e1 : h.1 130 a9 = nI (cN D.2.2.1 a9 8) := ((hp.2.2.1.2 a9 ha9).1 8 (by decide) (by decide) (by decide)).trans ((ho.2.2.1.2 a9 ha9).1 8 (by decide) (by decide) (by decide) (by decide))
    have b8 : cN D.2.2.1 a9 8 ≤ 3 := (ho.2.2.1.2 a9 ha9).2.2.2.2.2.2.2.2.2.1
    refine kx_aload_n (pc := 11) (kx_dd d_Mo_spread 6 rfl) rfl rfl ?_
    refine kx_getR (pc := 12) (b := 130) fl_Mo_348 (hm.k 0 rfl) rfl (hm.r 45 rfl) (kx_dd d_Mo_spread 7 rfl) ?_
    refine kx_iload_n (pc := 15) (kx_dd d_Mo_spread 8 rfl) rfl rfl ?_
    refine kx_ialdn (pc := 16) a9 (hm.t 46 rfl) rfl (by omega) (by decide) (kx_dd d_Mo_spread 9 rfl) ?_
    refine kx_iconst (pc := 17) (v := 2) (kx_dd d_Mo_spread 10 rfl) rfl ?_
    refine kx_icmp_eq (pc := 18) (tgt := 24) (kx_dd d_Mo_spread 11 rfl) rfl (fun c18 => ?_) (fun c18 => ?_)
    · rw [e1, show (2 : Int32) = nI 2 from rfl, nI_eq (by omega) (by decide)] at c18
      refine kx_iconst (pc := 24) (v := 0) (kx_dd d_Mo_spread 14 rfl) rfl ?_
      refine kx_istore_ne (pc := 25) (lv' := [_, _, _, _, _, _, _]) (kx_dd d_Mo_spread 15 rfl) rfl (Nat.le_of_ble_eq_true rfl) rfl ?_
      refine kx_iconst (pc := 26) (v := 0) (kx_dd d_Mo_spread 16 rfl) rfl ?_
      refine kx_istore_ne (pc := 27) (lv' := [_, _, _, _, _, _, _]) (kx_dd d_Mo_spread 17 rfl) rfl (Nat.le_of_ble_eq_true rfl) rfl ?_
      refine kx_mono (fun v h' z => ?_) (y_spread_loop h nw T hwt D ho r u hu hro hse td htd hfi a9 ha9 D.2.2.1.1 0 (by omega) h _ _ _ hm hp hrp hif hck kx_Fc.rf)
      have e : sprR D r td (nI a9) = (nI (sprK r td a9 D D.2.2.1.1).1, (sprK r td a9 D D.2.2.1.1).2) := by unfold sprR; rw [if_pos c5, nI_clamp (by omega), if_pos c18]
      rw [e]
      exact z
    · refine kx_bipush (pc := 21) (v := -4) (kx_dd d_Mo_spread 12 rfl) rfl ?_
      refine kx_iret (pc := 23) rfl (kx_dd d_Mo_spread 13 rfl) (Nat.le_refl _) (Nat.le_refl _) ?_
      rw [e1, show (2 : Int32) = nI 2 from rfl, nI_eq (by omega) (by decide)] at c18
      dsimp only
      exact DkQ.of (by unfold sprR; rw [if_pos c5, nI_clamp (by omega), if_neg c18]) ho hp kx_Fc.rf
  · refine kx_bipush (pc := 8) (v := -2) (kx_dd d_Mo_spread 4 rfl) rfl ?_
    refine kx_iret (pc := 10) rfl (kx_dd d_Mo_spread 5 rfl) (Nat.le_refl _) (Nat.le_refl _) ?_
    dsimp only
    exact DkQ.of (if_neg (bP_0.mp c5)) ho hp kx_Fc.rf
