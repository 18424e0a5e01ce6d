/-! top-level: again, fund, count -/
def reoD (D : DK) (c : Nat) : DK := setCf (setCf (setCf (setCf D c 8 0) c 9 0) c 10 0) c 12 (-1)
theorem reoD_ok {D : DK} (ho : DKok D) {c : Nat} : DKok (reoD D c) := (((ho.set (by decide) (Or.inr ⟨0, rfl, by decide⟩)).set (by decide) (Or.inr ⟨0, rfl, by decide⟩)).set (by decide) (Or.inr ⟨0, rfl, by decide⟩)).set (by decide) (Or.inl (Or.inr rfl))
noncomputable def agaR (D : DK) (r : RU) (td : Nat) (a : Int32) : Int32 × DK :=
  if 0 ≤ a ∧ a < nI D.2.2.1.1 then
    if cN D.2.2.1 a.toNatClampNeg 8 = 2 ∧ nI td - D.2.2.1.2.1 a.toNatClampNeg 12 ≤ ruS r 9 then
      if faiF D r a.toNatClampNeg td = cN D.2.2.1 a.toNatClampNeg 15 ∧ dueF D r td a.toNatClampNeg = cN D.2.2.1 a.toNatClampNeg 16 then (0, D)
      else (1, reoD D a.toNatClampNeg)
    else (-4, D)
  else (-2, D)
theorem x_Tc_again {l : Launch} {g : kx_G} {d : Nat} {h : kx_Mem} (hs : SC h) (D : DK) (A : DA) (ho : DKok D) (hp : DKc D A h) (AV : Nat → Nat) (DV : Nat) (V : Nat → RU) (hV : CVs AV DV V h) (u : Nat) (hu : u < 4) (hif : h.1 0 10 = nI u) (hse : RSet (V u)) (td : Nat) (htd : td ≤ 1999) (hck : h.1 0 9 = nI td) (hfi : ∀ c, c < D.2.2.1.1 → cN D.2.2.1 c 5 ≤ td) (a : Int32) : kx_Sp l g m_Tc_again [.ref 0, .int a] h (d + 6) 0 0 (fun v h' => DkQ (agaR D (V u) td a) (fun D h => DKc D A h) FvC h v h') := by
  have o1 := ho.2.2.1.1
  by_cases e9 : 0 ≤ a ∧ a < nI D.2.2.1.1
  · skip
    obtain ⟨a9, ha9, rfl⟩ := valP (n := D.2.2.1.1) (by omega) e9
    have e1 : h.1 (A.1 a9) 8 = nI (cN D.2.2.1 a9 8) := ((hp.2.2.2.2.1.2 a9 ha9).2.2.2.1 8 (by decide) (by decide)).trans ((ho.2.2.1.2 a9 ha9).1 8 (by decide) (by decide) (by decide) (by decide))
    have e15 : h.1 (A.1 a9) 15 = nI (cN D.2.2.1 a9 15) := ((hp.2.2.2.2.1.2 a9 ha9).2.2.2.1 15 (by decide) (by decide)).trans ((ho.2.2.1.2 a9 ha9).1 15 (by decide) (by decide) (by decide) (by decide))
    have e12 : h.1 (A.1 a9) 12 = D.2.2.1.2.1 a9 12 := (hp.2.2.2.2.1.2 a9 ha9).2.2.2.1 12 (by decide) (by decide)
    have e9s : h.1 (AV u + 1) 9 = ruS (V u) 9 := (hV.2.2 u hu).2.2.2.2.1.1 9 (by decide)
    obtain ⟨-, -, -, -, -, -, -, -, -, q8, -, -, -, -, q15, q16, -⟩ := ho.2.2.1.2 a9 ha9
    have fl := faiF_lt (D := D) (r := V u) (c := a9) (kn := td)
    have hdu := dueF_le ho (r := V u) (td := td) ha9
    refine kx_enter_e (lv := [_, _, _, _, _]) (by decide +kernel) (Nat.le_of_ble_eq_true rfl) rfl ?_
    refine kx_aload_n (pc := 0) (kx_dd d_Tc_again 0 rfl) rfl rfl ?_
    refine kx_getR (pc := 1) (b := 39) fl_Tc_57 (hs.k 0 rfl) rfl (hs.r 6 rfl) (kx_dd d_Tc_again 1 rfl) ?_
    refine kx_iload_n (pc := 4) (kx_dd d_Tc_again 2 rfl) rfl rfl ?_
    refine kx_invV (pc := 5) (a := 39) (as := [_]) (kx_dd d_Tc_again 3 rfl) ⟨lk_Tc_190, wi_Do_claimAt, we_Do_claimAt⟩ w_Do_claimAt (hs.k 39 rfl) rfl rfl rfl rfl (Nat.le_of_ble_eq_true rfl) (x_Do_claimAt (d := d + 2) hs D A ho hp a9 ha9) (Nat.le_refl _) ⟨Nat.le_refl _, Nat.le_refl _⟩ (fun v h' hq => ?_)
    obtain ⟨rfl, he⟩ := hq
    rw [he]
    clear he
    refine kx_astore_ne (pc := 8) (lv' := [_, _, _, _, _]) (kx_dd d_Tc_again 4 rfl) rfl (Nat.le_of_ble_eq_true rfl) rfl ?_
    refine kx_aload_n (pc := 9) (kx_dd d_Tc_again 5 rfl) rfl rfl ?_
    refine kx_aload_n (pc := 10) (kx_dd d_Tc_again 6 rfl) rfl rfl ?_
    refine kx_getI (pc := 11) fl_Tc_148 (hs.k 0 rfl) rfl (kx_dd d_Tc_again 7 rfl) ?_
    rw [hif]
    refine kx_invV (pc := 14) (a := 0) (as := [_]) (kx_dd d_Tc_again 8 rfl) ⟨lk_Tc_151, wi_Tc_versionAt, we_Tc_versionAt⟩ w_Tc_versionAt (hs.k 0 rfl) rfl rfl rfl rfl (Nat.le_of_ble_eq_true rfl) (x_Tc_versionV (d := d + 4) hs AV DV V hV u hu) (Nat.le_refl _) ⟨Nat.le_refl _, Nat.le_refl _⟩ (fun v h' hq => ?_)
    obtain ⟨rfl, he⟩ := hq
    rw [he]
    clear he
    refine kx_astore_ne (pc := 17) (lv' := [_, _, _, _, _]) (kx_dd d_Tc_again 9 rfl) rfl (Nat.le_of_ble_eq_true rfl) rfl ?_
    refine kx_aload_n (pc := 18) (kx_dd d_Tc_again 10 rfl) rfl rfl ?_
    refine kx_ifnull (pc := 19) (kx_dd d_Tc_again 11 rfl) ?_
    refine kx_aload_n (pc := 22) (kx_dd d_Tc_again 12 rfl) rfl rfl ?_
    refine kx_ifnonnull (pc := 23) (tgt := 29) (kx_dd d_Tc_again 13 rfl) rfl ?_
    refine kx_aload_n (pc := 29) (kx_dd d_Tc_again 16 rfl) rfl rfl ?_
    refine kx_getI (pc := 30) fl_Tc_239 (congrArg Prod.fst (hp.2.2.2.2.1.2 a9 ha9).2.2.1) rfl (kx_dd d_Tc_again 17 rfl) ?_
    refine kx_iconst (pc := 33) (v := 2) (kx_dd d_Tc_again 18 rfl) rfl ?_
    refine kx_icmp_ne (pc := 34) (tgt := 56) (kx_dd d_Tc_again 19 rfl) rfl (fun c34 => ?_) (fun c34 => ?_)
    · refine kx_bipush (pc := 56) (v := -4) (kx_dd d_Tc_again 30 rfl) rfl ?_
      refine kx_iret (pc := 58) rfl (kx_dd d_Tc_again 31 rfl) (Nat.le_refl _) (Nat.le_refl _) ?_
      rw [e1, show (2 : Int32) = nI 2 from rfl, nI_eq (by omega) (by decide)] at c34
      dsimp only
      exact DkQ.of (by unfold agaR; rw [if_pos e9, nI_clamp (by omega), if_neg (fun z => c34 z.1)]) ho hp kx_Fc.rf
    · rw [e1, show (2 : Int32) = nI 2 from rfl, nI_eq (by omega) (by decide)] at c34
      refine kx_aload_n (pc := 37) (kx_dd d_Tc_again 20 rfl) rfl rfl ?_
      refine kx_getI (pc := 38) fl_Tc_94 (hs.k 0 rfl) rfl (kx_dd d_Tc_again 21 rfl) ?_
      refine kx_aload_n (pc := 41) (kx_dd d_Tc_again 22 rfl) rfl rfl ?_
      refine kx_getI (pc := 42) fl_Tc_309 (congrArg Prod.fst (hp.2.2.2.2.1.2 a9 ha9).2.2.1) rfl (kx_dd d_Tc_again 23 rfl) ?_
      refine kx_isub (pc := 45) (kx_dd d_Tc_again 24 rfl) ?_
      refine kx_aload_n (pc := 46) (kx_dd d_Tc_again 25 rfl) rfl rfl ?_
      refine kx_getR (pc := 47) (b := (AV u + 1)) fl_Tc_246 (congrArg Prod.fst (IsRu.of hs (hV.2.2 u hu).2.1).1) rfl (IsRu.of hs (hV.2.2 u hu).2.1).2.2.2.2.2.2.2.2.2.1 (kx_dd d_Tc_again 26 rfl) ?_
      refine kx_bipush (pc := 50) (v := 9) (kx_dd d_Tc_again 27 rfl) rfl ?_
      refine kx_ialdn (pc := 52) 9 ((IsRu.of hs (hV.2.2 u hu).2.1).2.1) rfl (by decide) (by decide) (kx_dd d_Tc_again 28 rfl) ?_
      rw [hck, e12, e9s]
      refine kx_icmp_le (pc := 53) (tgt := 59) (kx_dd d_Tc_again 29 rfl) rfl (fun c53 => ?_) (fun c53 => ?_)
      · refine kx_aload_n (pc := 59) (kx_dd d_Tc_again 32 rfl) rfl rfl ?_
        refine kx_getR (pc := 60) (b := 39) fl_Tc_57 (hs.k 0 rfl) rfl (hs.r 6 rfl) (kx_dd d_Tc_again 33 rfl) ?_
        refine kx_aload_n (pc := 63) (kx_dd d_Tc_again 34 rfl) rfl rfl ?_
        refine kx_aload_n (pc := 64) (kx_dd d_Tc_again 35 rfl) rfl rfl ?_
        refine kx_aload_n (pc := 65) (kx_dd d_Tc_again 36 rfl) rfl rfl ?_
        refine kx_getI (pc := 66) fl_Tc_94 (hs.k 0 rfl) rfl (kx_dd d_Tc_again 37 rfl) ?_
        rw [hck]
        refine kx_invV (pc := 69) (a := 39) (as := [_, _, _]) (kx_dd d_Tc_again 38 rfl) ⟨lk_Tc_214, wi_Do_failuresOf, we_Do_failuresOf⟩ w_Do_failuresOf (hs.k 39 rfl) rfl rfl rfl rfl (Nat.le_of_ble_eq_true rfl) (x_Do_failuresOf (d := d + 1) hs D A ho hp (AV u) (IsRu.of hs (hV.2.2 u hu).2.1) (V u) (hV.2.2 u hu).2.2.2.1 (hV.2.2 u hu).2.2.2.2.1 a9 ha9 td (by omega)) (Nat.le_refl _) ⟨Nat.le_refl _, Nat.le_refl _⟩ (fun v h' hq => ?_)
        obtain ⟨rfl, he⟩ := hq
        rw [he]
        clear he
        refine kx_aload_n (pc := 72) (kx_dd d_Tc_again 39 rfl) rfl rfl ?_
        refine kx_getI (pc := 73) fl_Tc_312 (congrArg Prod.fst (hp.2.2.2.2.1.2 a9 ha9).2.2.1) rfl (kx_dd d_Tc_again 40 rfl) ?_
        refine kx_icmp_ne (pc := 76) (tgt := 83) (kx_dd d_Tc_again 41 rfl) rfl (fun c76 => ?_) (fun c76 => ?_)
        · refine kx_iconst (pc := 83) (v := 0) (kx_dd d_Tc_again 44 rfl) rfl ?_
          refine kx_istore_e (pc := 84) (lv' := [_, _, _, _, _]) (kx_dd d_Tc_again 45 rfl) (Nat.le_of_ble_eq_true rfl) rfl ?_
          refine kx_iload (pc := 86) (kx_dd d_Tc_again 46 rfl) rfl ?_
          refine kx_if_eq (pc := 88) (tgt := 113) (kx_dd d_Tc_again 47 rfl) rfl (fun _ => ?_) (fun c88 => absurd c88 (by decide))
          refine kx_aload_n (pc := 113) (kx_dd d_Tc_again 60 rfl) rfl rfl ?_
          refine kx_invV (pc := 114) (a := (A.1 a9)) (as := []) (kx_dd d_Tc_again 61 rfl) ⟨lk_Tc_318, wi_Cl_reopen, we_Cl_reopen⟩ w_Cl_reopen (congrArg Prod.fst (hp.2.2.2.2.1.2 a9 ha9).2.2.1) rfl rfl rfl rfl (Nat.le_of_ble_eq_true rfl) (x_Cl_reopen (d := d + 5) hs D A ho hp a9 ha9) (Nat.le_refl _) ⟨Nat.le_refl _, Nat.le_refl _⟩ (fun v h' hq => ?_)
          obtain ⟨rfl, he⟩ := hq
          rw [he]
          clear he
          refine kx_iconst (pc := 117) (v := 1) (kx_dd d_Tc_again 62 rfl) rfl ?_
          refine kx_iret (pc := 118) rfl (kx_dd d_Tc_again 63 rfl) (Nat.le_refl _) (Nat.le_refl _) ?_
          have hA : 154 ≤ A.1 a9 := (hp.2.2.2.2.1.2 a9 ha9).1
          rw [e15, nI_eq (by omega) (by omega)] at c76
          dsimp only
          exact DkQ.of (by unfold agaR; rw [if_pos e9, nI_clamp (by omega), if_pos ⟨c34, c53⟩, if_neg (fun z => c76 z.1)]) (reoD_ok ho) ((((hp.s (0 : Int32) ha9).s (0 : Int32) ha9).s (0 : Int32) ha9).s (-1 : Int32) ha9) (((((kx_Fc.rf).tr (kx_Fc.set (Or.inr hA))).tr (kx_Fc.set (Or.inr hA))).tr (kx_Fc.set (Or.inr hA))).tr (kx_Fc.set (Or.inr hA)))
        · refine kx_iconst (pc := 79) (v := 1) (kx_dd d_Tc_again 42 rfl) rfl ?_
          refine kx_goto (pc := 80) (tgt := 84) (kx_dd d_Tc_again 43 rfl) rfl ?_
          refine kx_istore_e (pc := 84) (lv' := [_, _, _, _, _]) (kx_dd d_Tc_again 45 rfl) (Nat.le_of_ble_eq_true rfl) rfl ?_
          refine kx_iload (pc := 86) (kx_dd d_Tc_again 46 rfl) rfl ?_
          refine kx_if_eq (pc := 88) (tgt := 113) (kx_dd d_Tc_again 47 rfl) rfl (fun c88 => absurd c88 (by decide)) (fun _ => ?_)
          rw [e15, nI_eq (by omega) (by omega)] at c76
          refine kx_aload_n (pc := 91) (kx_dd d_Tc_again 48 rfl) rfl rfl ?_
          refine kx_getR (pc := 92) (b := 39) fl_Tc_57 (hs.k 0 rfl) rfl (hs.r 6 rfl) (kx_dd d_Tc_again 49 rfl) ?_
          refine kx_aload_n (pc := 95) (kx_dd d_Tc_again 50 rfl) rfl rfl ?_
          refine kx_aload_n (pc := 96) (kx_dd d_Tc_again 51 rfl) rfl rfl ?_
          refine kx_aload_n (pc := 97) (kx_dd d_Tc_again 52 rfl) rfl rfl ?_
          refine kx_getI (pc := 98) fl_Tc_94 (hs.k 0 rfl) rfl (kx_dd d_Tc_again 53 rfl) ?_
          rw [hck]
          refine kx_invV (pc := 101) (a := 39) (as := [_, _, _]) (kx_dd d_Tc_again 54 rfl) ⟨lk_Tc_243, wi_Do_dueOf, we_Do_dueOf⟩ w_Do_dueOf (hs.k 39 rfl) rfl rfl rfl rfl (Nat.le_of_ble_eq_true rfl) (x_Do_dueOf (d := d) hs D A ho hp (AV u) (hV.2.2 u hu).2.1 (V u) (hV.2.2 u hu).2.2.2.1 (hV.2.2 u hu).2.2.2.2.1 a9 ha9 td (by omega)) (Nat.le_refl _) ⟨Nat.le_refl _, Nat.le_refl _⟩ (fun v h' hq => ?_)
          revert h'
          intro h1 hq
          obtain ⟨rfl, hf9⟩ := hq
          have hs : SC h1 := hs.fc hf9
          have hp : DKc D A h1 := hp.fd hf9
          have hV : CVs AV DV V h1 := hV.fv hf9 (fun b j q1 q2 => by unfold FdC; omega)
          have hck : h1.1 0 9 = nI td := by rw [hf9.2 0 9 (by unfold FdC; omega)]; exact hck
          have hF9 : kx_Fc FvC h h1 := hf9.mono (fun a j z => by unfold FdC at z; unfold FvC; omega)
          have e16 : h1.1 (A.1 a9) 16 = nI (cN D.2.2.1 a9 16) := ((hp.2.2.2.2.1.2 a9 ha9).2.2.2.1 16 (by decide) (by decide)).trans ((ho.2.2.1.2 a9 ha9).1 16 (by decide) (by decide) (by decide) (by decide))
          refine kx_aload_n (pc := 104) (kx_dd d_Tc_again 55 rfl) rfl rfl ?_
          refine kx_getI (pc := 105) fl_Tc_315 (congrArg Prod.fst (hp.2.2.2.2.1.2 a9 ha9).2.2.1) rfl (kx_dd d_Tc_again 56 rfl) ?_
          refine kx_icmp_ne (pc := 108) (tgt := 113) (kx_dd d_Tc_again 57 rfl) rfl (fun c108 => ?_) (fun c108 => ?_)
          · refine kx_aload_n (pc := 113) (kx_dd d_Tc_again 60 rfl) rfl rfl ?_
            refine kx_invV (pc := 114) (a := (A.1 a9)) (as := []) (kx_dd d_Tc_again 61 rfl) ⟨lk_Tc_318, wi_Cl_reopen, we_Cl_reopen⟩ w_Cl_reopen (congrArg Prod.fst (hp.2.2.2.2.1.2 a9 ha9).2.2.1) rfl rfl rfl rfl (Nat.le_of_ble_eq_true rfl) (x_Cl_reopen (d := d + 5) hs D A ho hp a9 ha9) (Nat.le_refl _) ⟨Nat.le_refl _, Nat.le_refl _⟩ (fun v h' hq => ?_)
            obtain ⟨rfl, he⟩ := hq
            rw [he]
            clear he
            refine kx_iconst (pc := 117) (v := 1) (kx_dd d_Tc_again 62 rfl) rfl ?_
            refine kx_iret (pc := 118) rfl (kx_dd d_Tc_again 63 rfl) (Nat.le_refl _) (Nat.le_refl _) ?_
            have hA : 154 ≤ A.1 a9 := (hp.2.2.2.2.1.2 a9 ha9).1
            rw [e16, nI_eq (by omega) (by omega)] at c108
            dsimp only
            exact DkQ.of (by unfold agaR; rw [if_pos e9, nI_clamp (by omega), if_pos ⟨c34, c53⟩, if_neg (fun z => c108 z.2)]) (reoD_ok ho) ((((hp.s (0 : Int32) ha9).s (0 : Int32) ha9).s (0 : Int32) ha9).s (-1 : Int32) ha9) (((((hF9).tr (kx_Fc.set (Or.inr hA))).tr (kx_Fc.set (Or.inr hA))).tr (kx_Fc.set (Or.inr hA))).tr (kx_Fc.set (Or.inr hA)))
          · refine kx_iconst (pc := 111) (v := 0) (kx_dd d_Tc_again 58 rfl) rfl ?_
            refine kx_iret (pc := 112) rfl (kx_dd d_Tc_again 59 rfl) (Nat.le_refl _) (Nat.le_refl _) ?_
            rw [e16, nI_eq (by omega) (by omega)] at c108
            dsimp only
            exact DkQ.of (by unfold agaR; rw [if_pos e9, nI_clamp (by omega), if_pos ⟨c34, c53⟩, if_pos ⟨c76, c108⟩]) ho hp hF9
      · refine kx_bipush (pc := 56) (v := -4) (kx_dd d_Tc_again 30 rfl) rfl ?_
        refine kx_iret (pc := 58) rfl (kx_dd d_Tc_again 31 rfl) (Nat.le_refl _) (Nat.le_refl _) ?_
        dsimp only
        exact DkQ.of (by unfold agaR; rw [if_pos e9, nI_clamp (by omega), if_neg (fun z => c53 z.2)]) ho hp kx_Fc.rf
  · skip
    refine kx_enter_e (lv := [_, _, _, _, _]) (by decide +kernel) (Nat.le_of_ble_eq_true rfl) rfl ?_
    refine kx_aload_n (pc := 0) (kx_dd d_Tc_again 0 rfl) rfl rfl ?_
    refine kx_getR (pc := 1) (b := 39) fl_Tc_57 (hs.k 0 rfl) rfl (hs.r 6 rfl) (kx_dd d_Tc_again 1 rfl) ?_
    refine kx_iload_n (pc := 4) (kx_dd d_Tc_again 2 rfl) rfl rfl ?_
    refine kx_invV (pc := 5) (a := 39) (as := [_]) (kx_dd d_Tc_again 3 rfl) ⟨lk_Tc_190, wi_Do_claimAt, we_Do_claimAt⟩ w_Do_claimAt (hs.k 39 rfl) rfl rfl rfl rfl (Nat.le_of_ble_eq_true rfl) (x_Do_claimAtN (d := d + 4) hs D A ho hp a e9) (Nat.le_refl _) ⟨Nat.le_refl _, Nat.le_refl _⟩ (fun v h' hq => ?_)
    obtain ⟨rfl, he⟩ := hq
    rw [he]
    clear he
    refine kx_astore_neN (pc := 8) (lv' := [_, _, _, _, _]) (kx_dd d_Tc_again 4 rfl) rfl (Nat.le_of_ble_eq_true rfl) rfl ?_
    refine kx_aload_n (pc := 9) (kx_dd d_Tc_again 5 rfl) rfl rfl ?_
    refine kx_aload_n (pc := 10) (kx_dd d_Tc_again 6 rfl) rfl rfl ?_
    refine kx_getI (pc := 11) fl_Tc_148 (hs.k 0 rfl) rfl (kx_dd d_Tc_again 7 rfl) ?_
    rw [hif]
    refine kx_invV (pc := 14) (a := 0) (as := [_]) (kx_dd d_Tc_again 8 rfl) ⟨lk_Tc_151, wi_Tc_versionAt, we_Tc_versionAt⟩ w_Tc_versionAt (hs.k 0 rfl) rfl rfl rfl rfl (Nat.le_of_ble_eq_true rfl) (x_Tc_versionV (d := d + 4) hs AV DV V hV u hu) (Nat.le_refl _) ⟨Nat.le_refl _, Nat.le_refl _⟩ (fun v h' hq => ?_)
    obtain ⟨rfl, he⟩ := hq
    rw [he]
    clear he
    refine kx_astore_ne (pc := 17) (lv' := [_, _, _, _, _]) (kx_dd d_Tc_again 9 rfl) rfl (Nat.le_of_ble_eq_true rfl) rfl ?_
    refine kx_aload_nN (pc := 18) (kx_dd d_Tc_again 10 rfl) rfl rfl ?_
    refine kx_ifnullN (pc := 19) (tgt := 26) (kx_dd d_Tc_again 11 rfl) rfl ?_
    refine kx_bipush (pc := 26) (v := -2) (kx_dd d_Tc_again 14 rfl) rfl ?_
    refine kx_iret (pc := 28) rfl (kx_dd d_Tc_again 15 rfl) (Nat.le_refl _) (Nat.le_refl _) ?_
    dsimp only
    exact DkQ.of (if_neg e9) ho hp kx_Fc.rf
theorem y_again {l : Launch} {g : kx_G} {d : Nat} {h : kx_Mem} (hm : SM h) (nw : Nat) (T : Nat → Nat) (hwt : WTok nw T) (D : DK) (ho : DKok D) (hp : DKm D nw T h) (r : RU) (u : Nat) (hu : u < 4) (hro : RUok r) (hse : RSet r) (hrp : RUm r u nw T h) (hif : h.1 84 31 = nI u) (td : Nat) (htd : td ≤ 1999) (hck : h.1 84 36 = nI td) (hfi : ∀ c, c < D.2.2.1.1 → cN D.2.2.1 c 5 ≤ td) (a : Int32) : kx_Sp l g m_Mo_again [.ref 84, .int a] h (d + 7) 0 0 (fun v h' => DkQ (agaR D r td a) (fun D h => DKm D nw T h) (FvM D.2.2.1.1) h v h') := by
  have o1 := ho.2.2.1.1
  refine kx_enter_e (lv := [_, _]) (by decide +kernel) (Nat.le_of_ble_eq_true rfl) rfl ?_
  refine kx_aload_n (pc := 0) (kx_dd d_Mo_again 0 rfl) rfl rfl ?_
  refine kx_iload_n (pc := 1) (kx_dd d_Mo_again 1 rfl) rfl rfl ?_
  refine kx_invV (pc := 2) (a := 84) (as := [_]) (kx_dd d_Mo_again 2 rfl) ⟨lk_Mo_520, wi_Mo_isClaim, we_Mo_isClaim⟩ w_Mo_isClaim (hm.k 0 rfl) rfl rfl rfl rfl (Nat.le_of_ble_eq_true rfl) (y_isClaim (d := d + 5) hm nw T hwt D ho hp a) (Nat.le_refl _) ⟨Nat.le_refl _, Nat.le_refl _⟩ (fun v h' hq => ?_)
  obtain ⟨rfl, he⟩ := hq
  rw [he]
  clear he
  refine kx_if_ne (pc := 5) (tgt := 11) (kx_dd d_Mo_again 3 rfl) rfl (fun c5 => ?_) (fun c5 => ?_)
  · have c5 := (bP_ti _).mp c5
    obtain ⟨a9, ha9, rfl⟩ := valP (n := D.2.2.1.1) (by omega) c5
    have e1 : h.1 130 a9 = nI (cN D.2.2.1 a9 8) := ((hp.2.2.1.2 a9 ha9).1 8 (by decide) (by decide) (by decide)).trans ((ho.2.2.1.2 a9 ha9).1 8 (by decide) (by decide) (by decide) (by decide))
    have e15 : h.1 137 a9 = nI (cN D.2.2.1 a9 15) := ((hp.2.2.1.2 a9 ha9).1 15 (by decide) (by decide) (by decide)).trans ((ho.2.2.1.2 a9 ha9).1 15 (by decide) (by decide) (by decide) (by decide))
    have e12 : h.1 134 a9 = D.2.2.1.2.1 a9 12 := (hp.2.2.1.2 a9 ha9).1 12 (by decide) (by decide) (by decide)
    obtain ⟨-, -, -, -, -, -, -, -, -, q8, -, -, -, -, q15, q16, -⟩ := ho.2.2.1.2 a9 ha9
    have fl := faiF_lt (D := D) (r := r) (c := a9) (kn := td)
    have hdu := dueF_le ho (r := r) (td := td) ha9
    refine kx_aload_n (pc := 11) (kx_dd d_Mo_again 6 rfl) rfl rfl ?_
    refine kx_getR (pc := 12) (b := 130) fl_Mo_348 (hm.k 0 rfl) rfl (hm.r 45 rfl) (kx_dd d_Mo_again 7 rfl) ?_
    refine kx_iload_n (pc := 15) (kx_dd d_Mo_again 8 rfl) rfl rfl ?_
    refine kx_ialdn (pc := 16) a9 (hm.t 46 rfl) rfl (by omega) (by decide) (kx_dd d_Mo_again 9 rfl) ?_
    refine kx_iconst (pc := 17) (v := 2) (kx_dd d_Mo_again 10 rfl) rfl ?_
    refine kx_icmp_ne (pc := 18) (tgt := 45) (kx_dd d_Mo_again 11 rfl) rfl (fun c18 => ?_) (fun c18 => ?_)
    · refine kx_bipush (pc := 45) (v := -4) (kx_dd d_Mo_again 25 rfl) rfl ?_
      refine kx_iret (pc := 47) rfl (kx_dd d_Mo_again 26 rfl) (Nat.le_refl _) (Nat.le_refl _) ?_
      rw [e1, show (2 : Int32) = nI 2 from rfl, nI_eq (by omega) (by decide)] at c18
      dsimp only
      exact DkQ.of (by unfold agaR; rw [if_pos c5, nI_clamp (by omega), if_neg (fun z => c18 z.1)]) ho hp kx_Fc.rf
    · rw [e1, show (2 : Int32) = nI 2 from rfl, nI_eq (by omega) (by decide)] at c18
      refine kx_aload_n (pc := 21) (kx_dd d_Mo_again 12 rfl) rfl rfl ?_
      refine kx_getI (pc := 22) fl_Mo_426 (hm.k 0 rfl) rfl (kx_dd d_Mo_again 13 rfl) ?_
      refine kx_aload_n (pc := 25) (kx_dd d_Mo_again 14 rfl) rfl rfl ?_
      refine kx_getR (pc := 26) (b := 134) fl_Mo_360 (hm.k 0 rfl) rfl (hm.r 49 rfl) (kx_dd d_Mo_again 15 rfl) ?_
      refine kx_iload_n (pc := 29) (kx_dd d_Mo_again 16 rfl) rfl rfl ?_
      refine kx_ialdn (pc := 30) a9 (hm.t 50 rfl) rfl (by omega) (by decide) (kx_dd d_Mo_again 17 rfl) ?_
      refine kx_isub (pc := 31) (kx_dd d_Mo_again 18 rfl) ?_
      refine kx_aload_n (pc := 32) (kx_dd d_Mo_again 19 rfl) rfl rfl ?_
      refine kx_aload_n (pc := 33) (kx_dd d_Mo_again 20 rfl) rfl rfl ?_
      refine kx_getI (pc := 34) fl_Mo_251 (hm.k 0 rfl) rfl (kx_dd d_Mo_again 21 rfl) ?_
      refine kx_bipush (pc := 37) (v := 9) (kx_dd d_Mo_again 22 rfl) rfl ?_
      rw [hif]
      refine kx_invV (pc := 39) (a := 84) (as := [_, _]) (kx_dd d_Mo_again 23 rfl) ⟨lk_Mo_162, wi_Mo_ruleOf, we_Mo_ruleOf⟩ w_Mo_ruleOf (hm.k 0 rfl) rfl rfl rfl rfl (Nat.le_of_ble_eq_true rfl) (y_ruleOf (d := d + 6) hm u 9 (by omega) (by decide)) (Nat.le_refl _) ⟨Nat.le_refl _, Nat.le_refl _⟩ (fun v h' hq => ?_)
      obtain ⟨rfl, he⟩ := hq
      rw [he]
      clear he
      rw [hck, e12, hrp.1 9 (by decide)]
      refine kx_icmp_le (pc := 42) (tgt := 48) (kx_dd d_Mo_again 24 rfl) rfl (fun c42 => ?_) (fun c42 => ?_)
      · refine kx_aload_n (pc := 48) (kx_dd d_Mo_again 27 rfl) rfl rfl ?_
        refine kx_iload_n (pc := 49) (kx_dd d_Mo_again 28 rfl) rfl rfl ?_
        refine kx_aload_n (pc := 50) (kx_dd d_Mo_again 29 rfl) rfl rfl ?_
        refine kx_getI (pc := 51) fl_Mo_251 (hm.k 0 rfl) rfl (kx_dd d_Mo_again 30 rfl) ?_
        refine kx_aload_n (pc := 54) (kx_dd d_Mo_again 31 rfl) rfl rfl ?_
        refine kx_getI (pc := 55) fl_Mo_426 (hm.k 0 rfl) rfl (kx_dd d_Mo_again 32 rfl) ?_
        rw [hif, hck]
        refine kx_invV (pc := 58) (a := 84) (as := [_, _, _]) (kx_dd d_Mo_again 33 rfl) ⟨lk_Mo_556, wi_Mo_failsOf, we_Mo_failsOf⟩ w_Mo_failsOf (hm.k 0 rfl) rfl rfl rfl rfl (Nat.le_of_ble_eq_true rfl) (y_failsOf (d := d + 2) hm nw T hwt D ho hp r hro u (by omega) hrp a9 ha9 td (by omega)) (Nat.le_refl _) ⟨Nat.le_refl _, Nat.le_refl _⟩ (fun v h' hq => ?_)
        obtain ⟨rfl, he⟩ := hq
        rw [he]
        clear he
        refine kx_aload_n (pc := 61) (kx_dd d_Mo_again 34 rfl) rfl rfl ?_
        refine kx_getR (pc := 62) (b := 137) fl_Mo_369 (hm.k 0 rfl) rfl (hm.r 52 rfl) (kx_dd d_Mo_again 35 rfl) ?_
        refine kx_iload_n (pc := 65) (kx_dd d_Mo_again 36 rfl) rfl rfl ?_
        refine kx_ialdn (pc := 66) a9 (hm.t 53 rfl) rfl (by omega) (by decide) (kx_dd d_Mo_again 37 rfl) ?_
        refine kx_icmp_ne (pc := 67) (tgt := 86) (kx_dd d_Mo_again 38 rfl) rfl (fun c67 => ?_) (fun c67 => ?_)
        · refine kx_aload_n (pc := 86) (kx_dd d_Mo_again 49 rfl) rfl rfl ?_
          refine kx_getR (pc := 87) (b := 130) fl_Mo_348 (hm.k 0 rfl) rfl (hm.r 45 rfl) (kx_dd d_Mo_again 50 rfl) ?_
          refine kx_iload_n (pc := 90) (kx_dd d_Mo_again 51 rfl) rfl rfl ?_
          refine kx_iconst (pc := 91) (v := 0) (kx_dd d_Mo_again 52 rfl) rfl ?_
          refine kx_iastn (pc := 92) a9 (hm.t 46 rfl) (by decide) rfl (by omega) (by decide) (kx_dd d_Mo_again 53 rfl) ?_
          refine kx_aload_n (pc := 93) (kx_dd d_Mo_again 54 rfl) rfl rfl ?_
          refine kx_getR (pc := 94) (b := 131) fl_Mo_351 (hm.k 0 rfl) rfl (hm.r 46 rfl) (kx_dd d_Mo_again 55 rfl) ?_
          refine kx_iload_n (pc := 97) (kx_dd d_Mo_again 56 rfl) rfl rfl ?_
          refine kx_iconst (pc := 98) (v := 0) (kx_dd d_Mo_again 57 rfl) rfl ?_
          refine kx_iastn (pc := 99) a9 (hm.t 47 rfl) (by decide) rfl (by omega) (by decide) (kx_dd d_Mo_again 58 rfl) ?_
          refine kx_aload_n (pc := 100) (kx_dd d_Mo_again 59 rfl) rfl rfl ?_
          refine kx_getR (pc := 101) (b := 132) fl_Mo_354 (hm.k 0 rfl) rfl (hm.r 47 rfl) (kx_dd d_Mo_again 60 rfl) ?_
          refine kx_iload_n (pc := 104) (kx_dd d_Mo_again 61 rfl) rfl rfl ?_
          refine kx_iconst (pc := 105) (v := 0) (kx_dd d_Mo_again 62 rfl) rfl ?_
          refine kx_iastn (pc := 106) a9 (hm.t 48 rfl) (by decide) rfl (by omega) (by decide) (kx_dd d_Mo_again 63 rfl) ?_
          refine kx_aload_n (pc := 107) (kx_dd d_Mo_again 64 rfl) rfl rfl ?_
          refine kx_getR (pc := 108) (b := 134) fl_Mo_360 (hm.k 0 rfl) rfl (hm.r 49 rfl) (kx_dd d_Mo_again 65 rfl) ?_
          refine kx_iload_n (pc := 111) (kx_dd d_Mo_again 66 rfl) rfl rfl ?_
          refine kx_iconst (pc := 112) (v := -1) (kx_dd d_Mo_again 67 rfl) rfl ?_
          refine kx_iastn (pc := 113) a9 (hm.t 50 rfl) (by decide) rfl (by omega) (by decide) (kx_dd d_Mo_again 68 rfl) ?_
          refine kx_iconst (pc := 114) (v := 1) (kx_dd d_Mo_again 69 rfl) rfl ?_
          refine kx_iret (pc := 115) rfl (kx_dd d_Mo_again 70 rfl) (Nat.le_refl _) (Nat.le_refl _) ?_
          rw [e15, nI_eq (by omega) (by omega)] at c67
          dsimp only
          exact DkQ.of (by unfold agaR; rw [if_pos c5, nI_clamp (by omega), if_pos ⟨c18, c42⟩, if_neg (fun z => c67 z.1)]) (reoD_ok ho) ((((hp.set (j := 8) (v := (0 : Int32)) (by decide) (by decide)).set (j := 9) (v := (0 : Int32)) (by decide) (by decide)).set (j := 10) (v := (0 : Int32)) (by decide) (by decide)).set (j := 12) (v := (-1 : Int32)) (by decide) (by decide)) (((((kx_Fc.rf).tr (kx_Fc.set (Or.inr ⟨by decide, by decide, ha9⟩))).tr (kx_Fc.set (Or.inr ⟨by decide, by decide, ha9⟩))).tr (kx_Fc.set (Or.inr ⟨by decide, by decide, ha9⟩))).tr (kx_Fc.set (Or.inr ⟨by decide, by decide, ha9⟩)))
        · rw [e15, nI_eq (by omega) (by omega)] at c67
          refine kx_aload_n (pc := 70) (kx_dd d_Mo_again 39 rfl) rfl rfl ?_
          refine kx_iload_n (pc := 71) (kx_dd d_Mo_again 40 rfl) rfl rfl ?_
          refine kx_invV (pc := 72) (a := 84) (as := [_]) (kx_dd d_Mo_again 41 rfl) ⟨lk_Mo_564, wi_Mo_dueOf, we_Mo_dueOf⟩ w_Mo_dueOf (hm.k 0 rfl) rfl rfl rfl rfl (Nat.le_of_ble_eq_true rfl) (y_dueOf (d := d) hm nw T hwt D ho hp r td u hu hro hrp hif hck (by omega) a9 ha9) (Nat.le_refl _) ⟨Nat.le_refl _, Nat.le_refl _⟩ (fun v h' hq => ?_)
          revert h'
          intro h1 hq
          obtain ⟨rfl, hf9⟩ := hq
          have hm : SM h1 := hm.fc hf9
          have hp : DKm D nw T h1 := hp.fd hf9
          have hrp : RUm r u nw T h1 := hrp.fd hf9
          have hif : h1.1 84 31 = nI u := by rw [hf9.2 84 31 (by unfold FdM FT; omega)]; exact hif
          have hck : h1.1 84 36 = nI td := by rw [hf9.2 84 36 (by unfold FdM FT; omega)]; exact hck
          have hF9 : kx_Fc (FvM D.2.2.1.1) h h1 := hf9.mono (fun a j z => Or.inl z)
          have e16 : h1.1 138 a9 = nI (cN D.2.2.1 a9 16) := ((hp.2.2.1.2 a9 ha9).1 16 (by decide) (by decide) (by decide)).trans ((ho.2.2.1.2 a9 ha9).1 16 (by decide) (by decide) (by decide) (by decide))
          refine kx_aload_n (pc := 75) (kx_dd d_Mo_again 42 rfl) rfl rfl ?_
          refine kx_getR (pc := 76) (b := 138) fl_Mo_372 (hm.k 0 rfl) rfl (hm.r 53 rfl) (kx_dd d_Mo_again 43 rfl) ?_
          refine kx_iload_n (pc := 79) (kx_dd d_Mo_again 44 rfl) rfl rfl ?_
          refine kx_ialdn (pc := 80) a9 (hm.t 54 rfl) rfl (by omega) (by decide) (kx_dd d_Mo_again 45 rfl) ?_
          refine kx_icmp_ne (pc := 81) (tgt := 86) (kx_dd d_Mo_again 46 rfl) rfl (fun c81 => ?_) (fun c81 => ?_)
          · refine kx_aload_n (pc := 86) (kx_dd d_Mo_again 49 rfl) rfl rfl ?_
            refine kx_getR (pc := 87) (b := 130) fl_Mo_348 (hm.k 0 rfl) rfl (hm.r 45 rfl) (kx_dd d_Mo_again 50 rfl) ?_
            refine kx_iload_n (pc := 90) (kx_dd d_Mo_again 51 rfl) rfl rfl ?_
            refine kx_iconst (pc := 91) (v := 0) (kx_dd d_Mo_again 52 rfl) rfl ?_
            refine kx_iastn (pc := 92) a9 (hm.t 46 rfl) (by decide) rfl (by omega) (by decide) (kx_dd d_Mo_again 53 rfl) ?_
            refine kx_aload_n (pc := 93) (kx_dd d_Mo_again 54 rfl) rfl rfl ?_
            refine kx_getR (pc := 94) (b := 131) fl_Mo_351 (hm.k 0 rfl) rfl (hm.r 46 rfl) (kx_dd d_Mo_again 55 rfl) ?_
            refine kx_iload_n (pc := 97) (kx_dd d_Mo_again 56 rfl) rfl rfl ?_
            refine kx_iconst (pc := 98) (v := 0) (kx_dd d_Mo_again 57 rfl) rfl ?_
            refine kx_iastn (pc := 99) a9 (hm.t 47 rfl) (by decide) rfl (by omega) (by decide) (kx_dd d_Mo_again 58 rfl) ?_
            refine kx_aload_n (pc := 100) (kx_dd d_Mo_again 59 rfl) rfl rfl ?_
            refine kx_getR (pc := 101) (b := 132) fl_Mo_354 (hm.k 0 rfl) rfl (hm.r 47 rfl) (kx_dd d_Mo_again 60 rfl) ?_
            refine kx_iload_n (pc := 104) (kx_dd d_Mo_again 61 rfl) rfl rfl ?_
            refine kx_iconst (pc := 105) (v := 0) (kx_dd d_Mo_again 62 rfl) rfl ?_
            refine kx_iastn (pc := 106) a9 (hm.t 48 rfl) (by decide) rfl (by omega) (by decide) (kx_dd d_Mo_again 63 rfl) ?_
            refine kx_aload_n (pc := 107) (kx_dd d_Mo_again 64 rfl) rfl rfl ?_
            refine kx_getR (pc := 108) (b := 134) fl_Mo_360 (hm.k 0 rfl) rfl (hm.r 49 rfl) (kx_dd d_Mo_again 65 rfl) ?_
            refine kx_iload_n (pc := 111) (kx_dd d_Mo_again 66 rfl) rfl rfl ?_
            refine kx_iconst (pc := 112) (v := -1) (kx_dd d_Mo_again 67 rfl) rfl ?_
            refine kx_iastn (pc := 113) a9 (hm.t 50 rfl) (by decide) rfl (by omega) (by decide) (kx_dd d_Mo_again 68 rfl) ?_
            refine kx_iconst (pc := 114) (v := 1) (kx_dd d_Mo_again 69 rfl) rfl ?_
            refine kx_iret (pc := 115) rfl (kx_dd d_Mo_again 70 rfl) (Nat.le_refl _) (Nat.le_refl _) ?_
            rw [e16, nI_eq (by omega) (by omega)] at c81
            dsimp only
            exact DkQ.of (by unfold agaR; rw [if_pos c5, nI_clamp (by omega), if_pos ⟨c18, c42⟩, if_neg (fun z => c81 z.2)]) (reoD_ok ho) ((((hp.set (j := 8) (v := (0 : Int32)) (by decide) (by decide)).set (j := 9) (v := (0 : Int32)) (by decide) (by decide)).set (j := 10) (v := (0 : Int32)) (by decide) (by decide)).set (j := 12) (v := (-1 : Int32)) (by decide) (by decide)) (((((hF9).tr (kx_Fc.set (Or.inr ⟨by decide, by decide, ha9⟩))).tr (kx_Fc.set (Or.inr ⟨by decide, by decide, ha9⟩))).tr (kx_Fc.set (Or.inr ⟨by decide, by decide, ha9⟩))).tr (kx_Fc.set (Or.inr ⟨by decide, by decide, ha9⟩)))
          · refine kx_iconst (pc := 84) (v := 0) (kx_dd d_Mo_again 47 rfl) rfl ?_
            refine kx_iret (pc := 85) rfl (kx_dd d_Mo_again 48 rfl) (Nat.le_refl _) (Nat.le_refl _) ?_
            rw [e16, nI_eq (by omega) (by omega)] at c81
            dsimp only
            exact DkQ.of (by unfold agaR; rw [if_pos c5, nI_clamp (by omega), if_pos ⟨c18, c42⟩, if_pos ⟨c67, c81⟩]) ho hp hF9
      · refine kx_bipush (pc := 45) (v := -4) (kx_dd d_Mo_again 25 rfl) rfl ?_
        refine kx_iret (pc := 47) rfl (kx_dd d_Mo_again 26 rfl) (Nat.le_refl _) (Nat.le_refl _) ?_
        dsimp only
        exact DkQ.of (by unfold agaR; rw [if_pos c5, nI_clamp (by omega), if_neg (fun z => c42 z.2)]) ho hp kx_Fc.rf
  · refine kx_bipush (pc := 8) (v := -2) (kx_dd d_Mo_again 4 rfl) rfl ?_
    refine kx_iret (pc := 10) rfl (kx_dd d_Mo_again 5 rfl) (Nat.le_refl _) (Nat.le_refl _) ?_
    dsimp only
    exact DkQ.of (if_neg (bP_0.mp c5)) ho hp kx_Fc.rf
def FunQ (M K o j1 j2 : Nat) (a : Int32) (h : kx_Mem) (v : Option Value) (h' : kx_Mem) : Prop := (¬ ((1 ≤ a ∧ a ≤ 9999999) ∧ nI M + a ≤ 999999999) ∧ v = some (.int (-2)) ∧ h' = h) ∨ (((1 ≤ a ∧ a ≤ 9999999) ∧ nI M + a ≤ 999999999) ∧ ∃ p, a = nI p ∧ M + p ≤ 999999999 ∧ v = some (.int (nI (M + p))) ∧ h' = kx_setI (kx_setI h o j1 (nI (M + p))) o j2 (nI (K + p)))
theorem valF {a : Int32} (h : 1 ≤ a ∧ a ≤ 9999999) : ∃ k, k ≤ 9999999 ∧ a = nI k := by
  obtain ⟨k, hk, rfl⟩ := nI_of (Int32.not_lt.mpr (Int32.le_trans (by decide) h.1))
  exact ⟨k, (nI_leI (b := 9999999) hk (by decide)).mp h.2, rfl⟩
theorem x_Fu_take {l : Launch} {g : kx_G} {d : Nat} {h : kx_Mem} (hs : SC h) (M K p : Nat) (hcm : h.1 45 2 = nI M) (hco : h.1 45 3 = nI K) : kx_Sp l g m_Fu_take [.ref 45, .int (nI p)] h (d) 0 0 (fun v h' => v = some (.int (nI (M + p))) ∧ h' = kx_setI (kx_setI h 45 2 (nI (M + p))) 45 3 (nI (K + p))) := by
  refine kx_enter_e (lv := [_, _]) (by decide +kernel) (Nat.le_of_ble_eq_true rfl) rfl ?_
  refine kx_aload_n (pc := 0) (kx_dd d_Fu_take 0 rfl) rfl rfl ?_
  refine kx_dup (pc := 1) (kx_dd d_Fu_take 1 rfl) rfl ?_
  refine kx_getI (pc := 2) fl_Fu_28 (hs.k 45 rfl) rfl (kx_dd d_Fu_take 2 rfl) ?_
  refine kx_iload_n (pc := 5) (kx_dd d_Fu_take 3 rfl) rfl rfl ?_
  refine kx_iadd (pc := 6) (kx_dd d_Fu_take 4 rfl) ?_
  rw [hcm, nI_add]
  refine kx_putI (pc := 7) fl_Fu_28 (hs.k 45 rfl) (by decide) rfl rfl (kx_dd d_Fu_take 5 rfl) ?_
  refine kx_aload_n (pc := 10) (kx_dd d_Fu_take 6 rfl) rfl rfl ?_
  refine kx_dup (pc := 11) (kx_dd d_Fu_take 7 rfl) rfl ?_
  refine kx_getI (pc := 12) fl_Fu_32 (hs.k 45 rfl) rfl (kx_dd d_Fu_take 8 rfl) ?_
  refine kx_iload_n (pc := 15) (kx_dd d_Fu_take 9 rfl) rfl rfl ?_
  refine kx_iadd (pc := 16) (kx_dd d_Fu_take 10 rfl) ?_
  rw [setI_ne (Or.inr (by decide)), hco, nI_add]
  refine kx_putI (pc := 17) fl_Fu_32 (hs.k 45 rfl) (by decide) rfl rfl (kx_dd d_Fu_take 11 rfl) ?_
  refine kx_aload_n (pc := 20) (kx_dd d_Fu_take 12 rfl) rfl rfl ?_
  refine kx_getI (pc := 21) fl_Fu_28 (hs.k 45 rfl) rfl (kx_dd d_Fu_take 13 rfl) ?_
  rw [setI_ne (Or.inr (by decide)), setI_at]
  refine kx_iret (pc := 24) rfl (kx_dd d_Fu_take 14 rfl) (Nat.le_refl _) (Nat.le_refl _) ?_
  exact ⟨rfl, rfl⟩
theorem x_Tc_fund {l : Launch} {g : kx_G} {d : Nat} {h : kx_Mem} (hs : SC h) (M K : Nat) (hM : M ≤ 999999999) (hK : K ≤ M) (hcm : h.1 45 2 = nI M) (hco : h.1 45 3 = nI K) (a : Int32) : kx_Sp l g m_Tc_fund [.ref 0, .int a] h (d + 1) 0 0 (fun v h' => FunQ M K 45 2 3 a h v h') := by
  refine kx_enter_e (lv := [_, _]) (by decide +kernel) (Nat.le_of_ble_eq_true rfl) rfl ?_
  refine kx_iload_n (pc := 0) (kx_dd d_Tc_fund 0 rfl) rfl rfl ?_
  refine kx_iconst (pc := 1) (v := 1) (kx_dd d_Tc_fund 1 rfl) rfl ?_
  refine kx_ldc (pc := 2) ki_Tc_174 (kx_dd d_Tc_fund 2 rfl) ?_
  refine kx_invS (pc := 4) (as := [_, _, _]) (kx_dd d_Tc_fund 3 rfl) ⟨lk_Tc_90, wt_Tc_within⟩ w_Tc_within rfl rfl (Nat.le_of_ble_eq_true rfl) (x_Tc_within (d := d) a 1 9999999) (Nat.le_refl _) ⟨Nat.le_refl _, Nat.le_refl _⟩ (fun v h' hq => ?_)
  obtain ⟨rfl, he⟩ := hq
  rw [he]
  clear he
  refine kx_if_eq (pc := 7) (tgt := 25) (kx_dd d_Tc_fund 4 rfl) rfl (fun c7 => ?_) (fun c7 => ?_)
  · refine kx_bipush (pc := 25) (v := -2) (kx_dd d_Tc_fund 12 rfl) rfl ?_
    refine kx_iret (pc := 27) rfl (kx_dd d_Tc_fund 13 rfl) (Nat.le_refl _) (Nat.le_refl _) ?_
    exact Or.inl ⟨fun z => bP_0.mp c7 z.1, rfl, rfl⟩
  · have c7 := (bP_ti _).mp c7
    refine kx_aload_n (pc := 10) (kx_dd d_Tc_fund 5 rfl) rfl rfl ?_
    refine kx_getR (pc := 11) (b := 45) fl_Tc_73 (hs.k 0 rfl) rfl (hs.r 8 rfl) (kx_dd d_Tc_fund 6 rfl) ?_
    refine kx_getI (pc := 14) fl_Tc_321 (hs.k 45 rfl) rfl (kx_dd d_Tc_fund 7 rfl) ?_
    refine kx_iload_n (pc := 17) (kx_dd d_Tc_fund 8 rfl) rfl rfl ?_
    rw [hcm]
    refine kx_iadd (pc := 18) (kx_dd d_Tc_fund 9 rfl) ?_
    refine kx_ldcw (pc := 19) ki_Tc_324 (kx_dd d_Tc_fund 10 rfl) ?_
    refine kx_icmp_le (pc := 22) (tgt := 28) (kx_dd d_Tc_fund 11 rfl) rfl (fun c22 => ?_) (fun c22 => ?_)
    · obtain ⟨k9, hk9, rfl⟩ := valF c7
      have hMk : M + k9 ≤ 999999999 := by rw [nI_add] at c22; exact (nI_leI (b := 999999999) (by omega) (by decide)).mp c22
      refine kx_aload_n (pc := 28) (kx_dd d_Tc_fund 14 rfl) rfl rfl ?_
      refine kx_getR (pc := 29) (b := 45) fl_Tc_73 (hs.k 0 rfl) rfl (hs.r 8 rfl) (kx_dd d_Tc_fund 15 rfl) ?_
      refine kx_iload_n (pc := 32) (kx_dd d_Tc_fund 16 rfl) rfl rfl ?_
      refine kx_invV (pc := 33) (a := 45) (as := [_]) (kx_dd d_Tc_fund 17 rfl) ⟨lk_Tc_325, wi_Fu_take, we_Fu_take⟩ w_Fu_take (hs.k 45 rfl) rfl rfl rfl rfl (Nat.le_of_ble_eq_true rfl) (x_Fu_take (d := d) hs M K k9 hcm hco) (Nat.le_refl _) ⟨Nat.le_refl _, Nat.le_refl _⟩ (fun v h' hq => ?_)
      obtain ⟨rfl, he⟩ := hq
      rw [he]
      clear he
      refine kx_iret (pc := 36) rfl (kx_dd d_Tc_fund 18 rfl) (Nat.le_refl _) (Nat.le_refl _) ?_
      exact Or.inr ⟨⟨c7, c22⟩, k9, rfl, hMk, rfl, rfl⟩
    · refine kx_bipush (pc := 25) (v := -2) (kx_dd d_Tc_fund 12 rfl) rfl ?_
      refine kx_iret (pc := 27) rfl (kx_dd d_Tc_fund 13 rfl) (Nat.le_refl _) (Nat.le_refl _) ?_
      exact Or.inl ⟨fun z => c22 z.2, rfl, rfl⟩
theorem y_fund {l : Launch} {g : kx_G} {d : Nat} {h : kx_Mem} (hm : SM h) (M K : Nat) (hM : M ≤ 999999999) (hK : K ≤ M) (hcm : h.1 84 87 = nI M) (hco : h.1 84 88 = nI K) (a : Int32) : kx_Sp l g m_Mo_fund [.ref 84, .int a] h (d + 1) 0 0 (fun v h' => FunQ M K 84 87 88 a h v h') := by
  refine kx_enter_e (lv := [_, _]) (by decide +kernel) (Nat.le_of_ble_eq_true rfl) rfl ?_
  refine kx_iload_n (pc := 0) (kx_dd d_Mo_fund 0 rfl) rfl rfl ?_
  refine kx_i2l (pc := 1) (kx_dd d_Mo_fund 1 rfl) ?_
  refine kx_lconst (pc := 2) (v := 1) (kx_dd d_Mo_fund 2 rfl) rfl ?_
  refine kx_ldc2 (pc := 3) kl_Mo_513 (kx_dd d_Mo_fund 3 rfl) ?_
  refine kx_invS (pc := 6) (as := [_, _, _]) (kx_dd d_Mo_fund 4 rfl) ⟨lk_Mo_5, wt_Mo_in⟩ w_Mo_in rfl rfl (Nat.le_of_ble_eq_true rfl) (y_in (d := d) _ _ _) (Nat.le_refl _) ⟨Nat.le_refl _, Nat.le_refl _⟩ (fun v h' hq => ?_)
  obtain ⟨rfl, he⟩ := hq
  rw [he]
  clear he
  rw [show (1 : Int64) = (1 : Int32).toInt64 by decide, show (9999999 : Int64) = (9999999 : Int32).toInt64 by decide, w_le, w_le]
  refine kx_if_eq (pc := 9) (tgt := 24) (kx_dd d_Mo_fund 5 rfl) rfl (fun c9 => ?_) (fun c9 => ?_)
  · refine kx_bipush (pc := 24) (v := -2) (kx_dd d_Mo_fund 12 rfl) rfl ?_
    refine kx_iret (pc := 26) rfl (kx_dd d_Mo_fund 13 rfl) (Nat.le_refl _) (Nat.le_refl _) ?_
    exact Or.inl ⟨fun z => bP_0.mp c9 z.1, rfl, rfl⟩
  · have c7 := (bP_ti _).mp c9
    refine kx_aload_n (pc := 12) (kx_dd d_Mo_fund 6 rfl) rfl rfl ?_
    refine kx_getI (pc := 13) fl_Mo_602 (hm.k 0 rfl) rfl (kx_dd d_Mo_fund 7 rfl) ?_
    refine kx_iload_n (pc := 16) (kx_dd d_Mo_fund 8 rfl) rfl rfl ?_
    rw [hcm]
    refine kx_iadd (pc := 17) (kx_dd d_Mo_fund 9 rfl) ?_
    refine kx_ldcw (pc := 18) ki_Mo_605 (kx_dd d_Mo_fund 10 rfl) ?_
    refine kx_icmp_le (pc := 21) (tgt := 27) (kx_dd d_Mo_fund 11 rfl) rfl (fun c21 => ?_) (fun c21 => ?_)
    · obtain ⟨k9, hk9, rfl⟩ := valF c7
      have hMk : M + k9 ≤ 999999999 := by rw [nI_add] at c21; exact (nI_leI (b := 999999999) (by omega) (by decide)).mp c21
      refine kx_aload_n (pc := 27) (kx_dd d_Mo_fund 14 rfl) rfl rfl ?_
      refine kx_dup (pc := 28) (kx_dd d_Mo_fund 15 rfl) rfl ?_
      refine kx_getI (pc := 29) fl_Mo_602 (hm.k 0 rfl) rfl (kx_dd d_Mo_fund 16 rfl) ?_
      refine kx_iload_n (pc := 32) (kx_dd d_Mo_fund 17 rfl) rfl rfl ?_
      refine kx_iadd (pc := 33) (kx_dd d_Mo_fund 18 rfl) ?_
      rw [hcm, nI_add]
      refine kx_putI (pc := 34) fl_Mo_602 (hm.k 0 rfl) (by decide) rfl rfl (kx_dd d_Mo_fund 19 rfl) ?_
      refine kx_aload_n (pc := 37) (kx_dd d_Mo_fund 20 rfl) rfl rfl ?_
      refine kx_dup (pc := 38) (kx_dd d_Mo_fund 21 rfl) rfl ?_
      refine kx_getI (pc := 39) fl_Mo_606 (hm.k 0 rfl) rfl (kx_dd d_Mo_fund 22 rfl) ?_
      refine kx_iload_n (pc := 42) (kx_dd d_Mo_fund 23 rfl) rfl rfl ?_
      refine kx_iadd (pc := 43) (kx_dd d_Mo_fund 24 rfl) ?_
      rw [setI_ne (Or.inr (by decide)), hco, nI_add]
      refine kx_putI (pc := 44) fl_Mo_606 (hm.k 0 rfl) (by decide) rfl rfl (kx_dd d_Mo_fund 25 rfl) ?_
      refine kx_aload_n (pc := 47) (kx_dd d_Mo_fund 26 rfl) rfl rfl ?_
      refine kx_getI (pc := 48) fl_Mo_602 (hm.k 0 rfl) rfl (kx_dd d_Mo_fund 27 rfl) ?_
      rw [setI_ne (Or.inr (by decide)), setI_at]
      refine kx_iret (pc := 51) rfl (kx_dd d_Mo_fund 28 rfl) (Nat.le_refl _) (Nat.le_refl _) ?_
      exact Or.inr ⟨⟨c7, c21⟩, k9, rfl, hMk, rfl, rfl⟩
    · refine kx_bipush (pc := 24) (v := -2) (kx_dd d_Mo_fund 12 rfl) rfl ?_
      refine kx_iret (pc := 26) rfl (kx_dd d_Mo_fund 13 rfl) (Nat.le_refl _) (Nat.le_refl _) ?_
      exact Or.inl ⟨fun z => c21 z.2, rfl, rfl⟩
def cntA (D : DK) (td u n M K : Nat) (w : Int32) : Int32 := if w = 0 then nI td else if w = 1 then nI D.1.1 else if w = 2 then nI D.1.2.1 else if w = 3 then nI D.2.1.1 else if w = 4 then nI D.2.2.1.1 else if w = 5 then nI D.2.2.2.1 else if w = 6 then nI M else if w = 7 then nI K else if w = 8 then nI (sumA D.2.2.1 D.2.2.1.1) else if w = 9 then nI u else if w = 10 then nI n else if 20 ≤ w ∧ w ≤ 23 then nI (cntS D.2.2.1 (w - 20) D.2.2.1.1) else -1
theorem cntA_hi {D : DK} {td u n M K : Nat} {w : Int32} (h : 20 ≤ w ∧ w ≤ 23) : cntA D td u n M K w = nI (cntS D.2.2.1 (w - 20) D.2.2.1.1) := by
  have hn : ∀ x : Int32, x < 20 → ¬ w = x := fun x hx e => absurd h.1 (by rw [e]; exact Int32.not_le.mpr hx)
  unfold cntA
  rw [if_neg (hn 0 (by decide)), if_neg (hn 1 (by decide)), if_neg (hn 2 (by decide)), if_neg (hn 3 (by decide)), if_neg (hn 4 (by decide)), if_neg (hn 5 (by decide)), if_neg (hn 6 (by decide)), if_neg (hn 7 (by decide)), if_neg (hn 8 (by decide)), if_neg (hn 9 (by decide)), if_neg (hn 10 (by decide)), if_pos h]
theorem x_Tc_count {l : Launch} {g : kx_G} {d : Nat} {h : kx_Mem} (hs : SC h) (D : DK) (A : DA) (ho : DKok D) (hp : DKc D A h) (td u n M K : Nat) (hE0 : h.1 0 9 = nI td) (hE9 : h.1 0 10 = nI u) (hE10 : h.1 1 1 = nI n) (hE6 : h.1 45 2 = nI M) (hE7 : h.1 45 3 = nI K) (w : Int32) : kx_Sp l g m_Tc_count [.ref 0, .int w] h (d + 4) 0 0 (fun v h' => v = some (.int (cntA D td u n M K w)) ∧ h' = h) := by
  have hE1 : h.1 14 0 = nI D.1.1 := hp.1.1
  have hE2 : h.1 14 3 = nI D.1.2.1 := hp.1.2.1
  have hE3 : h.1 34 0 = nI D.2.1.1 := hp.2.1.1
  refine kx_enter_e (lv := [_, _]) (by decide +kernel) (Nat.le_of_ble_eq_true rfl) rfl ?_
  refine kx_iload_n (pc := 0) (kx_dd d_Tc_count 0 rfl) rfl rfl ?_
  by_cases e1_0 : w = 0
  · refine kx_tableIn (pc := 1) (tgt := 60) (kx_dd d_Tc_count 1 rfl) (by rw [e1_0] <;> decide) (by rw [e1_0] <;> decide) (by rw [e1_0] <;> rfl) rfl ?_
    refine kx_aload_n (pc := 60) (kx_dd d_Tc_count 2 rfl) rfl rfl ?_
    refine kx_getI (pc := 61) fl_Tc_94 (hs.k 0 rfl) rfl (kx_dd d_Tc_count 3 rfl) ?_
    refine kx_iret (pc := 64) rfl (kx_dd d_Tc_count 4 rfl) (Nat.le_refl _) (Nat.le_refl _) ?_
    exact ⟨by unfold cntA; rw [if_pos e1_0, hE0], rfl⟩
  · skip
    by_cases e1_1 : w = 1
    · refine kx_tableIn (pc := 1) (tgt := 65) (kx_dd d_Tc_count 1 rfl) (by rw [e1_1] <;> decide) (by rw [e1_1] <;> decide) (by rw [e1_1] <;> rfl) rfl ?_
      refine kx_aload_n (pc := 65) (kx_dd d_Tc_count 5 rfl) rfl rfl ?_
      refine kx_getR (pc := 66) (b := 14) fl_Tc_34 (hs.k 0 rfl) rfl (hs.r 3 rfl) (kx_dd d_Tc_count 6 rfl) ?_
      refine kx_getI (pc := 69) fl_Tc_340 (hs.k 14 rfl) rfl (kx_dd d_Tc_count 7 rfl) ?_
      refine kx_iret (pc := 72) rfl (kx_dd d_Tc_count 8 rfl) (Nat.le_refl _) (Nat.le_refl _) ?_
      exact ⟨by unfold cntA; rw [if_neg e1_0, if_pos e1_1, hE1], rfl⟩
    · skip
      by_cases e1_2 : w = 2
      · refine kx_tableIn (pc := 1) (tgt := 73) (kx_dd d_Tc_count 1 rfl) (by rw [e1_2] <;> decide) (by rw [e1_2] <;> decide) (by rw [e1_2] <;> rfl) rfl ?_
        refine kx_aload_n (pc := 73) (kx_dd d_Tc_count 9 rfl) rfl rfl ?_
        refine kx_getR (pc := 74) (b := 14) fl_Tc_34 (hs.k 0 rfl) rfl (hs.r 3 rfl) (kx_dd d_Tc_count 10 rfl) ?_
        refine kx_getI (pc := 77) fl_Tc_343 (hs.k 14 rfl) rfl (kx_dd d_Tc_count 11 rfl) ?_
        refine kx_iret (pc := 80) rfl (kx_dd d_Tc_count 12 rfl) (Nat.le_refl _) (Nat.le_refl _) ?_
        exact ⟨by unfold cntA; rw [if_neg e1_0, if_neg e1_1, if_pos e1_2, hE2], rfl⟩
      · skip
        by_cases e1_3 : w = 3
        · refine kx_tableIn (pc := 1) (tgt := 81) (kx_dd d_Tc_count 1 rfl) (by rw [e1_3] <;> decide) (by rw [e1_3] <;> decide) (by rw [e1_3] <;> rfl) rfl ?_
          refine kx_aload_n (pc := 81) (kx_dd d_Tc_count 13 rfl) rfl rfl ?_
          refine kx_getR (pc := 82) (b := 34) fl_Tc_48 (hs.k 0 rfl) rfl (hs.r 5 rfl) (kx_dd d_Tc_count 14 rfl) ?_
          refine kx_getI (pc := 85) fl_Tc_346 (hs.k 34 rfl) rfl (kx_dd d_Tc_count 15 rfl) ?_
          refine kx_iret (pc := 88) rfl (kx_dd d_Tc_count 16 rfl) (Nat.le_refl _) (Nat.le_refl _) ?_
          exact ⟨by unfold cntA; rw [if_neg e1_0, if_neg e1_1, if_neg e1_2, if_pos e1_3, hE3], rfl⟩
        · skip
          by_cases e1_4 : w = 4
          · refine kx_tableIn (pc := 1) (tgt := 89) (kx_dd d_Tc_count 1 rfl) (by rw [e1_4] <;> decide) (by rw [e1_4] <;> decide) (by rw [e1_4] <;> rfl) rfl ?_
            refine kx_aload_n (pc := 89) (kx_dd d_Tc_count 17 rfl) rfl rfl ?_
            refine kx_getR (pc := 90) (b := 39) fl_Tc_57 (hs.k 0 rfl) rfl (hs.r 6 rfl) (kx_dd d_Tc_count 18 rfl) ?_
            refine kx_getR (pc := 93) (b := 40) fl_Tc_293 (hs.k 39 rfl) rfl (hs.r 43 rfl) (kx_dd d_Tc_count 19 rfl) ?_
            refine kx_invV (pc := 96) (a := 40) (as := []) (kx_dd d_Tc_count 20 rfl) ⟨lk_Tc_297, wi_AL_size, we_AL_size⟩ w_AL_size (hs.k 40 rfl) rfl rfl rfl rfl (Nat.le_of_ble_eq_true rfl) (x_AL_size (d := d + 3) 40 D.2.2.1.1 A.2.2.1 A.2.2.2.1 A.1 (DKc.k40 hs).1 hp.2.2.1) (Nat.le_refl _) ⟨Nat.le_refl _, Nat.le_refl _⟩ (fun v h' hq => ?_)
            obtain ⟨rfl, he⟩ := hq
            rw [he]
            clear he
            refine kx_iret (pc := 99) rfl (kx_dd d_Tc_count 21 rfl) (Nat.le_refl _) (Nat.le_refl _) ?_
            exact ⟨by unfold cntA; rw [if_neg e1_0, if_neg e1_1, if_neg e1_2, if_neg e1_3, if_pos e1_4], rfl⟩
          · skip
            by_cases e1_5 : w = 5
            · refine kx_tableIn (pc := 1) (tgt := 100) (kx_dd d_Tc_count 1 rfl) (by rw [e1_5] <;> decide) (by rw [e1_5] <;> decide) (by rw [e1_5] <;> rfl) rfl ?_
              refine kx_aload_n (pc := 100) (kx_dd d_Tc_count 22 rfl) rfl rfl ?_
              refine kx_getR (pc := 101) (b := 39) fl_Tc_57 (hs.k 0 rfl) rfl (hs.r 6 rfl) (kx_dd d_Tc_count 23 rfl) ?_
              refine kx_getR (pc := 104) (b := 41) fl_Tc_348 (hs.k 39 rfl) rfl (hs.r 44 rfl) (kx_dd d_Tc_count 24 rfl) ?_
              refine kx_invV (pc := 107) (a := 41) (as := []) (kx_dd d_Tc_count 25 rfl) ⟨lk_Tc_297, wi_AL_size, we_AL_size⟩ w_AL_size (hs.k 41 rfl) rfl rfl rfl rfl (Nat.le_of_ble_eq_true rfl) (x_AL_size (d := d + 3) 41 D.2.2.2.1 A.2.2.2.2.1 A.2.2.2.2.2 A.2.1 (DKc.k40 hs).2 hp.2.2.2.1) (Nat.le_refl _) ⟨Nat.le_refl _, Nat.le_refl _⟩ (fun v h' hq => ?_)
              obtain ⟨rfl, he⟩ := hq
              rw [he]
              clear he
              refine kx_iret (pc := 110) rfl (kx_dd d_Tc_count 26 rfl) (Nat.le_refl _) (Nat.le_refl _) ?_
              exact ⟨by unfold cntA; rw [if_neg e1_0, if_neg e1_1, if_neg e1_2, if_neg e1_3, if_neg e1_4, if_pos e1_5], rfl⟩
            · skip
              by_cases e1_6 : w = 6
              · refine kx_tableIn (pc := 1) (tgt := 111) (kx_dd d_Tc_count 1 rfl) (by rw [e1_6] <;> decide) (by rw [e1_6] <;> decide) (by rw [e1_6] <;> rfl) rfl ?_
                refine kx_aload_n (pc := 111) (kx_dd d_Tc_count 27 rfl) rfl rfl ?_
                refine kx_getR (pc := 112) (b := 45) fl_Tc_73 (hs.k 0 rfl) rfl (hs.r 8 rfl) (kx_dd d_Tc_count 28 rfl) ?_
                refine kx_getI (pc := 115) fl_Tc_321 (hs.k 45 rfl) rfl (kx_dd d_Tc_count 29 rfl) ?_
                refine kx_iret (pc := 118) rfl (kx_dd d_Tc_count 30 rfl) (Nat.le_refl _) (Nat.le_refl _) ?_
                exact ⟨by unfold cntA; rw [if_neg e1_0, if_neg e1_1, if_neg e1_2, if_neg e1_3, if_neg e1_4, if_neg e1_5, if_pos e1_6, hE6], rfl⟩
              · skip
                by_cases e1_7 : w = 7
                · refine kx_tableIn (pc := 1) (tgt := 119) (kx_dd d_Tc_count 1 rfl) (by rw [e1_7] <;> decide) (by rw [e1_7] <;> decide) (by rw [e1_7] <;> rfl) rfl ?_
                  refine kx_aload_n (pc := 119) (kx_dd d_Tc_count 31 rfl) rfl rfl ?_
                  refine kx_getR (pc := 120) (b := 45) fl_Tc_73 (hs.k 0 rfl) rfl (hs.r 8 rfl) (kx_dd d_Tc_count 32 rfl) ?_
                  refine kx_getI (pc := 123) fl_Tc_351 (hs.k 45 rfl) rfl (kx_dd d_Tc_count 33 rfl) ?_
                  refine kx_iret (pc := 126) rfl (kx_dd d_Tc_count 34 rfl) (Nat.le_refl _) (Nat.le_refl _) ?_
                  exact ⟨by unfold cntA; rw [if_neg e1_0, if_neg e1_1, if_neg e1_2, if_neg e1_3, if_neg e1_4, if_neg e1_5, if_neg e1_6, if_pos e1_7, hE7], rfl⟩
                · skip
                  by_cases e1_8 : w = 8
                  · refine kx_tableIn (pc := 1) (tgt := 127) (kx_dd d_Tc_count 1 rfl) (by rw [e1_8] <;> decide) (by rw [e1_8] <;> decide) (by rw [e1_8] <;> rfl) rfl ?_
                    refine kx_aload_n (pc := 127) (kx_dd d_Tc_count 35 rfl) rfl rfl ?_
                    refine kx_getR (pc := 128) (b := 39) fl_Tc_57 (hs.k 0 rfl) rfl (hs.r 6 rfl) (kx_dd d_Tc_count 36 rfl) ?_
                    refine kx_invV (pc := 131) (a := 39) (as := []) (kx_dd d_Tc_count 37 rfl) ⟨lk_Tc_354, wi_Do_sumOfAwards, we_Do_sumOfAwards⟩ w_Do_sumOfAwards (hs.k 39 rfl) rfl rfl rfl rfl (Nat.le_of_ble_eq_true rfl) (x_Do_sumOfAwards (d := d) hs D A ho hp) (Nat.le_refl _) ⟨Nat.le_refl _, Nat.le_refl _⟩ (fun v h' hq => ?_)
                    obtain ⟨rfl, he⟩ := hq
                    rw [he]
                    clear he
                    refine kx_iret (pc := 134) rfl (kx_dd d_Tc_count 38 rfl) (Nat.le_refl _) (Nat.le_refl _) ?_
                    exact ⟨by unfold cntA; rw [if_neg e1_0, if_neg e1_1, if_neg e1_2, if_neg e1_3, if_neg e1_4, if_neg e1_5, if_neg e1_6, if_neg e1_7, if_pos e1_8], rfl⟩
                  · skip
                    by_cases e1_9 : w = 9
                    · refine kx_tableIn (pc := 1) (tgt := 135) (kx_dd d_Tc_count 1 rfl) (by rw [e1_9] <;> decide) (by rw [e1_9] <;> decide) (by rw [e1_9] <;> rfl) rfl ?_
                      refine kx_aload_n (pc := 135) (kx_dd d_Tc_count 39 rfl) rfl rfl ?_
                      refine kx_getI (pc := 136) fl_Tc_148 (hs.k 0 rfl) rfl (kx_dd d_Tc_count 40 rfl) ?_
                      refine kx_iret (pc := 139) rfl (kx_dd d_Tc_count 41 rfl) (Nat.le_refl _) (Nat.le_refl _) ?_
                      exact ⟨by unfold cntA; rw [if_neg e1_0, if_neg e1_1, if_neg e1_2, if_neg e1_3, if_neg e1_4, if_neg e1_5, if_neg e1_6, if_neg e1_7, if_neg e1_8, if_pos e1_9, hE9], rfl⟩
                    · skip
                      by_cases e1_10 : w = 10
                      · refine kx_tableIn (pc := 1) (tgt := 140) (kx_dd d_Tc_count 1 rfl) (by rw [e1_10] <;> decide) (by rw [e1_10] <;> decide) (by rw [e1_10] <;> rfl) rfl ?_
                        refine kx_aload_n (pc := 140) (kx_dd d_Tc_count 42 rfl) rfl rfl ?_
                        refine kx_getR (pc := 141) (b := 1) fl_Tc_10 (hs.k 0 rfl) rfl (hs.r 0 rfl) (kx_dd d_Tc_count 43 rfl) ?_
                        refine kx_getI (pc := 144) fl_Tc_357 (hs.k 1 rfl) rfl (kx_dd d_Tc_count 44 rfl) ?_
                        refine kx_iret (pc := 147) rfl (kx_dd d_Tc_count 45 rfl) (Nat.le_refl _) (Nat.le_refl _) ?_
                        exact ⟨by unfold cntA; rw [if_neg e1_0, if_neg e1_1, if_neg e1_2, if_neg e1_3, if_neg e1_4, if_neg e1_5, if_neg e1_6, if_neg e1_7, if_neg e1_8, if_neg e1_9, if_pos e1_10, hE10], rfl⟩
                      · skip
                        refine kx_tableOut (pc := 1) (tgt := 148) (kx_dd d_Tc_count 1 rfl) (by have y0 := lv_neT (a := 0) e1_0 (by decide); have y1 := lv_neT (a := 1) e1_1 (by decide); have y2 := lv_neT (a := 2) e1_2 (by decide); have y3 := lv_neT (a := 3) e1_3 (by decide); have y4 := lv_neT (a := 4) e1_4 (by decide); have y5 := lv_neT (a := 5) e1_5 (by decide); have y6 := lv_neT (a := 6) e1_6 (by decide); have y7 := lv_neT (a := 7) e1_7 (by decide); have y8 := lv_neT (a := 8) e1_8 (by decide); have y9 := lv_neT (a := 9) e1_9 (by decide); have y10 := lv_neT (a := 10) e1_10 (by decide); omega) rfl ?_
                        refine kx_iload_n (pc := 148) (kx_dd d_Tc_count 46 rfl) rfl rfl ?_
                        refine kx_bipush (pc := 149) (v := 20) (kx_dd d_Tc_count 47 rfl) rfl ?_
                        refine kx_bipush (pc := 151) (v := 23) (kx_dd d_Tc_count 48 rfl) rfl ?_
                        refine kx_invS (pc := 153) (as := [_, _, _]) (kx_dd d_Tc_count 49 rfl) ⟨lk_Tc_90, wt_Tc_within⟩ w_Tc_within rfl rfl (Nat.le_of_ble_eq_true rfl) (x_Tc_within (d := d + 3) w 20 23) (Nat.le_refl _) ⟨Nat.le_refl _, Nat.le_refl _⟩ (fun v h' hq => ?_)
                        obtain ⟨rfl, he⟩ := hq
                        rw [he]
                        clear he
                        refine kx_if_eq (pc := 156) (tgt := 173) (kx_dd d_Tc_count 50 rfl) rfl (fun c156 => ?_) (fun c156 => ?_)
                        · refine kx_iconst (pc := 173) (v := -1) (kx_dd d_Tc_count 58 rfl) rfl ?_
                          refine kx_iret (pc := 174) rfl (kx_dd d_Tc_count 59 rfl) (Nat.le_refl _) (Nat.le_refl _) ?_
                          exact ⟨by unfold cntA; rw [if_neg e1_0, if_neg e1_1, if_neg e1_2, if_neg e1_3, if_neg e1_4, if_neg e1_5, if_neg e1_6, if_neg e1_7, if_neg e1_8, if_neg e1_9, if_neg e1_10, if_neg (bP_0.mp c156)], rfl⟩
                        · refine kx_aload_n (pc := 159) (kx_dd d_Tc_count 51 rfl) rfl rfl ?_
                          refine kx_getR (pc := 160) (b := 39) fl_Tc_57 (hs.k 0 rfl) rfl (hs.r 6 rfl) (kx_dd d_Tc_count 52 rfl) ?_
                          refine kx_iload_n (pc := 163) (kx_dd d_Tc_count 53 rfl) rfl rfl ?_
                          refine kx_bipush (pc := 164) (v := 20) (kx_dd d_Tc_count 54 rfl) rfl ?_
                          refine kx_isub (pc := 166) (kx_dd d_Tc_count 55 rfl) ?_
                          refine kx_invV (pc := 167) (a := 39) (as := [_]) (kx_dd d_Tc_count 56 rfl) ⟨lk_Tc_331, wi_Do_countOf, we_Do_countOf⟩ w_Do_countOf (hs.k 39 rfl) rfl rfl rfl rfl (Nat.le_of_ble_eq_true rfl) (x_Do_countOf (d := d) hs D A ho hp (w - 20)) (Nat.le_refl _) ⟨Nat.le_refl _, Nat.le_refl _⟩ (fun v h' hq => ?_)
                          obtain ⟨rfl, he⟩ := hq
                          rw [he]
                          clear he
                          refine kx_goto (pc := 170) (tgt := 174) (kx_dd d_Tc_count 57 rfl) rfl ?_
                          refine kx_iret (pc := 174) rfl (kx_dd d_Tc_count 59 rfl) (Nat.le_refl _) (Nat.le_refl _) ?_
                          exact ⟨by rw [cntA_hi ((bP_ti _).mp c156)], rfl⟩
theorem y_count_loop {l : Launch} {g : kx_G} {d : Nat} {h : kx_Mem} (hm : SM h) (nw : Nat) (T : Nat → Nat) (hwt : WTok nw T) (D : DK) (ho : DKok D) (hp : DKm D nw T h) (w : Int32) : ∀ n k, k + n = D.2.2.1.1 →  kx_X (l, g, m_Mo_count, d, 0, 0, (fun v h' => v = some (.int (nI (cntS D.2.2.1 (w - 20) D.2.2.1.1))) ∧ h' = h)) 0 0 18 [some (.ref 84), some (.int w), some (.int (nI (cntS D.2.2.1 (w - 20) k))), some (.int (nI k))] [] (h) := by
  intro n
  induction n with
  | zero =>
    intro k hk 
    have hk0 : k = D.2.2.1.1 := by omega
    subst hk0
    have e51 : h.1 84 51 = nI D.2.2.1.1 := hp.2.2.1.1
    refine kx_iload_n (pc := 18) (kx_dd d_Mo_count 10 rfl) rfl rfl ?_
    refine kx_aload_n (pc := 19) (kx_dd d_Mo_count 11 rfl) rfl rfl ?_
    refine kx_getI (pc := 20) fl_Mo_510 (hm.k 0 rfl) rfl (kx_dd d_Mo_count 12 rfl) ?_
    refine kx_icmp_ge (pc := 23) (tgt := 53) (kx_dd d_Mo_count 13 rfl) rfl (fun c23 => ?_) (fun c23 => ?_)
    · refine kx_iload_n (pc := 53) (kx_dd d_Mo_count 30 rfl) rfl rfl ?_
      refine kx_iret (pc := 54) rfl (kx_dd d_Mo_count 31 rfl) (Nat.le_refl _) (Nat.le_refl _) ?_
      exact ⟨rfl, rfl⟩
    · exact absurd (by rw [e51]; exact Int32.le_refl _) c23
  | succ n ih =>
    intro k hk 
    have o1 := ho.2.2.1.1
    have e51 : h.1 84 51 = nI D.2.2.1.1 := hp.2.2.1.1
    have e8 : h.1 130 k = D.2.2.1.2.1 k 8 := (hp.2.2.1.2 k (by omega)).1 8 (by decide) (by decide) (by decide)
    refine kx_iload_n (pc := 18) (kx_dd d_Mo_count 10 rfl) rfl rfl ?_
    refine kx_aload_n (pc := 19) (kx_dd d_Mo_count 11 rfl) rfl rfl ?_
    refine kx_getI (pc := 20) fl_Mo_510 (hm.k 0 rfl) rfl (kx_dd d_Mo_count 12 rfl) ?_
    refine kx_icmp_ge (pc := 23) (tgt := 53) (kx_dd d_Mo_count 13 rfl) rfl (fun c23 => ?_) (fun c23 => ?_)
    · exact absurd c23 (by rw [e51]; exact nI_ge (by omega) (by omega))
    · refine kx_iload_n (pc := 26) (kx_dd d_Mo_count 14 rfl) rfl rfl ?_
      refine kx_aload_n (pc := 27) (kx_dd d_Mo_count 15 rfl) rfl rfl ?_
      refine kx_getR (pc := 28) (b := 130) fl_Mo_348 (hm.k 0 rfl) rfl (hm.r 45 rfl) (kx_dd d_Mo_count 16 rfl) ?_
      refine kx_iload_n (pc := 31) (kx_dd d_Mo_count 17 rfl) rfl rfl ?_
      refine kx_ialdn (pc := 32) k (hm.t 46 rfl) rfl (by omega) (by decide) (kx_dd d_Mo_count 18 rfl) ?_
      refine kx_iload_n (pc := 33) (kx_dd d_Mo_count 19 rfl) rfl rfl ?_
      refine kx_bipush (pc := 34) (v := 20) (kx_dd d_Mo_count 20 rfl) rfl ?_
      refine kx_isub (pc := 36) (kx_dd d_Mo_count 21 rfl) ?_
      refine kx_icmp_ne (pc := 37) (tgt := 44) (kx_dd d_Mo_count 22 rfl) rfl (fun c37 => ?_) (fun c37 => ?_)
      · refine kx_iconst (pc := 44) (v := 0) (kx_dd d_Mo_count 25 rfl) rfl ?_
        refine kx_iadd (pc := 45) (kx_dd d_Mo_count 26 rfl) ?_
        refine kx_istore_ne (pc := 46) (lv' := [_, _, _, _]) (kx_dd d_Mo_count 27 rfl) rfl (Nat.le_of_ble_eq_true rfl) rfl ?_
        refine kx_iinc_e (pc := 47) (v := nI (k + 1)) (lv' := [_, _, _, _]) (kx_dd d_Mo_count 28 rfl) rfl (Nat.le_of_ble_eq_true rfl) (nI_1 k) rfl ?_
        refine kx_goto (pc := 50) (tgt := 18) (kx_dd d_Mo_count 29 rfl) rfl ?_
        have e : cntS D.2.2.1 (w - 20) (k + 1) = cntS D.2.2.1 (w - 20) k := if_neg (fun z => c37 (e8.trans z))
        have ih1 := ih (k + 1) (by omega)
        rw [e] at ih1
        rw [Int32.add_zero]
        exact ih1
      · refine kx_iconst (pc := 40) (v := 1) (kx_dd d_Mo_count 23 rfl) rfl ?_
        refine kx_goto (pc := 41) (tgt := 45) (kx_dd d_Mo_count 24 rfl) rfl ?_
        refine kx_iadd (pc := 45) (kx_dd d_Mo_count 26 rfl) ?_
        refine kx_istore_ne (pc := 46) (lv' := [_, _, _, _]) (kx_dd d_Mo_count 27 rfl) rfl (Nat.le_of_ble_eq_true rfl) rfl ?_
        refine kx_iinc_e (pc := 47) (v := nI (k + 1)) (lv' := [_, _, _, _]) (kx_dd d_Mo_count 28 rfl) rfl (Nat.le_of_ble_eq_true rfl) (nI_1 k) rfl ?_
        refine kx_goto (pc := 50) (tgt := 18) (kx_dd d_Mo_count 29 rfl) rfl ?_
        have e : cntS D.2.2.1 (w - 20) (k + 1) = cntS D.2.2.1 (w - 20) k + 1 := if_pos (e8.symm.trans c37)
        have ih1 := ih (k + 1) (by omega)
        rw [e, ← nI_1] at ih1
        exact ih1
theorem y_count {l : Launch} {g : kx_G} {d : Nat} {h : kx_Mem} (hm : SM h) (nw : Nat) (T : Nat → Nat) (hwt : WTok nw T) (D : DK) (ho : DKok D) (hp : DKm D nw T h) (td u n M K : Nat) (hE0 : h.1 84 36 = nI td) (hE9 : h.1 84 31 = nI u) (hE10 : h.1 84 5 = nI n) (hE6 : h.1 84 87 = nI M) (hE7 : h.1 84 88 = nI K) (w : Int32) : kx_Sp l g m_Mo_count [.ref 84, .int w] h (d + 1) 0 0 (fun v h' => v = some (.int (cntA D td u n M K w)) ∧ h' = h) := by
  have hE1 : h.1 84 33 = nI D.1.1 := hp.1.1
  have hE2 : h.1 84 34 = nI D.1.2.1 := hp.1.2.1
  have hE3 : h.1 84 50 = nI D.2.1.1 := hp.2.1.1
  have hE4 : h.1 84 51 = nI D.2.2.1.1 := hp.2.2.1.1
  have hE5 : h.1 84 52 = nI D.2.2.2.1 := hp.2.2.2.1
  have hE8 : nI (sumA D.2.2.1 D.2.2.1.1) = nI (sumA D.2.2.1 D.2.2.1.1) := rfl
  refine kx_enter_e (lv := [_, _, _, _]) (by decide +kernel) (Nat.le_of_ble_eq_true rfl) rfl ?_
  refine kx_iload_n (pc := 0) (kx_dd d_Mo_count 0 rfl) rfl rfl ?_
  refine kx_i2l (pc := 1) (kx_dd d_Mo_count 1 rfl) ?_
  refine kx_ldc2 (pc := 2) kl_Mo_256 (kx_dd d_Mo_count 2 rfl) ?_
  refine kx_ldc2 (pc := 5) kl_Mo_258 (kx_dd d_Mo_count 3 rfl) ?_
  refine kx_invS (pc := 8) (as := [_, _, _]) (kx_dd d_Mo_count 4 rfl) ⟨lk_Mo_5, wt_Mo_in⟩ w_Mo_in rfl rfl (Nat.le_of_ble_eq_true rfl) (y_in (d := d) _ _ _) (Nat.le_refl _) ⟨Nat.le_refl _, Nat.le_refl _⟩ (fun v h' hq => ?_)
  obtain ⟨rfl, he⟩ := hq
  rw [he]
  clear he
  rw [show (20 : Int64) = (20 : Int32).toInt64 by decide, show (23 : Int64) = (23 : Int32).toInt64 by decide, w_le, w_le]
  refine kx_if_eq (pc := 11) (tgt := 55) (kx_dd d_Mo_count 5 rfl) rfl (fun c11 => ?_) (fun c11 => ?_)
  · have c11 := bP_0.mp c11
    refine kx_iload_n (pc := 55) (kx_dd d_Mo_count 32 rfl) rfl rfl ?_
    by_cases e56_0 : w = 0
    · refine kx_tableIn (pc := 56) (tgt := 116) (kx_dd d_Mo_count 33 rfl) (by rw [e56_0] <;> decide) (by rw [e56_0] <;> decide) (by rw [e56_0] <;> rfl) rfl ?_
      refine kx_aload_n (pc := 116) (kx_dd d_Mo_count 34 rfl) rfl rfl ?_
      refine kx_getI (pc := 117) fl_Mo_426 (hm.k 0 rfl) rfl (kx_dd d_Mo_count 35 rfl) ?_
      refine kx_iret (pc := 120) rfl (kx_dd d_Mo_count 36 rfl) (Nat.le_refl _) (Nat.le_refl _) ?_
      exact ⟨by unfold cntA; rw [if_pos e56_0, hE0], rfl⟩
    · skip
      by_cases e56_1 : w = 1
      · refine kx_tableIn (pc := 56) (tgt := 121) (kx_dd d_Mo_count 33 rfl) (by rw [e56_1] <;> decide) (by rw [e56_1] <;> decide) (by rw [e56_1] <;> rfl) rfl ?_
        refine kx_aload_n (pc := 121) (kx_dd d_Mo_count 37 rfl) rfl rfl ?_
        refine kx_getI (pc := 122) fl_Mo_429 (hm.k 0 rfl) rfl (kx_dd d_Mo_count 38 rfl) ?_
        refine kx_iret (pc := 125) rfl (kx_dd d_Mo_count 39 rfl) (Nat.le_refl _) (Nat.le_refl _) ?_
        exact ⟨by unfold cntA; rw [if_neg e56_0, if_pos e56_1, hE1], rfl⟩
      · skip
        by_cases e56_2 : w = 2
        · refine kx_tableIn (pc := 56) (tgt := 126) (kx_dd d_Mo_count 33 rfl) (by rw [e56_2] <;> decide) (by rw [e56_2] <;> decide) (by rw [e56_2] <;> rfl) rfl ?_
          refine kx_aload_n (pc := 126) (kx_dd d_Mo_count 40 rfl) rfl rfl ?_
          refine kx_getI (pc := 127) fl_Mo_432 (hm.k 0 rfl) rfl (kx_dd d_Mo_count 41 rfl) ?_
          refine kx_iret (pc := 130) rfl (kx_dd d_Mo_count 42 rfl) (Nat.le_refl _) (Nat.le_refl _) ?_
          exact ⟨by unfold cntA; rw [if_neg e56_0, if_neg e56_1, if_pos e56_2, hE2], rfl⟩
        · skip
          by_cases e56_3 : w = 3
          · refine kx_tableIn (pc := 56) (tgt := 131) (kx_dd d_Mo_count 33 rfl) (by rw [e56_3] <;> decide) (by rw [e56_3] <;> decide) (by rw [e56_3] <;> rfl) rfl ?_
            refine kx_aload_n (pc := 131) (kx_dd d_Mo_count 43 rfl) rfl rfl ?_
            refine kx_getI (pc := 132) fl_Mo_483 (hm.k 0 rfl) rfl (kx_dd d_Mo_count 44 rfl) ?_
            refine kx_iret (pc := 135) rfl (kx_dd d_Mo_count 45 rfl) (Nat.le_refl _) (Nat.le_refl _) ?_
            exact ⟨by unfold cntA; rw [if_neg e56_0, if_neg e56_1, if_neg e56_2, if_pos e56_3, hE3], rfl⟩
          · skip
            by_cases e56_4 : w = 4
            · refine kx_tableIn (pc := 56) (tgt := 136) (kx_dd d_Mo_count 33 rfl) (by rw [e56_4] <;> decide) (by rw [e56_4] <;> decide) (by rw [e56_4] <;> rfl) rfl ?_
              refine kx_aload_n (pc := 136) (kx_dd d_Mo_count 46 rfl) rfl rfl ?_
              refine kx_getI (pc := 137) fl_Mo_510 (hm.k 0 rfl) rfl (kx_dd d_Mo_count 47 rfl) ?_
              refine kx_iret (pc := 140) rfl (kx_dd d_Mo_count 48 rfl) (Nat.le_refl _) (Nat.le_refl _) ?_
              exact ⟨by unfold cntA; rw [if_neg e56_0, if_neg e56_1, if_neg e56_2, if_neg e56_3, if_pos e56_4, hE4], rfl⟩
            · skip
              by_cases e56_5 : w = 5
              · refine kx_tableIn (pc := 56) (tgt := 141) (kx_dd d_Mo_count 33 rfl) (by rw [e56_5] <;> decide) (by rw [e56_5] <;> decide) (by rw [e56_5] <;> rfl) rfl ?_
                refine kx_aload_n (pc := 141) (kx_dd d_Mo_count 49 rfl) rfl rfl ?_
                refine kx_getI (pc := 142) fl_Mo_525 (hm.k 0 rfl) rfl (kx_dd d_Mo_count 50 rfl) ?_
                refine kx_iret (pc := 145) rfl (kx_dd d_Mo_count 51 rfl) (Nat.le_refl _) (Nat.le_refl _) ?_
                exact ⟨by unfold cntA; rw [if_neg e56_0, if_neg e56_1, if_neg e56_2, if_neg e56_3, if_neg e56_4, if_pos e56_5, hE5], rfl⟩
              · skip
                by_cases e56_6 : w = 6
                · refine kx_tableIn (pc := 56) (tgt := 146) (kx_dd d_Mo_count 33 rfl) (by rw [e56_6] <;> decide) (by rw [e56_6] <;> decide) (by rw [e56_6] <;> rfl) rfl ?_
                  refine kx_aload_n (pc := 146) (kx_dd d_Mo_count 52 rfl) rfl rfl ?_
                  refine kx_getI (pc := 147) fl_Mo_602 (hm.k 0 rfl) rfl (kx_dd d_Mo_count 53 rfl) ?_
                  refine kx_iret (pc := 150) rfl (kx_dd d_Mo_count 54 rfl) (Nat.le_refl _) (Nat.le_refl _) ?_
                  exact ⟨by unfold cntA; rw [if_neg e56_0, if_neg e56_1, if_neg e56_2, if_neg e56_3, if_neg e56_4, if_neg e56_5, if_pos e56_6, hE6], rfl⟩
                · skip
                  by_cases e56_7 : w = 7
                  · refine kx_tableIn (pc := 56) (tgt := 151) (kx_dd d_Mo_count 33 rfl) (by rw [e56_7] <;> decide) (by rw [e56_7] <;> decide) (by rw [e56_7] <;> rfl) rfl ?_
                    refine kx_aload_n (pc := 151) (kx_dd d_Mo_count 55 rfl) rfl rfl ?_
                    refine kx_getI (pc := 152) fl_Mo_606 (hm.k 0 rfl) rfl (kx_dd d_Mo_count 56 rfl) ?_
                    refine kx_iret (pc := 155) rfl (kx_dd d_Mo_count 57 rfl) (Nat.le_refl _) (Nat.le_refl _) ?_
                    exact ⟨by unfold cntA; rw [if_neg e56_0, if_neg e56_1, if_neg e56_2, if_neg e56_3, if_neg e56_4, if_neg e56_5, if_neg e56_6, if_pos e56_7, hE7], rfl⟩
                  · skip
                    by_cases e56_8 : w = 8
                    · refine kx_tableIn (pc := 56) (tgt := 156) (kx_dd d_Mo_count 33 rfl) (by rw [e56_8] <;> decide) (by rw [e56_8] <;> decide) (by rw [e56_8] <;> rfl) rfl ?_
                      refine kx_aload_n (pc := 156) (kx_dd d_Mo_count 58 rfl) rfl rfl ?_
                      refine kx_invV (pc := 157) (a := 84) (as := []) (kx_dd d_Mo_count 59 rfl) ⟨lk_Mo_571, wi_Mo_awards, we_Mo_awards⟩ w_Mo_awards (hm.k 0 rfl) rfl rfl rfl rfl (Nat.le_of_ble_eq_true rfl) (y_awards (d := d) hm nw T hwt D ho hp) (Nat.le_refl _) ⟨Nat.le_refl _, Nat.le_refl _⟩ (fun v h' hq => ?_)
                      obtain ⟨rfl, he⟩ := hq
                      rw [he]
                      clear he
                      refine kx_iret (pc := 160) rfl (kx_dd d_Mo_count 60 rfl) (Nat.le_refl _) (Nat.le_refl _) ?_
                      exact ⟨by unfold cntA; rw [if_neg e56_0, if_neg e56_1, if_neg e56_2, if_neg e56_3, if_neg e56_4, if_neg e56_5, if_neg e56_6, if_neg e56_7, if_pos e56_8, hE8], rfl⟩
                    · skip
                      by_cases e56_9 : w = 9
                      · refine kx_tableIn (pc := 56) (tgt := 161) (kx_dd d_Mo_count 33 rfl) (by rw [e56_9] <;> decide) (by rw [e56_9] <;> decide) (by rw [e56_9] <;> rfl) rfl ?_
                        refine kx_aload_n (pc := 161) (kx_dd d_Mo_count 61 rfl) rfl rfl ?_
                        refine kx_getI (pc := 162) fl_Mo_251 (hm.k 0 rfl) rfl (kx_dd d_Mo_count 62 rfl) ?_
                        refine kx_iret (pc := 165) rfl (kx_dd d_Mo_count 63 rfl) (Nat.le_refl _) (Nat.le_refl _) ?_
                        exact ⟨by unfold cntA; rw [if_neg e56_0, if_neg e56_1, if_neg e56_2, if_neg e56_3, if_neg e56_4, if_neg e56_5, if_neg e56_6, if_neg e56_7, if_neg e56_8, if_pos e56_9, hE9], rfl⟩
                      · skip
                        by_cases e56_10 : w = 10
                        · refine kx_tableIn (pc := 56) (tgt := 166) (kx_dd d_Mo_count 33 rfl) (by rw [e56_10] <;> decide) (by rw [e56_10] <;> decide) (by rw [e56_10] <;> rfl) rfl ?_
                          refine kx_aload_n (pc := 166) (kx_dd d_Mo_count 64 rfl) rfl rfl ?_
                          refine kx_getI (pc := 167) fl_Mo_37 (hm.k 0 rfl) rfl (kx_dd d_Mo_count 65 rfl) ?_
                          refine kx_iret (pc := 170) rfl (kx_dd d_Mo_count 66 rfl) (Nat.le_refl _) (Nat.le_refl _) ?_
                          exact ⟨by unfold cntA; rw [if_neg e56_0, if_neg e56_1, if_neg e56_2, if_neg e56_3, if_neg e56_4, if_neg e56_5, if_neg e56_6, if_neg e56_7, if_neg e56_8, if_neg e56_9, if_pos e56_10, hE10], rfl⟩
                        · skip
                          refine kx_tableOut (pc := 56) (tgt := 171) (kx_dd d_Mo_count 33 rfl) (by have y0 := lv_neT (a := 0) e56_0 (by decide); have y1 := lv_neT (a := 1) e56_1 (by decide); have y2 := lv_neT (a := 2) e56_2 (by decide); have y3 := lv_neT (a := 3) e56_3 (by decide); have y4 := lv_neT (a := 4) e56_4 (by decide); have y5 := lv_neT (a := 5) e56_5 (by decide); have y6 := lv_neT (a := 6) e56_6 (by decide); have y7 := lv_neT (a := 7) e56_7 (by decide); have y8 := lv_neT (a := 8) e56_8 (by decide); have y9 := lv_neT (a := 9) e56_9 (by decide); have y10 := lv_neT (a := 10) e56_10 (by decide); omega) rfl ?_
                          refine kx_iconst (pc := 171) (v := -1) (kx_dd d_Mo_count 67 rfl) rfl ?_
                          refine kx_iret (pc := 172) rfl (kx_dd d_Mo_count 68 rfl) (Nat.le_refl _) (Nat.le_refl _) ?_
                          exact ⟨by unfold cntA; rw [if_neg e56_0, if_neg e56_1, if_neg e56_2, if_neg e56_3, if_neg e56_4, if_neg e56_5, if_neg e56_6, if_neg e56_7, if_neg e56_8, if_neg e56_9, if_neg e56_10, if_neg c11], rfl⟩
  · refine kx_iconst (pc := 14) (v := 0) (kx_dd d_Mo_count 6 rfl) rfl ?_
    refine kx_istore_ne (pc := 15) (lv' := [_, _, _, _]) (kx_dd d_Mo_count 7 rfl) rfl (Nat.le_of_ble_eq_true rfl) rfl ?_
    refine kx_iconst (pc := 16) (v := 0) (kx_dd d_Mo_count 8 rfl) rfl ?_
    refine kx_istore_ne (pc := 17) (lv' := [_, _, _, _]) (kx_dd d_Mo_count 9 rfl) rfl (Nat.le_of_ble_eq_true rfl) rfl ?_
    refine kx_mono (fun v h' z => ?_) (y_count_loop hm nw T hwt D ho hp w D.2.2.1.1 0 (by omega))
    exact ⟨by rw [z.1, cntA_hi ((bP_ti _).mp c11)], z.2⟩
