/-! top-level: lot -/
theorem lotK_mono {s : PS} {U : Nat → Prop} {a b td : Nat} : ∀ {p q : Nat}, p ≤ q → lotK s U a b td p ≤ lotK s U a b td q := by
  intro p q h
  induction h with
  | refl => exact Nat.le_refl _
  | step h ih =>
    refine Nat.le_trans ih ?_
    conv => rhs; unfold lotK
    split <;> omega
theorem lotK_t {s : PS} {U : Nat → Prop} {a b td p : Nat} (h : lotP s U a b td p) : lotK s U a b td (p + 1) = lotK s U a b td p + 1 := by
  conv => lhs; unfold lotK
  exact if_pos h
theorem lotK_f {s : PS} {U : Nat → Prop} {a b td p : Nat} (h : ¬ lotP s U a b td p) : lotK s U a b td (p + 1) = lotK s U a b td p := by
  conv => lhs; unfold lotK
  exact if_neg h
theorem lotK_lt {s : PS} {U : Nat → Prop} {a b td p q : Nat} (h : lotP s U a b td p) (hq : p < q) : lotK s U a b td p < lotK s U a b td q := by
  have := lotK_t h
  have := lotK_mono (s := s) (U := U) (a := a) (b := b) (td := td) (show p + 1 ≤ q by omega)
  omega
theorem drawnQ_u {s : PS} (ho : PSok s) {U : Nat → Prop} {a b td : Nat} {nm r r' : Int32} (h : drawnQ s U a b td nm r) (h' : drawnQ s U a b td nm r') : r = r' := by
  have o60 := ho.1
  rcases h with ⟨q, q1, q2, q3, q4⟩ | ⟨h1, h2⟩
  · rcases h' with ⟨t, t1, t2, t3, t4⟩ | ⟨t1, t2⟩
    · have e := q3.trans t3.symm
      have k1 := lotK_le (s := s) (U := U) (a := a) (b := b) (td := td) q
      have k2 := lotK_le (s := s) (U := U) (a := a) (b := b) (td := td) t
      rw [nI_eq (by omega) (by omega)] at e
      have : q = t := by
        rcases Nat.lt_trichotomy q t with z | z | z
        · have := lotK_lt q2 z; omega
        · exact z
        · have := lotK_lt t2 z; omega
      rw [q4, t4, this]
    · exact absurd q3 (t1 q q1 q2)
  · rcases h' with ⟨t, t1, t2, t3, t4⟩ | ⟨t1, t2⟩
    · exact absurd t3 (h1 t t1 t2)
    · rw [h2, t2]
noncomputable def drwF (s : PS) (U : Nat → Prop) (a b td : Nat) (nm : Int32) : Int32 := Classical.epsilon (drawnQ s U a b td nm)
theorem drwF_eq {s : PS} (ho : PSok s) {U : Nat → Prop} {a b td : Nat} {nm r : Int32} (h : drawnQ s U a b td nm r) : drwF s U a b td nm = r := drawnQ_u ho (Classical.epsilon_spec ⟨r, h⟩) h
theorem drawn_no {s : PS} (ho : PSok s) {U : Nat → Prop} {a b td : Nat} {nm : Int32} (h : ¬ (0 ≤ nm ∧ nm < nI (lotK s U a b td s.1))) : drwF s U a b td nm = -1 := by
  have o60 := ho.1
  have k0 := lotK_le (s := s) (U := U) (a := a) (b := b) (td := td) s.1
  refine drwF_eq ho (Or.inr ⟨fun q q1 q2 e => h ?_, rfl⟩)
  have := lotK_lt q2 q1
  rw [← e]
  exact ⟨by rw [show (0 : Int32) = nI 0 from rfl, nI_leI (by decide) (by omega)]; omega, (nI_ltI (by omega) (by omega)).mpr this⟩
noncomputable def lotR (D : DK) (U : Nat → Prop) (s1 s2 : Nat) (r : RU) (td : Nat) (a b c : Int32) : Int32 × DK :=
  if 0 ≤ a ∧ a < nI D.2.2.1.1 then
    if cN D.2.2.1 a.toNatClampNeg 8 = 1 then
      if drwF D.1 U s1 s2 td b ≠ -1 ∧ (nI (if cN D.2.2.1 a.toNatClampNeg 14 < cN D.2.2.1 a.toNatClampNeg 13 then cN D.2.2.1 a.toNatClampNeg 14 else cN D.2.2.1 a.toNatClampNeg 13) ≤ c ∧ c ≤ nI (if cN D.2.2.1 a.toNatClampNeg 13 < cN D.2.2.1 a.toNatClampNeg 14 then cN D.2.2.1 a.toNatClampNeg 14 else cN D.2.2.1 a.toNatClampNeg 13)) then
        (drwF D.1 U s1 s2 td b, decD D r td a.toNatClampNeg c.toNatClampNeg (dueF D r td a.toNatClampNeg))
      else (-2, D)
    else (-4, D)
  else (-2, D)
theorem valBt {x n : Nat} (hx : x ≤ 999999) (hn : n ≤ 999999) {c : Int32} (h : nI x ≤ c ∧ c ≤ nI n) : ∃ k, k ≤ 999999 ∧ c = nI k := by
  obtain ⟨k, h1, h2, rfl⟩ := valU (n := n) (by omega) ⟨Int32.le_trans (by rw [show (0 : Int32) = nI 0 from rfl, nI_leI (by decide) (by omega)]; omega) h.1, h.2⟩
  exact ⟨k, by omega, rfl⟩
theorem ite_le {p : Prop} [Decidable p] {x y n : Nat} (hx : x ≤ n) (hy : y ≤ n) : (if p then x else y) ≤ n := by split <;> assumption
theorem x_Tc_lot {l : Launch} {g : kx_G} {d : Nat} {h : kx_Mem} (hs : SC h) (D : DK) (A : DA) (ho : DKok D) (hp : DKc D A h) (AV : Nat → Nat) (DV : Nat) (V : Nat → RU) (hV : CVs AV DV V h) (u : Nat) (hu : u < 4) (hif : h.1 0 10 = nI u) (hse : RSet (V u)) (td : Nat) (htd : td ≤ 1999) (hck : h.1 0 9 = nI td) (hfi : ∀ c, c < D.2.2.1.1 → cN D.2.2.1 c 5 ≤ td) (U : Nat → Prop) (hU : ∀ q, q < 60 → h.1 15 q = bP (U q)) (s1 s2 : Nat) (hs1 : s1 ≤ 3) (hs2 : s2 ≤ 3) (hsa : h.1 0 11 = nI s1) (hsb : h.1 0 12 = nI s2) (a b c : Int32) : kx_Sp l g m_Tc_lot [.ref 0, .int a, .int b, .int c] h (d + 6) 0 0 (fun v h' => DkQ (lotR D U s1 s2 (V u) td a b c) (fun D h => DKc D A h) FvC h v h') := by
  have o1 := ho.2.2.1.1
  by_cases e9 : 0 ≤ a ∧ a < nI D.2.2.1.1
  · skip
    obtain ⟨a9, ha9, rfl⟩ := valP (n := D.2.2.1.1) (by omega) e9
    have e1 : h.1 (A.1 a9) 8 = nI (cN D.2.2.1 a9 8) := ((hp.2.2.2.2.1.2 a9 ha9).2.2.2.1 8 (by decide) (by decide)).trans ((ho.2.2.1.2 a9 ha9).1 8 (by decide) (by decide) (by decide) (by decide))
    have e13 : h.1 (A.1 a9) 13 = nI (cN D.2.2.1 a9 13) := ((hp.2.2.2.2.1.2 a9 ha9).2.2.2.1 13 (by decide) (by decide)).trans ((ho.2.2.1.2 a9 ha9).1 13 (by decide) (by decide) (by decide) (by decide))
    have e14 : h.1 (A.1 a9) 14 = nI (cN D.2.2.1 a9 14) := ((hp.2.2.2.2.1.2 a9 ha9).2.2.2.1 14 (by decide) (by decide)).trans ((ho.2.2.1.2 a9 ha9).1 14 (by decide) (by decide) (by decide) (by decide))
    obtain ⟨-, -, -, -, -, -, -, -, -, q8, -, -, q13, q14, -⟩ := ho.2.2.1.2 a9 ha9
    refine kx_enter_e (lv := [_, _, _, _, _, _, _, _, _]) (by decide +kernel) (Nat.le_of_ble_eq_true rfl) rfl ?_
    refine kx_aload_n (pc := 0) (kx_dd d_Tc_lot 0 rfl) rfl rfl ?_
    refine kx_getR (pc := 1) (b := 39) fl_Tc_57 (hs.k 0 rfl) rfl (hs.r 6 rfl) (kx_dd d_Tc_lot 1 rfl) ?_
    refine kx_iload_n (pc := 4) (kx_dd d_Tc_lot 2 rfl) rfl rfl ?_
    refine kx_invV (pc := 5) (a := 39) (as := [_]) (kx_dd d_Tc_lot 3 rfl) ⟨lk_Tc_190, wi_Do_claimAt, we_Do_claimAt⟩ w_Do_claimAt (hs.k 39 rfl) rfl rfl rfl rfl (Nat.le_of_ble_eq_true rfl) (x_Do_claimAt (d := d + 2) hs D A ho hp a9 ha9) (Nat.le_refl _) ⟨Nat.le_refl _, Nat.le_refl _⟩ (fun v h' hq => ?_)
    obtain ⟨rfl, he⟩ := hq
    rw [he]
    clear he
    refine kx_astore_e (pc := 8) (lv' := [_, _, _, _, _, _, _, _, _]) (kx_dd d_Tc_lot 4 rfl) (Nat.le_of_ble_eq_true rfl) rfl ?_
    refine kx_aload_n (pc := 10) (kx_dd d_Tc_lot 5 rfl) rfl rfl ?_
    refine kx_aload_n (pc := 11) (kx_dd d_Tc_lot 6 rfl) rfl rfl ?_
    refine kx_getI (pc := 12) fl_Tc_148 (hs.k 0 rfl) rfl (kx_dd d_Tc_lot 7 rfl) ?_
    rw [hif]
    refine kx_invV (pc := 15) (a := 0) (as := [_]) (kx_dd d_Tc_lot 8 rfl) ⟨lk_Tc_151, wi_Tc_versionAt, we_Tc_versionAt⟩ w_Tc_versionAt (hs.k 0 rfl) rfl rfl rfl rfl (Nat.le_of_ble_eq_true rfl) (x_Tc_versionV (d := d + 4) hs AV DV V hV u hu) (Nat.le_refl _) ⟨Nat.le_refl _, Nat.le_refl _⟩ (fun v h' hq => ?_)
    obtain ⟨rfl, he⟩ := hq
    rw [he]
    clear he
    refine kx_astore_e (pc := 18) (lv' := [_, _, _, _, _, _, _, _, _]) (kx_dd d_Tc_lot 9 rfl) (Nat.le_of_ble_eq_true rfl) rfl ?_
    refine kx_aload (pc := 20) (kx_dd d_Tc_lot 10 rfl) rfl ?_
    refine kx_ifnull (pc := 22) (kx_dd d_Tc_lot 11 rfl) ?_
    refine kx_aload (pc := 25) (kx_dd d_Tc_lot 12 rfl) rfl ?_
    refine kx_ifnonnull (pc := 27) (tgt := 33) (kx_dd d_Tc_lot 13 rfl) rfl ?_
    refine kx_aload (pc := 33) (kx_dd d_Tc_lot 16 rfl) rfl ?_
    refine kx_getI (pc := 35) fl_Tc_239 (congrArg Prod.fst (hp.2.2.2.2.1.2 a9 ha9).2.2.1) rfl (kx_dd d_Tc_lot 17 rfl) ?_
    refine kx_iconst (pc := 38) (v := 1) (kx_dd d_Tc_lot 18 rfl) rfl ?_
    refine kx_icmp_eq (pc := 39) (tgt := 45) (kx_dd d_Tc_lot 19 rfl) rfl (fun c39 => ?_) (fun c39 => ?_)
    · rw [e1, show (1 : Int32) = nI 1 from rfl, nI_eq (by omega) (by decide)] at c39
      refine kx_aload_n (pc := 45) (kx_dd d_Tc_lot 22 rfl) rfl rfl ?_
      refine kx_getR (pc := 46) (b := 14) fl_Tc_34 (hs.k 0 rfl) rfl (hs.r 3 rfl) (kx_dd d_Tc_lot 23 rfl) ?_
      refine kx_iload_n (pc := 49) (kx_dd d_Tc_lot 24 rfl) rfl rfl ?_
      refine kx_aload_n (pc := 50) (kx_dd d_Tc_lot 25 rfl) rfl rfl ?_
      refine kx_getI (pc := 51) fl_Tc_129 (hs.k 0 rfl) rfl (kx_dd d_Tc_lot 26 rfl) ?_
      refine kx_aload_n (pc := 54) (kx_dd d_Tc_lot 27 rfl) rfl rfl ?_
      refine kx_getI (pc := 55) fl_Tc_78 (hs.k 0 rfl) rfl (kx_dd d_Tc_lot 28 rfl) ?_
      refine kx_aload_n (pc := 58) (kx_dd d_Tc_lot 29 rfl) rfl rfl ?_
      refine kx_getI (pc := 59) fl_Tc_94 (hs.k 0 rfl) rfl (kx_dd d_Tc_lot 30 rfl) ?_
      rw [hck, hsa, hsb]
      refine kx_invV (pc := 62) (a := 14) (as := [_, _, _, _]) (kx_dd d_Tc_lot 31 rfl) ⟨lk_Tc_270, wi_Pe_drawnBy, we_Pe_drawnBy⟩ w_Pe_drawnBy (hs.k 14 rfl) rfl rfl rfl rfl (Nat.le_of_ble_eq_true rfl) (x_Pe_drawnBy (d := d + 2) hs D.1 ho.1 hp.1 U hU s1 s2 td hs1 hs2 (by omega) b) (Nat.le_refl _) ⟨Nat.le_refl _, Nat.le_refl _⟩ (fun v h' hq => ?_)
      obtain ⟨dr, rfl, hdr, he⟩ := hq
      rw [he]
      clear he
      refine kx_istore_e (pc := 65) (lv' := [_, _, _, _, _, _, _, _, _]) (kx_dd d_Tc_lot 32 rfl) (Nat.le_of_ble_eq_true rfl) rfl ?_
      refine kx_aload (pc := 67) (kx_dd d_Tc_lot 33 rfl) rfl ?_
      refine kx_getI (pc := 69) fl_Tc_273 (congrArg Prod.fst (hp.2.2.2.2.1.2 a9 ha9).2.2.1) rfl (kx_dd d_Tc_lot 34 rfl) ?_
      refine kx_aload (pc := 72) (kx_dd d_Tc_lot 35 rfl) rfl ?_
      refine kx_getI (pc := 74) fl_Tc_276 (congrArg Prod.fst (hp.2.2.2.2.1.2 a9 ha9).2.2.1) rfl (kx_dd d_Tc_lot 36 rfl) ?_
      refine kx_mmin (pc := 77) mk_Tc_254 (kx_dd d_Tc_lot 37 rfl) (Nat.le_of_ble_eq_true rfl) (Nat.le_of_ble_eq_true rfl) (Nat.le_refl _) (Nat.le_refl _) ?_
      rw [e13, e14, minI (by omega) (by omega)]
      refine kx_istore_e (pc := 80) (lv' := [_, _, _, _, _, _, _, _, _]) (kx_dd d_Tc_lot 38 rfl) (Nat.le_of_ble_eq_true rfl) rfl ?_
      refine kx_aload (pc := 82) (kx_dd d_Tc_lot 39 rfl) rfl ?_
      refine kx_getI (pc := 84) fl_Tc_273 (congrArg Prod.fst (hp.2.2.2.2.1.2 a9 ha9).2.2.1) rfl (kx_dd d_Tc_lot 40 rfl) ?_
      refine kx_aload (pc := 87) (kx_dd d_Tc_lot 41 rfl) rfl ?_
      refine kx_getI (pc := 89) fl_Tc_276 (congrArg Prod.fst (hp.2.2.2.2.1.2 a9 ha9).2.2.1) rfl (kx_dd d_Tc_lot 42 rfl) ?_
      refine kx_mmax (pc := 92) mk_Tc_279 (kx_dd d_Tc_lot 43 rfl) (Nat.le_of_ble_eq_true rfl) (Nat.le_of_ble_eq_true rfl) (Nat.le_refl _) (Nat.le_refl _) ?_
      rw [e13, e14, maxI (by omega) (by omega)]
      refine kx_istore_e (pc := 95) (lv' := [_, _, _, _, _, _, _, _, _]) (kx_dd d_Tc_lot 44 rfl) (Nat.le_of_ble_eq_true rfl) rfl ?_
      refine kx_iload (pc := 97) (kx_dd d_Tc_lot 45 rfl) rfl ?_
      refine kx_iconst (pc := 99) (v := -1) (kx_dd d_Tc_lot 46 rfl) rfl ?_
      refine kx_icmp_eq (pc := 100) (tgt := 114) (kx_dd d_Tc_lot 47 rfl) rfl (fun c100 => ?_) (fun c100 => ?_)
      · refine kx_bipush (pc := 114) (v := -2) (kx_dd d_Tc_lot 53 rfl) rfl ?_
        refine kx_iret (pc := 116) rfl (kx_dd d_Tc_lot 54 rfl) (Nat.le_refl _) (Nat.le_refl _) ?_
        dsimp only
        exact DkQ.of (by unfold lotR; rw [if_pos e9, nI_clamp (by omega), if_pos c39, if_neg (fun z => z.1 ((drwF_eq ho.1 hdr).trans c100))]) ho hp kx_Fc.rf
      · refine kx_iload_n (pc := 103) (kx_dd d_Tc_lot 48 rfl) rfl rfl ?_
        refine kx_iload (pc := 104) (kx_dd d_Tc_lot 49 rfl) rfl ?_
        refine kx_iload (pc := 106) (kx_dd d_Tc_lot 50 rfl) rfl ?_
        refine kx_invS (pc := 108) (as := [_, _, _]) (kx_dd d_Tc_lot 51 rfl) ⟨lk_Tc_90, wt_Tc_within⟩ w_Tc_within rfl rfl (Nat.le_of_ble_eq_true rfl) (x_Tc_within (d := d + 5) c _ _) (Nat.le_refl _) ⟨Nat.le_refl _, Nat.le_refl _⟩ (fun v h' hq => ?_)
        obtain ⟨rfl, he⟩ := hq
        rw [he]
        clear he
        refine kx_if_ne (pc := 111) (tgt := 117) (kx_dd d_Tc_lot 52 rfl) rfl (fun c111 => ?_) (fun c111 => ?_)
        · have c111 := (bP_ti _).mp c111
          obtain ⟨c9, hsu, rfl⟩ := valBt (ite_le q14 q13) (ite_le q14 q13) c111
          have hdu := dueF_le ho (r := V u) (td := td) ha9
          refine kx_aload_n (pc := 117) (kx_dd d_Tc_lot 55 rfl) rfl rfl ?_
          refine kx_getR (pc := 118) (b := 39) fl_Tc_57 (hs.k 0 rfl) rfl (hs.r 6 rfl) (kx_dd d_Tc_lot 56 rfl) ?_
          refine kx_aload (pc := 121) (kx_dd d_Tc_lot 57 rfl) rfl ?_
          refine kx_iload_n (pc := 123) (kx_dd d_Tc_lot 58 rfl) rfl rfl ?_
          refine kx_aload_n (pc := 124) (kx_dd d_Tc_lot 59 rfl) rfl rfl ?_
          refine kx_getR (pc := 125) (b := 39) fl_Tc_57 (hs.k 0 rfl) rfl (hs.r 6 rfl) (kx_dd d_Tc_lot 60 rfl) ?_
          refine kx_aload (pc := 128) (kx_dd d_Tc_lot 61 rfl) rfl ?_
          refine kx_aload (pc := 130) (kx_dd d_Tc_lot 62 rfl) rfl ?_
          refine kx_aload_n (pc := 132) (kx_dd d_Tc_lot 63 rfl) rfl rfl ?_
          refine kx_getI (pc := 133) fl_Tc_94 (hs.k 0 rfl) rfl (kx_dd d_Tc_lot 64 rfl) ?_
          rw [hck]
          refine kx_invV (pc := 136) (a := 39) (as := [_, _, _]) (kx_dd d_Tc_lot 65 rfl) ⟨lk_Tc_243, wi_Do_dueOf, we_Do_dueOf⟩ w_Do_dueOf (hs.k 39 rfl) rfl rfl rfl rfl (Nat.le_of_ble_eq_true rfl) (x_Do_dueOf (d := d) hs D A ho hp (AV u) (hV.2.2 u hu).2.1 (V u) (hV.2.2 u hu).2.2.2.1 (hV.2.2 u hu).2.2.2.2.1 a9 ha9 td (by omega)) (Nat.le_refl _) ⟨Nat.le_refl _, Nat.le_refl _⟩ (fun v h' hq => ?_)
          revert h'
          intro h1 hq
          obtain ⟨rfl, hf9⟩ := hq
          have hs : SC h1 := hs.fc hf9
          have hp : DKc D A h1 := hp.fd hf9
          have hV : CVs AV DV V h1 := hV.fv hf9 (fun b j q1 q2 => by unfold FdC; omega)
          have hck : h1.1 0 9 = nI td := by rw [hf9.2 0 9 (by unfold FdC; omega)]; exact hck
          have hF9 : kx_Fc FvC h h1 := hf9.mono (fun a j z => by unfold FdC at z; unfold FvC; omega)
          refine kx_aload (pc := 139) (kx_dd d_Tc_lot 66 rfl) rfl ?_
          refine kx_aload_n (pc := 141) (kx_dd d_Tc_lot 67 rfl) rfl rfl ?_
          refine kx_getI (pc := 142) fl_Tc_94 (hs.k 0 rfl) rfl (kx_dd d_Tc_lot 68 rfl) ?_
          rw [hck]
          refine kx_invV (pc := 145) (a := 39) (as := [_, _, _, _, _]) (kx_dd d_Tc_lot 69 rfl) ⟨lk_Tc_259, wi_Do_decide, we_Do_decide⟩ w_Do_decide (hs.k 39 rfl) rfl rfl rfl rfl (Nat.le_of_ble_eq_true rfl) (x_Do_decide (d := d) hs D A ho hp (AV u) (hV.2.2 u hu).2.1 (V u) (hV.2.2 u hu).2.2.2.1 hse (hV.2.2 u hu).2.2.2.2.1 a9 ha9 td htd (hfi a9 ha9) c9 hsu (by omega) (dueF D (V u) td a9) hdu) (Nat.le_refl _) ⟨Nat.le_refl _, Nat.le_refl _⟩ (fun v h' hq => ?_)
          revert h'
          intro h2 hq
          obtain ⟨rfl, hp2, hf2⟩ := hq
          have hs : SC h2 := hs.fc hf2
          refine kx_iload (pc := 148) (kx_dd d_Tc_lot 70 rfl) rfl ?_
          refine kx_iret (pc := 150) rfl (kx_dd d_Tc_lot 71 rfl) (Nat.le_refl _) (Nat.le_refl _) ?_
          dsimp only
          exact DkQ.of (by unfold lotR; rw [if_pos e9, nI_clamp (by omega), nI_clamp (by omega), if_pos c39, if_pos ⟨fun z => c100 ((drwF_eq ho.1 hdr).symm.trans z), c111⟩, drwF_eq ho.1 hdr]) (ho.dec hse hsu htd hdu) hp2 (hF9.tr (hf2.mono (fun a j z => Or.inr (by have := (hp.2.2.2.2.1.2 a9 ha9).1; omega))))
        · refine kx_bipush (pc := 114) (v := -2) (kx_dd d_Tc_lot 53 rfl) rfl ?_
          refine kx_iret (pc := 116) rfl (kx_dd d_Tc_lot 54 rfl) (Nat.le_refl _) (Nat.le_refl _) ?_
          dsimp only
          exact DkQ.of (by unfold lotR; rw [if_pos e9, nI_clamp (by omega), if_pos c39, if_neg (fun z => bP_0.mp c111 z.2)]) ho hp kx_Fc.rf
    · refine kx_bipush (pc := 42) (v := -4) (kx_dd d_Tc_lot 20 rfl) rfl ?_
      refine kx_iret (pc := 44) rfl (kx_dd d_Tc_lot 21 rfl) (Nat.le_refl _) (Nat.le_refl _) ?_
      rw [e1, show (1 : Int32) = nI 1 from rfl, nI_eq (by omega) (by decide)] at c39
      dsimp only
      exact DkQ.of (by unfold lotR; rw [if_pos e9, nI_clamp (by omega), if_neg c39]) ho hp kx_Fc.rf
  · skip
    refine kx_enter_e (lv := [_, _, _, _, _, _, _, _, _]) (by decide +kernel) (Nat.le_of_ble_eq_true rfl) rfl ?_
    refine kx_aload_n (pc := 0) (kx_dd d_Tc_lot 0 rfl) rfl rfl ?_
    refine kx_getR (pc := 1) (b := 39) fl_Tc_57 (hs.k 0 rfl) rfl (hs.r 6 rfl) (kx_dd d_Tc_lot 1 rfl) ?_
    refine kx_iload_n (pc := 4) (kx_dd d_Tc_lot 2 rfl) rfl rfl ?_
    refine kx_invV (pc := 5) (a := 39) (as := [_]) (kx_dd d_Tc_lot 3 rfl) ⟨lk_Tc_190, wi_Do_claimAt, we_Do_claimAt⟩ w_Do_claimAt (hs.k 39 rfl) rfl rfl rfl rfl (Nat.le_of_ble_eq_true rfl) (x_Do_claimAtN (d := d + 4) hs D A ho hp a e9) (Nat.le_refl _) ⟨Nat.le_refl _, Nat.le_refl _⟩ (fun v h' hq => ?_)
    obtain ⟨rfl, he⟩ := hq
    rw [he]
    clear he
    refine kx_astore_eN (pc := 8) (lv' := [_, _, _, _, _, _, _, _, _]) (kx_dd d_Tc_lot 4 rfl) (Nat.le_of_ble_eq_true rfl) rfl ?_
    refine kx_aload_n (pc := 10) (kx_dd d_Tc_lot 5 rfl) rfl rfl ?_
    refine kx_aload_n (pc := 11) (kx_dd d_Tc_lot 6 rfl) rfl rfl ?_
    refine kx_getI (pc := 12) fl_Tc_148 (hs.k 0 rfl) rfl (kx_dd d_Tc_lot 7 rfl) ?_
    rw [hif]
    refine kx_invV (pc := 15) (a := 0) (as := [_]) (kx_dd d_Tc_lot 8 rfl) ⟨lk_Tc_151, wi_Tc_versionAt, we_Tc_versionAt⟩ w_Tc_versionAt (hs.k 0 rfl) rfl rfl rfl rfl (Nat.le_of_ble_eq_true rfl) (x_Tc_versionV (d := d + 4) hs AV DV V hV u hu) (Nat.le_refl _) ⟨Nat.le_refl _, Nat.le_refl _⟩ (fun v h' hq => ?_)
    obtain ⟨rfl, he⟩ := hq
    rw [he]
    clear he
    refine kx_astore_e (pc := 18) (lv' := [_, _, _, _, _, _, _, _, _]) (kx_dd d_Tc_lot 9 rfl) (Nat.le_of_ble_eq_true rfl) rfl ?_
    refine kx_aloadN (pc := 20) (kx_dd d_Tc_lot 10 rfl) rfl ?_
    refine kx_ifnullN (pc := 22) (tgt := 30) (kx_dd d_Tc_lot 11 rfl) rfl ?_
    refine kx_bipush (pc := 30) (v := -2) (kx_dd d_Tc_lot 14 rfl) rfl ?_
    refine kx_iret (pc := 32) rfl (kx_dd d_Tc_lot 15 rfl) (Nat.le_refl _) (Nat.le_refl _) ?_
    dsimp only
    exact DkQ.of (if_neg e9) ho hp kx_Fc.rf
theorem y_lot_loop {l : Launch} {g : kx_G} {d : Nat} {h : kx_Mem} (hm : SM h) (nw : Nat) (T : Nat → Nat) (hwt : WTok nw T) (D : DK) (ho : DKok D) (hp : DKm D nw T h) (td : Nat) (htd : td ≤ 1999) (hck : h.1 84 36 = nI td) (U : Nat → Prop) (hU : ∀ q, q < 60 → h.1 117 q = bP (U q)) (s1 s2 : Nat) (hs1 : s1 ≤ 3) (hs2 : s2 ≤ 3) (hsa : h.1 84 37 = nI s1) (hsb : h.1 84 38 = nI s2) (Q : Option Value → kx_Mem → Prop) (x1 x2 x3 : Int32) (k : Nat) (hk : k < lotK D.1 U s1 s2 td D.1.1) (kont : ∀ q, q < D.1.1 → lotP D.1 U s1 s2 td q → lotK D.1 U s1 s2 td q = k → kx_X (l, g, m_Mo_lot, d + 3, 0, 0, Q) 0 0 128 [some (.ref 84), some (.int x1), some (.int x2), some (.int x3), some (.int (nI q)), some (.int (nI (k - lotK D.1 U s1 s2 td q)))] [] h) : ∀ n q, q + n = D.1.1 → lotK D.1 U s1 s2 td q ≤ k → kx_X (l, g, m_Mo_lot, d + 3, 0, 0, Q) 0 0 89 [some (.ref 84), some (.int x1), some (.int x2), some (.int x3), some (.int (nI q)), some (.int (nI (k - lotK D.1 U s1 s2 td q)))] [] h := by
  have o60 := ho.1.1
  have k60 := lotK_le (s := D.1) (U := U) (a := s1) (b := s2) (td := td) D.1.1
  intro n
  induction n with
  | zero =>
    intro q hq hle
    have e : q = D.1.1 := by omega
    subst e
    omega
  | succ n ih =>
    intro q hq hle
    refine kx_iload (pc := 89) (kx_dd d_Mo_lot 54 rfl) rfl ?_
    refine kx_if_gt (pc := 91) (tgt := 103) (kx_dd d_Mo_lot 55 rfl) rfl (fun c91 => ?_) (fun c91 => ?_)
    · refine kx_iload (pc := 103) (kx_dd d_Mo_lot 60 rfl) rfl ?_
      refine kx_aload_n (pc := 105) (kx_dd d_Mo_lot 61 rfl) rfl rfl ?_
      refine kx_iload (pc := 106) (kx_dd d_Mo_lot 62 rfl) rfl ?_
      refine kx_invV (pc := 108) (a := 84) (as := [_]) (kx_dd d_Mo_lot 63 rfl) ⟨lk_Mo_579, wi_Mo_mayJudge, we_Mo_mayJudge⟩ w_Mo_mayJudge (hm.k 0 rfl) rfl rfl rfl rfl (Nat.le_of_ble_eq_true rfl) (y_mayJudge (d := d) hm D.1 ho.1 hp.1 U hU s1 s2 td hs1 hs2 (by omega) hck hsa hsb q (by omega)) (Nat.le_refl _) ⟨Nat.le_refl _, Nat.le_refl _⟩ (fun v h' hq => ?_)
      obtain ⟨rfl, he⟩ := hq
      rw [he]
      clear he
      refine kx_if_eq (pc := 111) (tgt := 118) (kx_dd d_Mo_lot 64 rfl) rfl (fun c111 => ?_) (fun c111 => ?_)
      · refine kx_iconst (pc := 118) (v := 0) (kx_dd d_Mo_lot 67 rfl) rfl ?_
        refine kx_isub (pc := 119) (kx_dd d_Mo_lot 68 rfl) ?_
        refine kx_istore_e (pc := 120) (lv' := [_, _, _, _, _, _]) (kx_dd d_Mo_lot 69 rfl) (Nat.le_of_ble_eq_true rfl) rfl ?_
        refine kx_iinc_e (pc := 122) (v := nI (q + 1)) (lv' := [_, _, _, _, _, _]) (kx_dd d_Mo_lot 70 rfl) rfl (Nat.le_of_ble_eq_true rfl) (nI_1 q) rfl ?_
        refine kx_goto (pc := 125) (tgt := 89) (kx_dd d_Mo_lot 71 rfl) rfl ?_
        have c91 : 0 < k - lotK D.1 U s1 s2 td q := by rw [show (0 : Int32) = nI 0 from rfl, nI_ltI (by decide) (by omega)] at c91; exact c91
        have e := lotK_f (bP_0.mp c111)
        have ih1 := ih (q + 1) (by omega) (by omega)
        rw [e] at ih1
        rw [Int32.sub_zero]
        exact ih1
      · refine kx_iconst (pc := 114) (v := 1) (kx_dd d_Mo_lot 65 rfl) rfl ?_
        refine kx_goto (pc := 115) (tgt := 119) (kx_dd d_Mo_lot 66 rfl) rfl ?_
        refine kx_isub (pc := 119) (kx_dd d_Mo_lot 68 rfl) ?_
        refine kx_istore_e (pc := 120) (lv' := [_, _, _, _, _, _]) (kx_dd d_Mo_lot 69 rfl) (Nat.le_of_ble_eq_true rfl) rfl ?_
        refine kx_iinc_e (pc := 122) (v := nI (q + 1)) (lv' := [_, _, _, _, _, _]) (kx_dd d_Mo_lot 70 rfl) rfl (Nat.le_of_ble_eq_true rfl) (nI_1 q) rfl ?_
        refine kx_goto (pc := 125) (tgt := 89) (kx_dd d_Mo_lot 71 rfl) rfl ?_
        have c91 : 0 < k - lotK D.1 U s1 s2 td q := by rw [show (0 : Int32) = nI 0 from rfl, nI_ltI (by decide) (by omega)] at c91; exact c91
        have e := lotK_t ((bP_ti _).mp c111)
        have ih1 := ih (q + 1) (by omega) (by omega)
        rw [e] at ih1
        rw [show (1 : Int32) = nI 1 from rfl, pk_sub (by omega), show k - lotK D.1 U s1 s2 td q - 1 = k - (lotK D.1 U s1 s2 td q + 1) by omega]
        exact ih1
    · refine kx_aload_n (pc := 94) (kx_dd d_Mo_lot 56 rfl) rfl rfl ?_
      refine kx_iload (pc := 95) (kx_dd d_Mo_lot 57 rfl) rfl ?_
      refine kx_invV (pc := 97) (a := 84) (as := [_]) (kx_dd d_Mo_lot 58 rfl) ⟨lk_Mo_579, wi_Mo_mayJudge, we_Mo_mayJudge⟩ w_Mo_mayJudge (hm.k 0 rfl) rfl rfl rfl rfl (Nat.le_of_ble_eq_true rfl) (y_mayJudge (d := d) hm D.1 ho.1 hp.1 U hU s1 s2 td hs1 hs2 (by omega) hck hsa hsb q (by omega)) (Nat.le_refl _) ⟨Nat.le_refl _, Nat.le_refl _⟩ (fun v h' hq => ?_)
      obtain ⟨rfl, he⟩ := hq
      rw [he]
      clear he
      refine kx_if_ne (pc := 100) (tgt := 128) (kx_dd d_Mo_lot 59 rfl) rfl (fun c100 => ?_) (fun c100 => ?_)
      · have c91 : k - lotK D.1 U s1 s2 td q = 0 := by rw [show (0 : Int32) = nI 0 from rfl, nI_ltI (by decide) (by omega)] at c91; omega
        exact kont q (by omega) ((bP_ti _).mp c100) (by omega)
      · refine kx_iload (pc := 103) (kx_dd d_Mo_lot 60 rfl) rfl ?_
        refine kx_aload_n (pc := 105) (kx_dd d_Mo_lot 61 rfl) rfl rfl ?_
        refine kx_iload (pc := 106) (kx_dd d_Mo_lot 62 rfl) rfl ?_
        refine kx_invV (pc := 108) (a := 84) (as := [_]) (kx_dd d_Mo_lot 63 rfl) ⟨lk_Mo_579, wi_Mo_mayJudge, we_Mo_mayJudge⟩ w_Mo_mayJudge (hm.k 0 rfl) rfl rfl rfl rfl (Nat.le_of_ble_eq_true rfl) (y_mayJudge (d := d) hm D.1 ho.1 hp.1 U hU s1 s2 td hs1 hs2 (by omega) hck hsa hsb q (by omega)) (Nat.le_refl _) ⟨Nat.le_refl _, Nat.le_refl _⟩ (fun v h' hq => ?_)
        obtain ⟨rfl, he⟩ := hq
        rw [he]
        clear he
        refine kx_if_eq (pc := 111) (tgt := 118) (kx_dd d_Mo_lot 64 rfl) rfl (fun c111 => ?_) (fun c111 => ?_)
        · refine kx_iconst (pc := 118) (v := 0) (kx_dd d_Mo_lot 67 rfl) rfl ?_
          refine kx_isub (pc := 119) (kx_dd d_Mo_lot 68 rfl) ?_
          refine kx_istore_e (pc := 120) (lv' := [_, _, _, _, _, _]) (kx_dd d_Mo_lot 69 rfl) (Nat.le_of_ble_eq_true rfl) rfl ?_
          refine kx_iinc_e (pc := 122) (v := nI (q + 1)) (lv' := [_, _, _, _, _, _]) (kx_dd d_Mo_lot 70 rfl) rfl (Nat.le_of_ble_eq_true rfl) (nI_1 q) rfl ?_
          refine kx_goto (pc := 125) (tgt := 89) (kx_dd d_Mo_lot 71 rfl) rfl ?_
          have c91 : k - lotK D.1 U s1 s2 td q = 0 := by rw [show (0 : Int32) = nI 0 from rfl, nI_ltI (by decide) (by omega)] at c91; omega
          have e := lotK_f (bP_0.mp c111)
          have ih1 := ih (q + 1) (by omega) (by omega)
          rw [e] at ih1
          rw [Int32.sub_zero]
          exact ih1
        · refine kx_iconst (pc := 114) (v := 1) (kx_dd d_Mo_lot 65 rfl) rfl ?_
          refine kx_goto (pc := 115) (tgt := 119) (kx_dd d_Mo_lot 66 rfl) rfl ?_
          refine kx_isub (pc := 119) (kx_dd d_Mo_lot 68 rfl) ?_
          refine kx_istore_e (pc := 120) (lv' := [_, _, _, _, _, _]) (kx_dd d_Mo_lot 69 rfl) (Nat.le_of_ble_eq_true rfl) rfl ?_
          refine kx_iinc_e (pc := 122) (v := nI (q + 1)) (lv' := [_, _, _, _, _, _]) (kx_dd d_Mo_lot 70 rfl) rfl (Nat.le_of_ble_eq_true rfl) (nI_1 q) rfl ?_
          refine kx_goto (pc := 125) (tgt := 89) (kx_dd d_Mo_lot 71 rfl) rfl ?_
          have c91 : k - lotK D.1 U s1 s2 td q = 0 := by rw [show (0 : Int32) = nI 0 from rfl, nI_ltI (by decide) (by omega)] at c91; omega
          exact absurd ((bP_ti _).mp c111) (bP_0.mp c100)
theorem y_lot {l : Launch} {g : kx_G} {d : Nat} {h : kx_Mem} (hm : SM h) (nw : Nat) (T : Nat → Nat) (hwt : WTok nw T) (D : DK) (ho : DKok D) (hp : DKm D nw T h) (td : Nat) (htd : td ≤ 1999) (hck : h.1 84 36 = nI td) (U : Nat → Prop) (hU : ∀ q, q < 60 → h.1 117 q = bP (U q)) (s1 s2 : Nat) (hs1 : s1 ≤ 3) (hs2 : s2 ≤ 3) (hsa : h.1 84 37 = nI s1) (hsb : h.1 84 38 = nI s2) (r : RU) (u : Nat) (hu : u < 4) (hro : RUok r) (hse : RSet r) (hrp : RUm r u nw T h) (hif : h.1 84 31 = nI u) (hfi : ∀ c, c < D.2.2.1.1 → cN D.2.2.1 c 5 ≤ td) (a b c : Int32) : kx_Sp l g m_Mo_lot [.ref 84, .int a, .int b, .int c] h (d + 8) 0 0 (fun v h' => DkQ (lotR D U s1 s2 r td a b c) (fun D h => DKm D nw T h) (FvM D.2.2.1.1) h v h') := by
  have o1 := ho.2.2.1.1
  have o60 := ho.1.1
  have k60 := lotK_le (s := D.1) (U := U) (a := s1) (b := s2) (td := td) D.1.1
  refine kx_enter_e (lv := [_, _, _, _, _, _]) (by decide +kernel) (Nat.le_of_ble_eq_true rfl) rfl ?_
  refine kx_aload_n (pc := 0) (kx_dd d_Mo_lot 0 rfl) rfl rfl ?_
  refine kx_iload_n (pc := 1) (kx_dd d_Mo_lot 1 rfl) rfl rfl ?_
  refine kx_invV (pc := 2) (a := 84) (as := [_]) (kx_dd d_Mo_lot 2 rfl) ⟨lk_Mo_520, wi_Mo_isClaim, we_Mo_isClaim⟩ w_Mo_isClaim (hm.k 0 rfl) rfl rfl rfl rfl (Nat.le_of_ble_eq_true rfl) (y_isClaim (d := d + 6) hm nw T hwt D ho hp a) (Nat.le_refl _) ⟨Nat.le_refl _, Nat.le_refl _⟩ (fun v h' hq => ?_)
  obtain ⟨rfl, he⟩ := hq
  rw [he]
  clear he
  refine kx_if_ne (pc := 5) (tgt := 11) (kx_dd d_Mo_lot 3 rfl) rfl (fun c5 => ?_) (fun c5 => ?_)
  · have c5 := (bP_ti _).mp c5
    obtain ⟨a9, ha9, rfl⟩ := valP (n := D.2.2.1.1) (by omega) c5
    have e1 : h.1 130 a9 = nI (cN D.2.2.1 a9 8) := ((hp.2.2.1.2 a9 ha9).1 8 (by decide) (by decide) (by decide)).trans ((ho.2.2.1.2 a9 ha9).1 8 (by decide) (by decide) (by decide) (by decide))
    have e13 : h.1 135 a9 = nI (cN D.2.2.1 a9 13) := ((hp.2.2.1.2 a9 ha9).1 13 (by decide) (by decide) (by decide)).trans ((ho.2.2.1.2 a9 ha9).1 13 (by decide) (by decide) (by decide) (by decide))
    have e14 : h.1 136 a9 = nI (cN D.2.2.1 a9 14) := ((hp.2.2.1.2 a9 ha9).1 14 (by decide) (by decide) (by decide)).trans ((ho.2.2.1.2 a9 ha9).1 14 (by decide) (by decide) (by decide) (by decide))
    obtain ⟨-, -, -, -, -, -, -, -, -, q8, -, -, q13, q14, -⟩ := ho.2.2.1.2 a9 ha9
    refine kx_aload_n (pc := 11) (kx_dd d_Mo_lot 6 rfl) rfl rfl ?_
    refine kx_getR (pc := 12) (b := 130) fl_Mo_348 (hm.k 0 rfl) rfl (hm.r 45 rfl) (kx_dd d_Mo_lot 7 rfl) ?_
    refine kx_iload_n (pc := 15) (kx_dd d_Mo_lot 8 rfl) rfl rfl ?_
    refine kx_ialdn (pc := 16) a9 (hm.t 46 rfl) rfl (by omega) (by decide) (kx_dd d_Mo_lot 9 rfl) ?_
    refine kx_iconst (pc := 17) (v := 1) (kx_dd d_Mo_lot 10 rfl) rfl ?_
    refine kx_icmp_eq (pc := 18) (tgt := 24) (kx_dd d_Mo_lot 11 rfl) rfl (fun c18 => ?_) (fun c18 => ?_)
    · rw [e1, show (1 : Int32) = nI 1 from rfl, nI_eq (by omega) (by decide)] at c18
      refine kx_iload_n (pc := 24) (kx_dd d_Mo_lot 14 rfl) rfl rfl ?_
      refine kx_i2l (pc := 25) (kx_dd d_Mo_lot 15 rfl) ?_
      refine kx_lconst (pc := 26) (v := 0) (kx_dd d_Mo_lot 16 rfl) rfl ?_
      refine kx_aload_n (pc := 27) (kx_dd d_Mo_lot 17 rfl) rfl rfl ?_
      refine kx_invV (pc := 28) (a := 84) (as := []) (kx_dd d_Mo_lot 18 rfl) ⟨lk_Mo_582, wi_Mo_lotMany, we_Mo_lotMany⟩ w_Mo_lotMany (hm.k 0 rfl) rfl rfl rfl rfl (Nat.le_of_ble_eq_true rfl) (y_lotMany (d := d + 4) hm D.1 ho.1 hp.1 U hU s1 s2 td hs1 hs2 (by omega) hck hsa hsb) (Nat.le_refl _) ⟨Nat.le_refl _, Nat.le_refl _⟩ (fun v h' hq => ?_)
      obtain ⟨rfl, he⟩ := hq
      rw [he]
      clear he
      refine kx_i2l (pc := 31) (kx_dd d_Mo_lot 19 rfl) ?_
      refine kx_lconst (pc := 32) (v := 1) (kx_dd d_Mo_lot 20 rfl) rfl ?_
      refine kx_lsub (pc := 33) (kx_dd d_Mo_lot 21 rfl) ?_
      refine kx_invS (pc := 34) (as := [_, _, _]) (kx_dd d_Mo_lot 22 rfl) ⟨lk_Mo_5, wt_Mo_in⟩ w_Mo_in rfl rfl (Nat.le_of_ble_eq_true rfl) (y_in (d := d + 7) _ _ _) (Nat.le_refl _) ⟨Nat.le_refl _, Nat.le_refl _⟩ (fun v h' hq => ?_)
      obtain ⟨rfl, he⟩ := hq
      rw [he]
      clear he
      refine kx_if_eq (pc := 37) (tgt := 80) (kx_dd d_Mo_lot 23 rfl) rfl (fun c37 => ?_) (fun c37 => ?_)
      · refine kx_bipush (pc := 80) (v := -2) (kx_dd d_Mo_lot 48 rfl) rfl ?_
        refine kx_iret (pc := 82) rfl (kx_dd d_Mo_lot 49 rfl) (Nat.le_refl _) (Nat.le_refl _) ?_
        have c37 := bP_0.mp c37
        rw [w_le0, w_pred (by omega)] at c37
        dsimp only
        exact DkQ.of (by unfold lotR; rw [if_pos c5, nI_clamp (by omega), if_pos c18, if_neg (fun z => z.1 (drawn_no ho.1 c37))]) ho hp kx_Fc.rf
      · refine kx_iload_n (pc := 40) (kx_dd d_Mo_lot 24 rfl) rfl rfl ?_
        refine kx_i2l (pc := 41) (kx_dd d_Mo_lot 25 rfl) ?_
        refine kx_aload_n (pc := 42) (kx_dd d_Mo_lot 26 rfl) rfl rfl ?_
        refine kx_getR (pc := 43) (b := 135) fl_Mo_363 (hm.k 0 rfl) rfl (hm.r 50 rfl) (kx_dd d_Mo_lot 27 rfl) ?_
        refine kx_iload_n (pc := 46) (kx_dd d_Mo_lot 28 rfl) rfl rfl ?_
        refine kx_ialdn (pc := 47) a9 (hm.t 51 rfl) rfl (by omega) (by decide) (kx_dd d_Mo_lot 29 rfl) ?_
        refine kx_aload_n (pc := 48) (kx_dd d_Mo_lot 30 rfl) rfl rfl ?_
        refine kx_getR (pc := 49) (b := 136) fl_Mo_366 (hm.k 0 rfl) rfl (hm.r 51 rfl) (kx_dd d_Mo_lot 31 rfl) ?_
        refine kx_iload_n (pc := 52) (kx_dd d_Mo_lot 32 rfl) rfl rfl ?_
        refine kx_ialdn (pc := 53) a9 (hm.t 52 rfl) rfl (by omega) (by decide) (kx_dd d_Mo_lot 33 rfl) ?_
        refine kx_mmin (pc := 54) mk_Mo_489 (kx_dd d_Mo_lot 34 rfl) (Nat.le_of_ble_eq_true rfl) (Nat.le_of_ble_eq_true rfl) (Nat.le_refl _) (Nat.le_refl _) ?_
        rw [e13, e14, minI (by omega) (by omega)]
        refine kx_i2l (pc := 57) (kx_dd d_Mo_lot 35 rfl) ?_
        refine kx_aload_n (pc := 58) (kx_dd d_Mo_lot 36 rfl) rfl rfl ?_
        refine kx_getR (pc := 59) (b := 135) fl_Mo_363 (hm.k 0 rfl) rfl (hm.r 50 rfl) (kx_dd d_Mo_lot 37 rfl) ?_
        refine kx_iload_n (pc := 62) (kx_dd d_Mo_lot 38 rfl) rfl rfl ?_
        refine kx_ialdn (pc := 63) a9 (hm.t 51 rfl) rfl (by omega) (by decide) (kx_dd d_Mo_lot 39 rfl) ?_
        refine kx_aload_n (pc := 64) (kx_dd d_Mo_lot 40 rfl) rfl rfl ?_
        refine kx_getR (pc := 65) (b := 136) fl_Mo_366 (hm.k 0 rfl) rfl (hm.r 51 rfl) (kx_dd d_Mo_lot 41 rfl) ?_
        refine kx_iload_n (pc := 68) (kx_dd d_Mo_lot 42 rfl) rfl rfl ?_
        refine kx_ialdn (pc := 69) a9 (hm.t 52 rfl) rfl (by omega) (by decide) (kx_dd d_Mo_lot 43 rfl) ?_
        refine kx_mmax (pc := 70) mk_Mo_541 (kx_dd d_Mo_lot 44 rfl) (Nat.le_of_ble_eq_true rfl) (Nat.le_of_ble_eq_true rfl) (Nat.le_refl _) (Nat.le_refl _) ?_
        rw [e13, e14, maxI (by omega) (by omega)]
        refine kx_i2l (pc := 73) (kx_dd d_Mo_lot 45 rfl) ?_
        refine kx_invS (pc := 74) (as := [_, _, _]) (kx_dd d_Mo_lot 46 rfl) ⟨lk_Mo_5, wt_Mo_in⟩ w_Mo_in rfl rfl (Nat.le_of_ble_eq_true rfl) (y_in (d := d + 7) _ _ _) (Nat.le_refl _) ⟨Nat.le_refl _, Nat.le_refl _⟩ (fun v h' hq => ?_)
        obtain ⟨rfl, he⟩ := hq
        rw [he]
        clear he
        refine kx_if_ne (pc := 77) (tgt := 83) (kx_dd d_Mo_lot 47 rfl) rfl (fun c77 => ?_) (fun c77 => ?_)
        · have c37 := (bP_ti _).mp c37
          have c77 := (bP_ti _).mp c77
          rw [w_le0, w_pred (by omega)] at c37
          rw [w_le, w_le] at c77
          obtain ⟨k9, hk9, rfl⟩ := valP (n := lotK D.1 U s1 s2 td D.1.1) (by omega) c37
          obtain ⟨c9, hsu, rfl⟩ := valBt (ite_le q14 q13) (ite_le q14 q13) c77
          have hdu := dueF_le ho (r := r) (td := td) ha9
          refine kx_iconst (pc := 83) (v := 0) (kx_dd d_Mo_lot 50 rfl) rfl ?_
          refine kx_istore_e (pc := 84) (lv' := [_, _, _, _, _, _]) (kx_dd d_Mo_lot 51 rfl) (Nat.le_of_ble_eq_true rfl) rfl ?_
          refine kx_iload_n (pc := 86) (kx_dd d_Mo_lot 52 rfl) rfl rfl ?_
          refine kx_istore_e (pc := 87) (lv' := [_, _, _, _, _, _]) (kx_dd d_Mo_lot 53 rfl) (Nat.le_of_ble_eq_true rfl) rfl ?_
          refine y_lot_loop (d := d + 5) hm nw T hwt D ho hp td htd hck U hU s1 s2 hs1 hs2 hsa hsb _ _ _ _ k9 hk9 (fun q q1 q2 q3 => ?_) D.1.1 0 (by omega) (by rw [show lotK D.1 U s1 s2 td 0 = 0 from rfl]; omega)
          refine kx_aload_n (pc := 128) (kx_dd d_Mo_lot 72 rfl) rfl rfl ?_
          refine kx_iload_n (pc := 129) (kx_dd d_Mo_lot 73 rfl) rfl rfl ?_
          refine kx_iload_n (pc := 130) (kx_dd d_Mo_lot 74 rfl) rfl rfl ?_
          refine kx_invV (pc := 131) (a := 84) (as := [_, _]) (kx_dd d_Mo_lot 75 rfl) ⟨lk_Mo_576, wi_Mo_decide, we_Mo_decide⟩ w_Mo_decide (hm.k 0 rfl) rfl rfl rfl rfl (Nat.le_of_ble_eq_true rfl) (y_decide (d := d) hm nw T hwt D ho hp r td u hu hro hse hrp hif hck htd a9 ha9 (hfi a9 ha9) c9 hsu (by omega)) (Nat.le_refl _) ⟨Nat.le_refl _, Nat.le_refl _⟩ (fun v h' hq => ?_)
          revert h'
          intro h2 hq
          obtain ⟨rfl, hp2, hf2⟩ := hq
          refine kx_iload (pc := 134) (kx_dd d_Mo_lot 76 rfl) rfl ?_
          refine kx_iret (pc := 136) rfl (kx_dd d_Mo_lot 77 rfl) (Nat.le_refl _) (Nat.le_refl _) ?_
          have hq9 : drwF D.1 U s1 s2 td (nI k9) = nI q := drwF_eq ho.1 (Or.inl ⟨q, q1, q2, by rw [q3], rfl⟩)
          have hqn : drwF D.1 U s1 s2 td (nI k9) ≠ -1 := by rw [hq9]; exact nI_m2 (by omega)
          dsimp only
          exact DkQ.of (by unfold lotR; rw [if_pos c5, nI_clamp (by omega), nI_clamp (by omega), if_pos c18, if_pos ⟨hqn, c77⟩, hq9]) (ho.dec hse hsu htd hdu) hp2 (hf2.mono (fun a j z => z.elim Or.inl (fun y => Or.inr ⟨y.1, y.2.1, by have := y.2.2; omega⟩)))
        · refine kx_bipush (pc := 80) (v := -2) (kx_dd d_Mo_lot 48 rfl) rfl ?_
          refine kx_iret (pc := 82) rfl (kx_dd d_Mo_lot 49 rfl) (Nat.le_refl _) (Nat.le_refl _) ?_
          have c77 := bP_0.mp c77
          rw [w_le, w_le] at c77
          dsimp only
          exact DkQ.of (by unfold lotR; rw [if_pos c5, nI_clamp (by omega), if_pos c18, if_neg (fun z => c77 z.2)]) ho hp kx_Fc.rf
    · refine kx_bipush (pc := 21) (v := -4) (kx_dd d_Mo_lot 12 rfl) rfl ?_
      refine kx_iret (pc := 23) rfl (kx_dd d_Mo_lot 13 rfl) (Nat.le_refl _) (Nat.le_refl _) ?_
      rw [e1, show (1 : Int32) = nI 1 from rfl, nI_eq (by omega) (by decide)] at c18
      dsimp only
      exact DkQ.of (by unfold lotR; rw [if_pos c5, nI_clamp (by omega), if_neg c18]) ho hp kx_Fc.rf
  · refine kx_bipush (pc := 8) (v := -2) (kx_dd d_Mo_lot 4 rfl) rfl ?_
    refine kx_iret (pc := 10) rfl (kx_dd d_Mo_lot 5 rfl) (Nat.le_refl _) (Nat.le_refl _) ?_
    dsimp only
    exact DkQ.of (if_neg (bP_0.mp c5)) ho hp kx_Fc.rf
