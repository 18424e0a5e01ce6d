/-! top-level: lacks, the reference's weakest -/
noncomputable def lakF (r : RU) (w m : Nat) : Option Nat := Classical.epsilon (lackP r w m)
theorem lakF_eq {r : RU} {w m : Nat} {o : Option Nat} (h : lackP r w m o) : lakF r w m = o := lackP_u (Classical.epsilon_spec ⟨o, h⟩) h
theorem x_Ru_lackF {l : Launch} {g : kx_G} {d : Nat} {h : kx_Mem} (a : Nat) (hr : IsRu h a) (r : RU) (ho : RUok r) (hp : RUc r a h) (w m : Nat) (hw : w < 2 ^ 60) (hm : m < 2 ^ 16) : kx_Sp l g m_Ru_lackingKinds [.ref a, .long (lN w), .int (nI m)] h (d + 21) 0 0 (fun v h' => v = some (.int (oI (lakF r w m))) ∧ h' = h) := by
  have e : d + 21 = (d + (16 - ruK r)) + ruK r + 5 := by have := ho.1; omega
  rw [e]
  refine kx_enter_e (lv := [_, _, _, _, _, _]) (by decide +kernel) (Nat.le_of_ble_eq_true rfl) rfl ?_
  refine kx_iconst (pc := 0) (v := 0) (kx_dd d_Ru_lackingKinds 0 rfl) rfl ?_
  refine kx_istore_e (pc := 1) (lv' := [_, _, _, _, _, _]) (kx_dd d_Ru_lackingKinds 1 rfl) (Nat.le_of_ble_eq_true rfl) rfl ?_
  refine kx_mono (fun v h' z => ?_) (x_Ru_lack_loop a hr r ho hp w m hw hm (ruK r + 1) 0 _ (by omega) (fun s _ _ _ => Nat.zero_le _))
  obtain ⟨o, rfl, h1, h2⟩ := z
  exact ⟨by rw [lakF_eq h1], h2⟩
noncomputable def lacA (D : DK) (V : Nat → RU) (a b c : Int32) : Int32 := @ite _ (askP D a b c) (Classical.propDecidable _) (oI (lakF (V b.toNatClampNeg) (D.2.2.1.2.2 a.toNatClampNeg) (hadF D (V b.toNatClampNeg) a.toNatClampNeg c.toNatClampNeg))) (-2)
theorem x_Tc_lacks {l : Launch} {g : kx_G} {d : Nat} {h : kx_Mem} (hs : SC h) (D : DK) (A : DA) (ho : DKok D) (hp : DKc D A h) (AV : Nat → Nat) (DV : Nat) (V : Nat → RU) (hV : CVs AV DV V h) (a b c : Int32) : kx_Sp l g m_Tc_lacks [.ref 0, .int a, .int b, .int c] h (d + 22) 0 0 (fun v h' => v = some (.int (lacA D V a b c)) ∧ h' = h) := by
  have o1 := ho.2.2.1.1
  by_cases e9 : 0 ≤ a ∧ a < nI D.2.2.1.1
  · by_cases e8 : vrs b
    · skip
      obtain ⟨a9, ha9, rfl⟩ := valP (n := D.2.2.1.1) (by omega) e9
      obtain ⟨b9, hb9, rfl⟩ := vrs_n e8
      refine kx_enter_e (lv := [_, _, _, _, _, _]) (by decide +kernel) (Nat.le_of_ble_eq_true rfl) rfl ?_
      refine kx_aload_n (pc := 0) (kx_dd d_Tc_lacks 0 rfl) rfl rfl ?_
      refine kx_getR (pc := 1) (b := 39) fl_Tc_57 (hs.k 0 rfl) rfl (hs.r 6 rfl) (kx_dd d_Tc_lacks 1 rfl) ?_
      refine kx_iload_n (pc := 4) (kx_dd d_Tc_lacks 2 rfl) rfl rfl ?_
      refine kx_invV (pc := 5) (a := 39) (as := [_]) (kx_dd d_Tc_lacks 3 rfl) ⟨lk_Tc_190, wi_Do_claimAt, we_Do_claimAt⟩ w_Do_claimAt (hs.k 39 rfl) rfl rfl rfl rfl (Nat.le_of_ble_eq_true rfl) (x_Do_claimAt (d := d + 18) hs D A ho hp a9 ha9) (Nat.le_refl _) ⟨Nat.le_refl _, Nat.le_refl _⟩ (fun v h' hq => ?_)
      obtain ⟨rfl, he⟩ := hq
      rw [he]
      clear he
      refine kx_astore_e (pc := 8) (lv' := [_, _, _, _, _, _]) (kx_dd d_Tc_lacks 4 rfl) (Nat.le_of_ble_eq_true rfl) rfl ?_
      refine kx_aload_n (pc := 10) (kx_dd d_Tc_lacks 5 rfl) rfl rfl ?_
      refine kx_iload_n (pc := 11) (kx_dd d_Tc_lacks 6 rfl) rfl rfl ?_
      refine kx_invV (pc := 12) (a := 0) (as := [_]) (kx_dd d_Tc_lacks 7 rfl) ⟨lk_Tc_151, wi_Tc_versionAt, we_Tc_versionAt⟩ w_Tc_versionAt (hs.k 0 rfl) rfl rfl rfl rfl (Nat.le_of_ble_eq_true rfl) (x_Tc_versionV (d := d + 20) hs AV DV V hV b9 hb9) (Nat.le_refl _) ⟨Nat.le_refl _, Nat.le_refl _⟩ (fun v h' hq => ?_)
      obtain ⟨rfl, he⟩ := hq
      rw [he]
      clear he
      refine kx_astore_e (pc := 15) (lv' := [_, _, _, _, _, _]) (kx_dd d_Tc_lacks 8 rfl) (Nat.le_of_ble_eq_true rfl) rfl ?_
      refine kx_aload (pc := 17) (kx_dd d_Tc_lacks 9 rfl) rfl ?_
      refine kx_ifnull (pc := 19) (kx_dd d_Tc_lacks 10 rfl) ?_
      refine kx_aload (pc := 22) (kx_dd d_Tc_lacks 11 rfl) rfl ?_
      refine kx_ifnull (pc := 24) (kx_dd d_Tc_lacks 12 rfl) ?_
      refine kx_iload_n (pc := 27) (kx_dd d_Tc_lacks 13 rfl) rfl rfl ?_
      refine kx_invS (pc := 28) (as := [_]) (kx_dd d_Tc_lacks 14 rfl) ⟨lk_Tc_105, wt_Tc_isDay⟩ w_Tc_isDay rfl rfl (Nat.le_of_ble_eq_true rfl) (x_Tc_isDay (d := d + 20) c) (Nat.le_refl _) ⟨Nat.le_refl _, Nat.le_refl _⟩ (fun v h' hq => ?_)
      obtain ⟨rfl, he⟩ := hq
      rw [he]
      clear he
      refine kx_if_ne (pc := 31) (tgt := 37) (kx_dd d_Tc_lacks 15 rfl) rfl (fun c31 => ?_) (fun c31 => ?_)
      · have c31 := (bP_ti _).mp c31
        obtain ⟨c9, hc9, rfl⟩ := valD c31
        refine kx_aload (pc := 37) (kx_dd d_Tc_lacks 18 rfl) rfl ?_
        refine kx_aload (pc := 39) (kx_dd d_Tc_lacks 19 rfl) rfl ?_
        refine kx_getL (pc := 41) fl_Tc_224 (congrArg Prod.fst (hp.2.2.2.2.1.2 a9 ha9).2.2.1) rfl (kx_dd d_Tc_lacks 20 rfl) ?_
        rw [show h.2.1 (A.1 a9) 6 = lN (D.2.2.1.2.2 a9) from (hp.2.2.2.2.1.2 a9 ha9).2.2.2.2]
        refine kx_aload_n (pc := 44) (kx_dd d_Tc_lacks 21 rfl) rfl rfl ?_
        refine kx_getR (pc := 45) (b := 39) fl_Tc_57 (hs.k 0 rfl) rfl (hs.r 6 rfl) (kx_dd d_Tc_lacks 22 rfl) ?_
        refine kx_aload (pc := 48) (kx_dd d_Tc_lacks 23 rfl) rfl ?_
        refine kx_aload (pc := 50) (kx_dd d_Tc_lacks 24 rfl) rfl ?_
        refine kx_iload_n (pc := 52) (kx_dd d_Tc_lacks 25 rfl) rfl rfl ?_
        refine kx_invV (pc := 53) (a := 39) (as := [_, _, _]) (kx_dd d_Tc_lacks 26 rfl) ⟨lk_Tc_218, wi_Do_hadKinds, we_Do_hadKinds⟩ w_Do_hadKinds (hs.k 39 rfl) rfl rfl rfl rfl (Nat.le_of_ble_eq_true rfl) (x_Do_hadKinds (d := d + 18) hs D A ho hp (AV b9) (IsRu.of hs (hV.2.2 b9 hb9).2.1) (V b9) (hV.2.2 b9 hb9).2.2.2.1 (hV.2.2 b9 hb9).2.2.2.2.1 a9 ha9 c9 (by omega)) (Nat.le_refl _) ⟨Nat.le_refl _, Nat.le_refl _⟩ (fun v h' hq => ?_)
        obtain ⟨rfl, he⟩ := hq
        rw [he]
        clear he
        refine kx_invV (pc := 56) (a := (AV b9)) (as := [_, _]) (kx_dd d_Tc_lacks 27 rfl) ⟨lk_Tc_228, wi_Ru_lackingKinds, we_Ru_lackingKinds⟩ w_Ru_lackingKinds (congrArg Prod.fst (IsRu.of hs (hV.2.2 b9 hb9).2.1).1) rfl rfl rfl rfl (Nat.le_of_ble_eq_true rfl) (x_Ru_lackF (d := d) (AV b9) (IsRu.of hs (hV.2.2 b9 hb9).2.1) (V b9) (hV.2.2 b9 hb9).2.2.2.1 (hV.2.2 b9 hb9).2.2.2.2.1 (D.2.2.1.2.2 a9) _ (ho.2.2.1.2 a9 ha9).2.2.2.2.2.2.2.2.2.2.2.2.2.2.2.2.2 (hadF_lt (hV.2.2 b9 hb9).2.2.2.1)) (Nat.le_refl _) ⟨Nat.le_refl _, Nat.le_refl _⟩ (fun v h' hq => ?_)
        obtain ⟨rfl, he⟩ := hq
        rw [he]
        clear he
        refine kx_iret (pc := 59) rfl (kx_dd d_Tc_lacks 28 rfl) (Nat.le_refl _) (Nat.le_refl _) ?_
        refine ⟨?_, rfl⟩
        unfold lacA
        rw [if_pos ⟨e9, e8, c31⟩, nI_clamp (by omega), nI_clamp (by omega), nI_clamp (by omega)]
      · refine kx_bipush (pc := 34) (v := -2) (kx_dd d_Tc_lacks 16 rfl) rfl ?_
        refine kx_iret (pc := 36) rfl (kx_dd d_Tc_lacks 17 rfl) (Nat.le_refl _) (Nat.le_refl _) ?_
        exact ⟨by unfold lacA; rw [if_neg (fun z => bP_0.mp c31 z.2.2)], rfl⟩
    · skip
      obtain ⟨a9, ha9, rfl⟩ := valP (n := D.2.2.1.1) (by omega) e9
      refine kx_enter_e (lv := [_, _, _, _, _, _]) (by decide +kernel) (Nat.le_of_ble_eq_true rfl) rfl ?_
      refine kx_aload_n (pc := 0) (kx_dd d_Tc_lacks 0 rfl) rfl rfl ?_
      refine kx_getR (pc := 1) (b := 39) fl_Tc_57 (hs.k 0 rfl) rfl (hs.r 6 rfl) (kx_dd d_Tc_lacks 1 rfl) ?_
      refine kx_iload_n (pc := 4) (kx_dd d_Tc_lacks 2 rfl) rfl rfl ?_
      refine kx_invV (pc := 5) (a := 39) (as := [_]) (kx_dd d_Tc_lacks 3 rfl) ⟨lk_Tc_190, wi_Do_claimAt, we_Do_claimAt⟩ w_Do_claimAt (hs.k 39 rfl) rfl rfl rfl rfl (Nat.le_of_ble_eq_true rfl) (x_Do_claimAt (d := d + 18) hs D A ho hp a9 ha9) (Nat.le_refl _) ⟨Nat.le_refl _, Nat.le_refl _⟩ (fun v h' hq => ?_)
      obtain ⟨rfl, he⟩ := hq
      rw [he]
      clear he
      refine kx_astore_e (pc := 8) (lv' := [_, _, _, _, _, _]) (kx_dd d_Tc_lacks 4 rfl) (Nat.le_of_ble_eq_true rfl) rfl ?_
      refine kx_aload_n (pc := 10) (kx_dd d_Tc_lacks 5 rfl) rfl rfl ?_
      refine kx_iload_n (pc := 11) (kx_dd d_Tc_lacks 6 rfl) rfl rfl ?_
      refine kx_invV (pc := 12) (a := 0) (as := [_]) (kx_dd d_Tc_lacks 7 rfl) ⟨lk_Tc_151, wi_Tc_versionAt, we_Tc_versionAt⟩ w_Tc_versionAt (hs.k 0 rfl) rfl rfl rfl rfl (Nat.le_of_ble_eq_true rfl) (x_Tc_versionN (d := d + 20) hs b e8) (Nat.le_refl _) ⟨Nat.le_refl _, Nat.le_refl _⟩ (fun v h' hq => ?_)
      obtain ⟨rfl, he⟩ := hq
      rw [he]
      clear he
      refine kx_astore_eN (pc := 15) (lv' := [_, _, _, _, _, _]) (kx_dd d_Tc_lacks 8 rfl) (Nat.le_of_ble_eq_true rfl) rfl ?_
      refine kx_aload (pc := 17) (kx_dd d_Tc_lacks 9 rfl) rfl ?_
      refine kx_ifnull (pc := 19) (kx_dd d_Tc_lacks 10 rfl) ?_
      refine kx_aloadN (pc := 22) (kx_dd d_Tc_lacks 11 rfl) rfl ?_
      refine kx_ifnullN (pc := 24) (tgt := 34) (kx_dd d_Tc_lacks 12 rfl) rfl ?_
      refine kx_bipush (pc := 34) (v := -2) (kx_dd d_Tc_lacks 16 rfl) rfl ?_
      refine kx_iret (pc := 36) rfl (kx_dd d_Tc_lacks 17 rfl) (Nat.le_refl _) (Nat.le_refl _) ?_
      exact ⟨by unfold lacA; rw [if_neg (fun z => e8 z.2.1)], rfl⟩
  · by_cases e8 : vrs b
    · skip
      obtain ⟨b9, hb9, rfl⟩ := vrs_n e8
      refine kx_enter_e (lv := [_, _, _, _, _, _]) (by decide +kernel) (Nat.le_of_ble_eq_true rfl) rfl ?_
      refine kx_aload_n (pc := 0) (kx_dd d_Tc_lacks 0 rfl) rfl rfl ?_
      refine kx_getR (pc := 1) (b := 39) fl_Tc_57 (hs.k 0 rfl) rfl (hs.r 6 rfl) (kx_dd d_Tc_lacks 1 rfl) ?_
      refine kx_iload_n (pc := 4) (kx_dd d_Tc_lacks 2 rfl) rfl rfl ?_
      refine kx_invV (pc := 5) (a := 39) (as := [_]) (kx_dd d_Tc_lacks 3 rfl) ⟨lk_Tc_190, wi_Do_claimAt, we_Do_claimAt⟩ w_Do_claimAt (hs.k 39 rfl) rfl rfl rfl rfl (Nat.le_of_ble_eq_true rfl) (x_Do_claimAtN (d := d + 20) hs D A ho hp a e9) (Nat.le_refl _) ⟨Nat.le_refl _, Nat.le_refl _⟩ (fun v h' hq => ?_)
      obtain ⟨rfl, he⟩ := hq
      rw [he]
      clear he
      refine kx_astore_eN (pc := 8) (lv' := [_, _, _, _, _, _]) (kx_dd d_Tc_lacks 4 rfl) (Nat.le_of_ble_eq_true rfl) rfl ?_
      refine kx_aload_n (pc := 10) (kx_dd d_Tc_lacks 5 rfl) rfl rfl ?_
      refine kx_iload_n (pc := 11) (kx_dd d_Tc_lacks 6 rfl) rfl rfl ?_
      refine kx_invV (pc := 12) (a := 0) (as := [_]) (kx_dd d_Tc_lacks 7 rfl) ⟨lk_Tc_151, wi_Tc_versionAt, we_Tc_versionAt⟩ w_Tc_versionAt (hs.k 0 rfl) rfl rfl rfl rfl (Nat.le_of_ble_eq_true rfl) (x_Tc_versionV (d := d + 20) hs AV DV V hV b9 hb9) (Nat.le_refl _) ⟨Nat.le_refl _, Nat.le_refl _⟩ (fun v h' hq => ?_)
      obtain ⟨rfl, he⟩ := hq
      rw [he]
      clear he
      refine kx_astore_e (pc := 15) (lv' := [_, _, _, _, _, _]) (kx_dd d_Tc_lacks 8 rfl) (Nat.le_of_ble_eq_true rfl) rfl ?_
      refine kx_aloadN (pc := 17) (kx_dd d_Tc_lacks 9 rfl) rfl ?_
      refine kx_ifnullN (pc := 19) (tgt := 34) (kx_dd d_Tc_lacks 10 rfl) rfl ?_
      refine kx_bipush (pc := 34) (v := -2) (kx_dd d_Tc_lacks 16 rfl) rfl ?_
      refine kx_iret (pc := 36) rfl (kx_dd d_Tc_lacks 17 rfl) (Nat.le_refl _) (Nat.le_refl _) ?_
      exact ⟨by unfold lacA; rw [if_neg (fun z => e9 z.1)], rfl⟩
    · skip
      refine kx_enter_e (lv := [_, _, _, _, _, _]) (by decide +kernel) (Nat.le_of_ble_eq_true rfl) rfl ?_
      refine kx_aload_n (pc := 0) (kx_dd d_Tc_lacks 0 rfl) rfl rfl ?_
      refine kx_getR (pc := 1) (b := 39) fl_Tc_57 (hs.k 0 rfl) rfl (hs.r 6 rfl) (kx_dd d_Tc_lacks 1 rfl) ?_
      refine kx_iload_n (pc := 4) (kx_dd d_Tc_lacks 2 rfl) rfl rfl ?_
      refine kx_invV (pc := 5) (a := 39) (as := [_]) (kx_dd d_Tc_lacks 3 rfl) ⟨lk_Tc_190, wi_Do_claimAt, we_Do_claimAt⟩ w_Do_claimAt (hs.k 39 rfl) rfl rfl rfl rfl (Nat.le_of_ble_eq_true rfl) (x_Do_claimAtN (d := d + 20) hs D A ho hp a e9) (Nat.le_refl _) ⟨Nat.le_refl _, Nat.le_refl _⟩ (fun v h' hq => ?_)
      obtain ⟨rfl, he⟩ := hq
      rw [he]
      clear he
      refine kx_astore_eN (pc := 8) (lv' := [_, _, _, _, _, _]) (kx_dd d_Tc_lacks 4 rfl) (Nat.le_of_ble_eq_true rfl) rfl ?_
      refine kx_aload_n (pc := 10) (kx_dd d_Tc_lacks 5 rfl) rfl rfl ?_
      refine kx_iload_n (pc := 11) (kx_dd d_Tc_lacks 6 rfl) rfl rfl ?_
      refine kx_invV (pc := 12) (a := 0) (as := [_]) (kx_dd d_Tc_lacks 7 rfl) ⟨lk_Tc_151, wi_Tc_versionAt, we_Tc_versionAt⟩ w_Tc_versionAt (hs.k 0 rfl) rfl rfl rfl rfl (Nat.le_of_ble_eq_true rfl) (x_Tc_versionN (d := d + 20) hs b e8) (Nat.le_refl _) ⟨Nat.le_refl _, Nat.le_refl _⟩ (fun v h' hq => ?_)
      obtain ⟨rfl, he⟩ := hq
      rw [he]
      clear he
      refine kx_astore_eN (pc := 15) (lv' := [_, _, _, _, _, _]) (kx_dd d_Tc_lacks 8 rfl) (Nat.le_of_ble_eq_true rfl) rfl ?_
      refine kx_aloadN (pc := 17) (kx_dd d_Tc_lacks 9 rfl) rfl ?_
      refine kx_ifnullN (pc := 19) (tgt := 34) (kx_dd d_Tc_lacks 10 rfl) rfl ?_
      refine kx_bipush (pc := 34) (v := -2) (kx_dd d_Tc_lacks 16 rfl) rfl ?_
      refine kx_iret (pc := 36) rfl (kx_dd d_Tc_lacks 17 rfl) (Nat.le_refl _) (Nat.le_refl _) ?_
      exact ⟨by unfold lacA; rw [if_neg (fun z => e9 z.1)], rfl⟩
def lacQ (r : RU) (w had B : Nat) (o : Option Nat) : Prop := (o = none → ∀ s, s < B → s &&& had = 0 → ¬ shoP r w (had ||| s)) ∧ ∀ m, o = some m → m < B ∧ m &&& had = 0 ∧ shoP r w (had ||| m) ∧ ∀ s, s < B → s &&& had = 0 → shoP r w (had ||| s) → bc m < bc s ∨ (bc m = bc s ∧ m ≤ s)
theorem lacQ.no {r : RU} {w had B : Nat} {o : Option Nat} (h : lacQ r w had B o) (hn : B &&& had = 0 → shoP r w (had ||| B) → ∃ m, o = some m ∧ bc m ≤ bc B) : lacQ r w had (B + 1) o := by
  refine ⟨fun e s hs h1 h2 => ?_, fun m e => ?_⟩
  · rcases Nat.lt_succ_iff_lt_or_eq.mp hs with q | q
    · exact h.1 e s q h1 h2
    · subst q
      obtain ⟨m, e2, -⟩ := hn h1 h2
      rw [e] at e2
      cases e2
  · obtain ⟨a1, a2, a3, a4⟩ := h.2 m e
    refine ⟨by omega, a2, a3, fun s hs h1 h2 => ?_⟩
    rcases Nat.lt_succ_iff_lt_or_eq.mp hs with q | q
    · exact a4 s q h1 h2
    · subst q
      obtain ⟨m2, e2, e3⟩ := hn h1 h2
      rw [e] at e2
      cases e2
      omega
theorem lacQ.yes {r : RU} {w had B : Nat} {o : Option Nat} (h : lacQ r w had B o) (h0 : B &&& had = 0) (hs : shoP r w (had ||| B)) (hb : ∀ m, o = some m → bc B < bc m) : lacQ r w had (B + 1) (some B) := by
  refine ⟨(fun e => by cases e), fun m e => ?_⟩
  cases e
  refine ⟨by omega, h0, hs, fun s hs2 h1 h2 => ?_⟩
  rcases Nat.lt_succ_iff_lt_or_eq.mp hs2 with q | q
  · cases o with
    | none => exact absurd h2 (h.1 rfl s q h1)
    | some m =>
      have := (h.2 m rfl).2.2.2 s q h1 h2
      have := hb m rfl
      omega
  · subst q
    exact Or.inr ⟨rfl, Nat.le_refl _⟩
theorem oI_ne {m : Nat} (h : m < 2 ^ 31) : ¬ oI (some m) = -1 := nI_m2 h
theorem two16 {k : Nat} (h : k ≤ 16) : 2 ^ k ≤ 2 ^ 16 := Nat.pow_le_pow_right (by decide) h
theorem y_lacks_loop {l : Launch} {g : kx_G} {d : Nat} {h : kx_Mem} (hm : SM h) (nw : Nat) (T : Nat → Nat) (hwt : WTok nw T) (D : DK) (ho : DKok D) (hp : DKm D nw T h) (V : Nat → RU) (hV : ∀ u, u < 4 → RUok (V u) ∧ RUm (V u) u nw T h) (a9 : Nat) (ha9 : a9 < D.2.2.1.1) (b9 : Nat) (hb9 : b9 < 4) (w3 : Int32) (had : Nat) (hhad : had < 2 ^ 16) : ∀ n k, k + n = 2 ^ ruK (V b9) → ∀ o, lacQ (V b9) (D.2.2.1.2.2 a9) had k o → kx_X (l, g, m_Mo_lacks, d + 2, 0, 0, (fun v h' => v = some (.int (oI (lakF (V b9) (D.2.2.1.2.2 a9) had))) ∧ h' = h)) 0 0 28 [some (.ref 84), some (.int (nI a9)), some (.int (nI b9)), some (.int w3), some (.int (nI had)), some (.int (oI o)), some (.int (nI k))] [] (h) := by
  intro n
  induction n with
  | zero =>
    intro k hk o hI
    have hk0 : k = 2 ^ ruK (V b9) := by omega
    subst hk0
    have o1 := ho.2.2.1.1
    have ok := (hV b9 hb9).1.1
    have eK : h.1 91 b9 = nI (ruK (V b9)) := (hV b9 hb9).2.2.2.1
    have p16 := two16 ok
    refine kx_iload (pc := 28) (kx_dd d_Mo_lacks 18 rfl) rfl ?_
    refine kx_iconst (pc := 30) (v := 1) (kx_dd d_Mo_lacks 19 rfl) rfl ?_
    refine kx_aload_n (pc := 31) (kx_dd d_Mo_lacks 20 rfl) rfl rfl ?_
    refine kx_getR (pc := 32) (b := 91) fl_Mo_91 (hm.k 0 rfl) rfl (hm.r 6 rfl) (kx_dd d_Mo_lacks 21 rfl) ?_
    refine kx_iload_n (pc := 35) (kx_dd d_Mo_lacks 22 rfl) rfl rfl ?_
    refine kx_ialdn (pc := 36) b9 (hm.t 7 rfl) rfl (by omega) (by decide) (kx_dd d_Mo_lacks 23 rfl) ?_
    refine kx_ishl (pc := 37) (kx_dd d_Mo_lacks 24 rfl) ?_
    refine kx_icmp_ge (pc := 38) (tgt := 95) (kx_dd d_Mo_lacks 25 rfl) rfl (fun c38 => ?_) (fun c38 => ?_)
    · refine kx_iload (pc := 95) (kx_dd d_Mo_lacks 51 rfl) rfl ?_
      refine kx_iret (pc := 97) rfl (kx_dd d_Mo_lacks 52 rfl) (Nat.le_refl _) (Nat.le_refl _) ?_
      exact ⟨by rw [lakF_eq (o := o) hI], rfl⟩
    · exact absurd (by rw [eK, nI_pow (by omega)]; exact Int32.le_refl _) c38
  | succ n ih =>
    intro k hk o hI
    have o1 := ho.2.2.1.1
    have ok := (hV b9 hb9).1.1
    have eK : h.1 91 b9 = nI (ruK (V b9)) := (hV b9 hb9).2.2.2.1
    have p16 := two16 ok
    obtain ⟨j9, hj9, eT, ecw⟩ := (hp.2.2.1.2 a9 ha9).2.2
    have hk2 : k < 2 ^ 16 := by omega
    have hor : had ||| k < 2 ^ 31 := Nat.lt_of_lt_of_le (Nat.or_lt_two_pow hhad hk2) (by decide)
    refine kx_iload (pc := 28) (kx_dd d_Mo_lacks 18 rfl) rfl ?_
    refine kx_iconst (pc := 30) (v := 1) (kx_dd d_Mo_lacks 19 rfl) rfl ?_
    refine kx_aload_n (pc := 31) (kx_dd d_Mo_lacks 20 rfl) rfl rfl ?_
    refine kx_getR (pc := 32) (b := 91) fl_Mo_91 (hm.k 0 rfl) rfl (hm.r 6 rfl) (kx_dd d_Mo_lacks 21 rfl) ?_
    refine kx_iload_n (pc := 35) (kx_dd d_Mo_lacks 22 rfl) rfl rfl ?_
    refine kx_ialdn (pc := 36) b9 (hm.t 7 rfl) rfl (by omega) (by decide) (kx_dd d_Mo_lacks 23 rfl) ?_
    refine kx_ishl (pc := 37) (kx_dd d_Mo_lacks 24 rfl) ?_
    refine kx_icmp_ge (pc := 38) (tgt := 95) (kx_dd d_Mo_lacks 25 rfl) rfl (fun c38 => ?_) (fun c38 => ?_)
    · exact absurd c38 (by rw [eK, nI_pow (by omega)]; exact nI_ge (by omega) (by omega))
    · refine kx_iload (pc := 41) (kx_dd d_Mo_lacks 26 rfl) rfl ?_
      refine kx_iload (pc := 43) (kx_dd d_Mo_lacks 27 rfl) rfl ?_
      refine kx_iand (pc := 45) (kx_dd d_Mo_lacks 28 rfl) ?_
      refine kx_if_ne (pc := 46) (tgt := 89) (kx_dd d_Mo_lacks 29 rfl) rfl (fun c46 => ?_) (fun c46 => ?_)
      · refine kx_iinc_e (pc := 89) (v := nI (k + 1)) (lv' := [_, _, _, _, _, _, _]) (kx_dd d_Mo_lacks 49 rfl) rfl (Nat.le_of_ble_eq_true rfl) (nI_1 k) rfl ?_
        refine kx_goto (pc := 92) (tgt := 28) (kx_dd d_Mo_lacks 50 rfl) rfl ?_
        rw [nI_and, nI_z (Nat.lt_of_le_of_lt Nat.and_le_left (by omega))] at c46
        exact ih (k + 1) (by omega) _ (hI.no (fun z => absurd z c46))
      · refine kx_iload (pc := 49) (kx_dd d_Mo_lacks 30 rfl) rfl ?_
        refine kx_iconst (pc := 51) (v := -1) (kx_dd d_Mo_lacks 31 rfl) rfl ?_
        refine kx_icmp_eq (pc := 52) (tgt := 71) (kx_dd d_Mo_lacks 32 rfl) rfl (fun c52 => ?_) (fun c52 => ?_)
        · refine kx_aload_n (pc := 71) (kx_dd d_Mo_lacks 39 rfl) rfl rfl ?_
          refine kx_iload_n (pc := 72) (kx_dd d_Mo_lacks 40 rfl) rfl rfl ?_
          refine kx_iload_n (pc := 73) (kx_dd d_Mo_lacks 41 rfl) rfl rfl ?_
          refine kx_iload (pc := 74) (kx_dd d_Mo_lacks 42 rfl) rfl ?_
          refine kx_iload (pc := 76) (kx_dd d_Mo_lacks 43 rfl) rfl ?_
          refine kx_ior (pc := 78) (kx_dd d_Mo_lacks 44 rfl) ?_
          rw [nI_or]
          refine kx_invV (pc := 79) (a := 84) (as := [_, _, _]) (kx_dd d_Mo_lacks 45 rfl) ⟨lk_Mo_550, wi_Mo_papersFail, we_Mo_papersFail⟩ w_Mo_papersFail (hm.k 0 rfl) rfl rfl rfl rfl (Nat.le_of_ble_eq_true rfl) (y_papersFail (d := d) hm nw T hwt (V b9) (hV b9 hb9).1 b9 (by omega) (hV b9 hb9).2 j9 hj9 a9 (by omega) ecw (had ||| k) hor) (Nat.le_refl _) ⟨Nat.le_refl _, Nat.le_refl _⟩ (fun v h' hq => ?_)
          obtain ⟨rfl, he⟩ := hq
          rw [he]
          clear he
          refine kx_if_ne (pc := 82) (tgt := 89) (kx_dd d_Mo_lacks 46 rfl) rfl (fun c82 => ?_) (fun c82 => ?_)
          · refine kx_iinc_e (pc := 89) (v := nI (k + 1)) (lv' := [_, _, _, _, _, _, _]) (kx_dd d_Mo_lacks 49 rfl) rfl (Nat.le_of_ble_eq_true rfl) (nI_1 k) rfl ?_
            refine kx_goto (pc := 92) (tgt := 28) (kx_dd d_Mo_lacks 50 rfl) rfl ?_
            rw [nI_and, nI_z (Nat.lt_of_le_of_lt Nat.and_le_left (by omega))] at c46
            rw [nI_z (Nat.lt_of_le_of_lt pfN_le (by decide)), pfN_0, eT] at c82
            exact ih (k + 1) (by omega) _ (hI.no (fun _ z => absurd z c82))
          · refine kx_iload (pc := 85) (kx_dd d_Mo_lacks 47 rfl) rfl ?_
            refine kx_istore_e (pc := 87) (lv' := [_, _, _, _, _, _, _]) (kx_dd d_Mo_lacks 48 rfl) (Nat.le_of_ble_eq_true rfl) rfl ?_
            refine kx_iinc_e (pc := 89) (v := nI (k + 1)) (lv' := [_, _, _, _, _, _, _]) (kx_dd d_Mo_lacks 49 rfl) rfl (Nat.le_of_ble_eq_true rfl) (nI_1 k) rfl ?_
            refine kx_goto (pc := 92) (tgt := 28) (kx_dd d_Mo_lacks 50 rfl) rfl ?_
            rw [nI_and, nI_z (Nat.lt_of_le_of_lt Nat.and_le_left (by omega))] at c46
            rw [nI_z (Nat.lt_of_le_of_lt pfN_le (by decide)), pfN_0, eT] at c82
            exact ih (k + 1) (by omega) (some k) (hI.yes c46 c82 (fun m e => by subst e; exact absurd c52 (oI_ne (by have := (hI.2 m rfl).1; omega))))
        · obtain ⟨m9, rfl⟩ : ∃ m9, o = some m9 := by
            cases o with
            | none => exact absurd rfl c52
            | some m9 => exact ⟨m9, rfl⟩
          refine kx_iload (pc := 55) (kx_dd d_Mo_lacks 33 rfl) rfl ?_
          refine kx_invS (pc := 57) (as := [_]) (kx_dd d_Mo_lacks 34 rfl) ⟨lk_Mo_486, wt_Mo_bits⟩ w_Mo_bits rfl rfl (Nat.le_of_ble_eq_true rfl) (y_bits (d := d + 1) k (by omega)) (Nat.le_refl _) ⟨Nat.le_refl _, Nat.le_refl _⟩ (fun v h' hq => ?_)
          obtain ⟨rfl, he⟩ := hq
          rw [he]
          clear he
          refine kx_iload (pc := 60) (kx_dd d_Mo_lacks 35 rfl) rfl ?_
          refine kx_invS (pc := 62) (as := [_]) (kx_dd d_Mo_lacks 36 rfl) ⟨lk_Mo_486, wt_Mo_bits⟩ w_Mo_bits rfl rfl (Nat.le_of_ble_eq_true rfl) (y_bits (d := d + 1) m9 (by have := (hI.2 m9 rfl).1; omega)) (Nat.le_refl _) ⟨Nat.le_refl _, Nat.le_refl _⟩ (fun v h' hq => ?_)
          obtain ⟨rfl, he⟩ := hq
          rw [he]
          clear he
          refine kx_icmp_lt (pc := 65) (tgt := 71) (kx_dd d_Mo_lacks 37 rfl) rfl (fun c65 => ?_) (fun c65 => ?_)
          · refine kx_aload_n (pc := 71) (kx_dd d_Mo_lacks 39 rfl) rfl rfl ?_
            refine kx_iload_n (pc := 72) (kx_dd d_Mo_lacks 40 rfl) rfl rfl ?_
            refine kx_iload_n (pc := 73) (kx_dd d_Mo_lacks 41 rfl) rfl rfl ?_
            refine kx_iload (pc := 74) (kx_dd d_Mo_lacks 42 rfl) rfl ?_
            refine kx_iload (pc := 76) (kx_dd d_Mo_lacks 43 rfl) rfl ?_
            refine kx_ior (pc := 78) (kx_dd d_Mo_lacks 44 rfl) ?_
            rw [nI_or]
            refine kx_invV (pc := 79) (a := 84) (as := [_, _, _]) (kx_dd d_Mo_lacks 45 rfl) ⟨lk_Mo_550, wi_Mo_papersFail, we_Mo_papersFail⟩ w_Mo_papersFail (hm.k 0 rfl) rfl rfl rfl rfl (Nat.le_of_ble_eq_true rfl) (y_papersFail (d := d) hm nw T hwt (V b9) (hV b9 hb9).1 b9 (by omega) (hV b9 hb9).2 j9 hj9 a9 (by omega) ecw (had ||| k) hor) (Nat.le_refl _) ⟨Nat.le_refl _, Nat.le_refl _⟩ (fun v h' hq => ?_)
            obtain ⟨rfl, he⟩ := hq
            rw [he]
            clear he
            refine kx_if_ne (pc := 82) (tgt := 89) (kx_dd d_Mo_lacks 46 rfl) rfl (fun c82 => ?_) (fun c82 => ?_)
            · refine kx_iinc_e (pc := 89) (v := nI (k + 1)) (lv' := [_, _, _, _, _, _, _]) (kx_dd d_Mo_lacks 49 rfl) rfl (Nat.le_of_ble_eq_true rfl) (nI_1 k) rfl ?_
              refine kx_goto (pc := 92) (tgt := 28) (kx_dd d_Mo_lacks 50 rfl) rfl ?_
              rw [nI_and, nI_z (Nat.lt_of_le_of_lt Nat.and_le_left (by omega))] at c46
              rw [nI_z (Nat.lt_of_le_of_lt pfN_le (by decide)), pfN_0, eT] at c82
              exact ih (k + 1) (by omega) _ (hI.no (fun _ z => absurd z c82))
            · refine kx_iload (pc := 85) (kx_dd d_Mo_lacks 47 rfl) rfl ?_
              refine kx_istore_e (pc := 87) (lv' := [_, _, _, _, _, _, _]) (kx_dd d_Mo_lacks 48 rfl) (Nat.le_of_ble_eq_true rfl) rfl ?_
              refine kx_iinc_e (pc := 89) (v := nI (k + 1)) (lv' := [_, _, _, _, _, _, _]) (kx_dd d_Mo_lacks 49 rfl) rfl (Nat.le_of_ble_eq_true rfl) (nI_1 k) rfl ?_
              refine kx_goto (pc := 92) (tgt := 28) (kx_dd d_Mo_lacks 50 rfl) rfl ?_
              rw [nI_and, nI_z (Nat.lt_of_le_of_lt Nat.and_le_left (by omega))] at c46
              rw [nI_z (Nat.lt_of_le_of_lt pfN_le (by decide)), pfN_0, eT] at c82
              have := bc_le k
              have := bc_le m9
              rw [nI_ltI (by omega) (by omega)] at c65
              exact ih (k + 1) (by omega) (some k) (hI.yes c46 c82 (fun m e => by cases e; exact c65))
          · refine kx_goto (pc := 68) (tgt := 89) (kx_dd d_Mo_lacks 38 rfl) rfl ?_
            refine kx_iinc_e (pc := 89) (v := nI (k + 1)) (lv' := [_, _, _, _, _, _, _]) (kx_dd d_Mo_lacks 49 rfl) rfl (Nat.le_of_ble_eq_true rfl) (nI_1 k) rfl ?_
            refine kx_goto (pc := 92) (tgt := 28) (kx_dd d_Mo_lacks 50 rfl) rfl ?_
            have := bc_le k
            have := bc_le m9
            rw [show oI (some m9) = nI m9 from rfl] at c52
            rw [nI_ltI (by omega) (by omega)] at c65
            exact ih (k + 1) (by omega) _ (hI.no (fun _ _ => ⟨m9, rfl, by omega⟩))
theorem y_lacks {l : Launch} {g : kx_G} {d : Nat} {h : kx_Mem} (hm : SM h) (nw : Nat) (T : Nat → Nat) (hwt : WTok nw T) (D : DK) (ho : DKok D) (hp : DKm D nw T h) (V : Nat → RU) (hV : ∀ u, u < 4 → RUok (V u) ∧ RUm (V u) u nw T h) (a b c : Int32) : kx_Sp l g m_Mo_lacks [.ref 84, .int a, .int b, .int c] h (d + 4) 0 0 (fun v h' => v = some (.int (lacA D V a b c)) ∧ h' = h) := by
  have o1 := ho.2.2.1.1
  refine kx_enter_e (lv := [_, _, _, _, _, _, _]) (by decide +kernel) (Nat.le_of_ble_eq_true rfl) rfl ?_
  refine kx_aload_n (pc := 0) (kx_dd d_Mo_lacks 0 rfl) rfl rfl ?_
  refine kx_iload_n (pc := 1) (kx_dd d_Mo_lacks 1 rfl) rfl rfl ?_
  refine kx_iload_n (pc := 2) (kx_dd d_Mo_lacks 2 rfl) rfl rfl ?_
  refine kx_iload_n (pc := 3) (kx_dd d_Mo_lacks 3 rfl) rfl rfl ?_
  refine kx_invV (pc := 4) (a := 84) (as := [_, _, _]) (kx_dd d_Mo_lacks 4 rfl) ⟨lk_Mo_553, wi_Mo_isAsked, we_Mo_isAsked⟩ w_Mo_isAsked (hm.k 0 rfl) rfl rfl rfl rfl (Nat.le_of_ble_eq_true rfl) (y_isAsked (d := d + 1) hm nw T hwt D ho hp a b c) (Nat.le_refl _) ⟨Nat.le_refl _, Nat.le_refl _⟩ (fun v h' hq => ?_)
  obtain ⟨rfl, he⟩ := hq
  rw [he]
  clear he
  refine kx_if_ne (pc := 7) (tgt := 13) (kx_dd d_Mo_lacks 5 rfl) rfl (fun c7 => ?_) (fun c7 => ?_)
  · have c7 := (bP_ti _).mp c7
    obtain ⟨a9, ha9, rfl⟩ := valP (n := D.2.2.1.1) (by omega) c7.1
    obtain ⟨b9, hb9, rfl⟩ := vrs_n c7.2.1
    obtain ⟨c9, hc9, rfl⟩ := valD c7.2.2
    refine kx_aload_n (pc := 13) (kx_dd d_Mo_lacks 8 rfl) rfl rfl ?_
    refine kx_iload_n (pc := 14) (kx_dd d_Mo_lacks 9 rfl) rfl rfl ?_
    refine kx_iload_n (pc := 15) (kx_dd d_Mo_lacks 10 rfl) rfl rfl ?_
    refine kx_iload_n (pc := 16) (kx_dd d_Mo_lacks 11 rfl) rfl rfl ?_
    refine kx_invV (pc := 17) (a := 84) (as := [_, _, _]) (kx_dd d_Mo_lacks 12 rfl) ⟨lk_Mo_547, wi_Mo_hadOf, we_Mo_hadOf⟩ w_Mo_hadOf (hm.k 0 rfl) rfl rfl rfl rfl (Nat.le_of_ble_eq_true rfl) (y_hadOf (d := d) hm nw T hwt D ho hp (V b9) (hV b9 hb9).1 b9 (by omega) (hV b9 hb9).2 a9 ha9 c9 (by omega)) (Nat.le_refl _) ⟨Nat.le_refl _, Nat.le_refl _⟩ (fun v h' hq => ?_)
    obtain ⟨rfl, he⟩ := hq
    rw [he]
    clear he
    refine kx_istore_e (pc := 20) (lv' := [_, _, _, _, _, _, _]) (kx_dd d_Mo_lacks 13 rfl) (Nat.le_of_ble_eq_true rfl) rfl ?_
    refine kx_iconst (pc := 22) (v := -1) (kx_dd d_Mo_lacks 14 rfl) rfl ?_
    refine kx_istore_e (pc := 23) (lv' := [_, _, _, _, _, _, _]) (kx_dd d_Mo_lacks 15 rfl) (Nat.le_of_ble_eq_true rfl) rfl ?_
    refine kx_iconst (pc := 25) (v := 0) (kx_dd d_Mo_lacks 16 rfl) rfl ?_
    refine kx_istore_e (pc := 26) (lv' := [_, _, _, _, _, _, _]) (kx_dd d_Mo_lacks 17 rfl) (Nat.le_of_ble_eq_true rfl) rfl ?_
    refine kx_mono (fun v h' z => ?_) (y_lacks_loop (d := d + 2) hm nw T hwt D ho hp V hV a9 ha9 b9 hb9 _ (hadF D (V b9) a9 c9) (hadF_lt (hV b9 hb9).1) (2 ^ ruK (V b9)) 0 (by omega) none ⟨fun _ s q => absurd q (Nat.not_lt_zero s), fun m e => by cases e⟩)
    refine ⟨?_, z.2⟩
    rw [z.1]
    unfold lacA
    rw [if_pos c7, nI_clamp (by omega), nI_clamp (by omega), nI_clamp (by omega)]
  · refine kx_bipush (pc := 10) (v := -2) (kx_dd d_Mo_lacks 6 rfl) rfl ?_
    refine kx_iret (pc := 12) rfl (kx_dd d_Mo_lacks 7 rfl) (Nat.le_refl _) (Nat.le_refl _) ?_
    exact ⟨by unfold lacA; rw [if_neg (bP_0.mp c7)], rfl⟩
theorem faiF_sho {D : DK} {r : RU} {c kn : Nat} (h : faiF D r c kn = 0) : shoP r (D.2.2.1.2.2 c) (hadF D r c kn) := by
  rw [← faiF_m] at h
  exact pfN_0.mp (Nat.or_eq_zero_iff.mp h).2
theorem y_weak_loop {l : Launch} {g : kx_G} {d : Nat} {h : kx_Mem} (hm : SM h) (nw : Nat) (T : Nat → Nat) (hwt : WTok nw T) (D : DK) (ho : DKok D) (hp : DKm D nw T h) (V : Nat → RU) (hV : ∀ u, u < 4 → RUok (V u) ∧ RUm (V u) u nw T h) (a9 : Nat) (ha9 : a9 < D.2.2.1.1) (b9 : Nat) (hb9 : b9 < 4) (w3 : Int32) (had : Nat) (hhad : had < 2 ^ 16) (hsh : shoP (V b9) (D.2.2.1.2.2 a9) had) : ∀ n k, k + n = ruK (V b9) → (∀ j, j < k → ¬ @decide (¬ shoP (V b9) (D.2.2.1.2.2 a9) (clrB had j)) (Classical.propDecidable _) = true) → kx_X (l, g, m_Mo_weakest, d + 2, 0, 0, (fun v h' => v = some (.int (oI (wkF (V b9) (D.2.2.1.2.2 a9) had))) ∧ h' = h)) 0 0 37 [some (.ref 84), some (.int (nI a9)), some (.int (nI b9)), some (.int w3), some (.int (nI had)), some (.int (nI k))] [] (h) := by
  intro n
  induction n with
  | zero =>
    intro k hk hno
    have hk0 : k = ruK (V b9) := by omega
    subst hk0
    have o1 := ho.2.2.1.1
    have ok := (hV b9 hb9).1.1
    have eK : h.1 91 b9 = nI (ruK (V b9)) := (hV b9 hb9).2.2.2.1
    have p16 := two16 ok
    have hend : wkF (V b9) (D.2.2.1.2.2 a9) had = none := fnd_none hno
    refine kx_iload (pc := 37) (kx_dd d_Mo_weakest 24 rfl) rfl ?_
    refine kx_aload_n (pc := 39) (kx_dd d_Mo_weakest 25 rfl) rfl rfl ?_
    refine kx_getR (pc := 40) (b := 91) fl_Mo_91 (hm.k 0 rfl) rfl (hm.r 6 rfl) (kx_dd d_Mo_weakest 26 rfl) ?_
    refine kx_iload_n (pc := 43) (kx_dd d_Mo_weakest 27 rfl) rfl rfl ?_
    refine kx_ialdn (pc := 44) b9 (hm.t 7 rfl) rfl (by omega) (by decide) (kx_dd d_Mo_weakest 28 rfl) ?_
    refine kx_icmp_ge (pc := 45) (tgt := 86) (kx_dd d_Mo_weakest 29 rfl) rfl (fun c45 => ?_) (fun c45 => ?_)
    · refine kx_iconst (pc := 86) (v := -1) (kx_dd d_Mo_weakest 53 rfl) rfl ?_
      refine kx_iret (pc := 87) rfl (kx_dd d_Mo_weakest 54 rfl) (Nat.le_refl _) (Nat.le_refl _) ?_
      exact ⟨by rw [hend]; rfl, rfl⟩
    · exact absurd (by rw [eK]; exact Int32.le_refl _) c45
  | succ n ih =>
    intro k hk hno
    have o1 := ho.2.2.1.1
    have ok := (hV b9 hb9).1.1
    have eK : h.1 91 b9 = nI (ruK (V b9)) := (hV b9 hb9).2.2.2.1
    have p16 := two16 ok
    obtain ⟨j9, hj9, eT, ecw⟩ := (hp.2.2.1.2 a9 ha9).2.2
    refine kx_iload (pc := 37) (kx_dd d_Mo_weakest 24 rfl) rfl ?_
    refine kx_aload_n (pc := 39) (kx_dd d_Mo_weakest 25 rfl) rfl rfl ?_
    refine kx_getR (pc := 40) (b := 91) fl_Mo_91 (hm.k 0 rfl) rfl (hm.r 6 rfl) (kx_dd d_Mo_weakest 26 rfl) ?_
    refine kx_iload_n (pc := 43) (kx_dd d_Mo_weakest 27 rfl) rfl rfl ?_
    refine kx_ialdn (pc := 44) b9 (hm.t 7 rfl) rfl (by omega) (by decide) (kx_dd d_Mo_weakest 28 rfl) ?_
    refine kx_icmp_ge (pc := 45) (tgt := 86) (kx_dd d_Mo_weakest 29 rfl) rfl (fun c45 => ?_) (fun c45 => ?_)
    · exact absurd c45 (by rw [eK]; exact nI_ge (by omega) (by omega))
    · refine kx_iload (pc := 48) (kx_dd d_Mo_weakest 30 rfl) rfl ?_
      refine kx_iload (pc := 50) (kx_dd d_Mo_weakest 31 rfl) rfl ?_
      refine kx_ishr (pc := 52) (kx_dd d_Mo_weakest 32 rfl) ?_
      refine kx_iconst (pc := 53) (v := 1) (kx_dd d_Mo_weakest 33 rfl) rfl ?_
      refine kx_iand (pc := 54) (kx_dd d_Mo_weakest 34 rfl) ?_
      refine kx_iconst (pc := 55) (v := 1) (kx_dd d_Mo_weakest 35 rfl) rfl ?_
      refine kx_icmp_ne (pc := 56) (tgt := 80) (kx_dd d_Mo_weakest 36 rfl) rfl (fun c56 => ?_) (fun c56 => ?_)
      · refine kx_iinc_e (pc := 80) (v := nI (k + 1)) (lv' := [_, _, _, _, _, _]) (kx_dd d_Mo_weakest 51 rfl) rfl (Nat.le_of_ble_eq_true rfl) (nI_1 k) rfl ?_
        refine kx_goto (pc := 83) (tgt := 37) (kx_dd d_Mo_weakest 52 rfl) rfl ?_
        rw [nI_bit (by omega) (by omega), show (1 : Int32) = nI 1 from rfl, nI_eq (by have := bitN_le had k; omega) (by decide)] at c56
        have := bitN_le had k
        have e9 := clr_0 (m := had) (k := k) (by omega) (by omega)
        exact ih (k + 1) (by omega) (fun j hj => by
          rcases Nat.lt_succ_iff_lt_or_eq.mp hj with z | rfl
          · exact hno j z
          · rw [e9]; simpa using hsh)
      · refine kx_aload_n (pc := 59) (kx_dd d_Mo_weakest 37 rfl) rfl rfl ?_
        refine kx_iload_n (pc := 60) (kx_dd d_Mo_weakest 38 rfl) rfl rfl ?_
        refine kx_iload_n (pc := 61) (kx_dd d_Mo_weakest 39 rfl) rfl rfl ?_
        refine kx_iload (pc := 62) (kx_dd d_Mo_weakest 40 rfl) rfl ?_
        refine kx_iconst (pc := 64) (v := 1) (kx_dd d_Mo_weakest 41 rfl) rfl ?_
        refine kx_iload (pc := 65) (kx_dd d_Mo_weakest 42 rfl) rfl ?_
        refine kx_ishl (pc := 67) (kx_dd d_Mo_weakest 43 rfl) ?_
        refine kx_iconst (pc := 68) (v := -1) (kx_dd d_Mo_weakest 44 rfl) rfl ?_
        refine kx_ixor (pc := 69) (kx_dd d_Mo_weakest 45 rfl) ?_
        refine kx_iand (pc := 70) (kx_dd d_Mo_weakest 46 rfl) ?_
        rw [nI_clr (by omega)]
        refine kx_invV (pc := 71) (a := 84) (as := [_, _, _]) (kx_dd d_Mo_weakest 47 rfl) ⟨lk_Mo_550, wi_Mo_papersFail, we_Mo_papersFail⟩ w_Mo_papersFail (hm.k 0 rfl) rfl rfl rfl rfl (Nat.le_of_ble_eq_true rfl) (y_papersFail (d := d) hm nw T hwt (V b9) (hV b9 hb9).1 b9 (by omega) (hV b9 hb9).2 j9 hj9 a9 (by omega) ecw (clrB had k) (by have := clr_le (m := had) (k := k); omega)) (Nat.le_refl _) ⟨Nat.le_refl _, Nat.le_refl _⟩ (fun v h' hq => ?_)
        obtain ⟨rfl, he⟩ := hq
        rw [he]
        clear he
        refine kx_if_eq (pc := 74) (tgt := 80) (kx_dd d_Mo_weakest 48 rfl) rfl (fun c74 => ?_) (fun c74 => ?_)
        · refine kx_iinc_e (pc := 80) (v := nI (k + 1)) (lv' := [_, _, _, _, _, _]) (kx_dd d_Mo_weakest 51 rfl) rfl (Nat.le_of_ble_eq_true rfl) (nI_1 k) rfl ?_
          refine kx_goto (pc := 83) (tgt := 37) (kx_dd d_Mo_weakest 52 rfl) rfl ?_
          rw [nI_z (Nat.lt_of_le_of_lt pfN_le (by decide)), pfN_0, eT] at c74
          exact ih (k + 1) (by omega) (fun j hj => by
            rcases Nat.lt_succ_iff_lt_or_eq.mp hj with z | rfl
            · exact hno j z
            · simpa using c74)
        · refine kx_iload (pc := 77) (kx_dd d_Mo_weakest 49 rfl) rfl ?_
          refine kx_iret (pc := 79) rfl (kx_dd d_Mo_weakest 50 rfl) (Nat.le_refl _) (Nat.le_refl _) ?_
          rw [nI_z (Nat.lt_of_le_of_lt pfN_le (by decide)), pfN_0, eT] at c74
          exact ⟨by unfold wkF; rw [fnd_some (show k < _ by omega) (by simpa using c74) hno]; rfl, rfl⟩
theorem y_weakest {l : Launch} {g : kx_G} {d : Nat} {h : kx_Mem} (hm : SM h) (nw : Nat) (T : Nat → Nat) (hwt : WTok nw T) (D : DK) (ho : DKok D) (hp : DKm D nw T h) (V : Nat → RU) (hV : ∀ u, u < 4 → RUok (V u) ∧ RUm (V u) u nw T h) (a b c : Int32) : kx_Sp l g m_Mo_weakest [.ref 84, .int a, .int b, .int c] h (d + 5) 0 0 (fun v h' => v = some (.int (weaA D V a b c)) ∧ h' = h) := by
  have o1 := ho.2.2.1.1
  refine kx_enter_e (lv := [_, _, _, _, _, _]) (by decide +kernel) (Nat.le_of_ble_eq_true rfl) rfl ?_
  refine kx_aload_n (pc := 0) (kx_dd d_Mo_weakest 0 rfl) rfl rfl ?_
  refine kx_iload_n (pc := 1) (kx_dd d_Mo_weakest 1 rfl) rfl rfl ?_
  refine kx_iload_n (pc := 2) (kx_dd d_Mo_weakest 2 rfl) rfl rfl ?_
  refine kx_iload_n (pc := 3) (kx_dd d_Mo_weakest 3 rfl) rfl rfl ?_
  refine kx_invV (pc := 4) (a := 84) (as := [_, _, _]) (kx_dd d_Mo_weakest 4 rfl) ⟨lk_Mo_553, wi_Mo_isAsked, we_Mo_isAsked⟩ w_Mo_isAsked (hm.k 0 rfl) rfl rfl rfl rfl (Nat.le_of_ble_eq_true rfl) (y_isAsked (d := d + 2) hm nw T hwt D ho hp a b c) (Nat.le_refl _) ⟨Nat.le_refl _, Nat.le_refl _⟩ (fun v h' hq => ?_)
  obtain ⟨rfl, he⟩ := hq
  rw [he]
  clear he
  refine kx_if_ne (pc := 7) (tgt := 13) (kx_dd d_Mo_weakest 5 rfl) rfl (fun c7 => ?_) (fun c7 => ?_)
  · have c7 := (bP_ti _).mp c7
    obtain ⟨a9, ha9, rfl⟩ := valP (n := D.2.2.1.1) (by omega) c7.1
    obtain ⟨b9, hb9, rfl⟩ := vrs_n c7.2.1
    obtain ⟨c9, hc9, rfl⟩ := valD c7.2.2
    refine kx_aload_n (pc := 13) (kx_dd d_Mo_weakest 8 rfl) rfl rfl ?_
    refine kx_iload_n (pc := 14) (kx_dd d_Mo_weakest 9 rfl) rfl rfl ?_
    refine kx_iload_n (pc := 15) (kx_dd d_Mo_weakest 10 rfl) rfl rfl ?_
    refine kx_iload_n (pc := 16) (kx_dd d_Mo_weakest 11 rfl) rfl rfl ?_
    refine kx_invV (pc := 17) (a := 84) (as := [_, _, _]) (kx_dd d_Mo_weakest 12 rfl) ⟨lk_Mo_556, wi_Mo_failsOf, we_Mo_failsOf⟩ w_Mo_failsOf (hm.k 0 rfl) rfl rfl rfl rfl (Nat.le_of_ble_eq_true rfl) (y_failsOf (d := d) hm nw T hwt D ho hp (V b9) (hV b9 hb9).1 b9 (by omega) (hV b9 hb9).2 a9 ha9 c9 (by omega)) (Nat.le_refl _) ⟨Nat.le_refl _, Nat.le_refl _⟩ (fun v h' hq => ?_)
    obtain ⟨rfl, he⟩ := hq
    rw [he]
    clear he
    refine kx_if_eq (pc := 20) (tgt := 25) (kx_dd d_Mo_weakest 13 rfl) rfl (fun c20 => ?_) (fun c20 => ?_)
    · refine kx_aload_n (pc := 25) (kx_dd d_Mo_weakest 16 rfl) rfl rfl ?_
      refine kx_iload_n (pc := 26) (kx_dd d_Mo_weakest 17 rfl) rfl rfl ?_
      refine kx_iload_n (pc := 27) (kx_dd d_Mo_weakest 18 rfl) rfl rfl ?_
      refine kx_iload_n (pc := 28) (kx_dd d_Mo_weakest 19 rfl) rfl rfl ?_
      refine kx_invV (pc := 29) (a := 84) (as := [_, _, _]) (kx_dd d_Mo_weakest 20 rfl) ⟨lk_Mo_547, wi_Mo_hadOf, we_Mo_hadOf⟩ w_Mo_hadOf (hm.k 0 rfl) rfl rfl rfl rfl (Nat.le_of_ble_eq_true rfl) (y_hadOf (d := d + 1) hm nw T hwt D ho hp (V b9) (hV b9 hb9).1 b9 (by omega) (hV b9 hb9).2 a9 ha9 c9 (by omega)) (Nat.le_refl _) ⟨Nat.le_refl _, Nat.le_refl _⟩ (fun v h' hq => ?_)
      obtain ⟨rfl, he⟩ := hq
      rw [he]
      clear he
      refine kx_istore_e (pc := 32) (lv' := [_, _, _, _, _, _]) (kx_dd d_Mo_weakest 21 rfl) (Nat.le_of_ble_eq_true rfl) rfl ?_
      refine kx_iconst (pc := 34) (v := 0) (kx_dd d_Mo_weakest 22 rfl) rfl ?_
      refine kx_istore_e (pc := 35) (lv' := [_, _, _, _, _, _]) (kx_dd d_Mo_weakest 23 rfl) (Nat.le_of_ble_eq_true rfl) rfl ?_
      rw [nI_z (Nat.lt_of_lt_of_le faiF_lt (by decide))] at c20
      refine kx_mono (fun v h' z => ?_) (y_weak_loop (d := d + 3) hm nw T hwt D ho hp V hV a9 ha9 b9 hb9 _ (hadF D (V b9) a9 c9) (hadF_lt (hV b9 hb9).1) (faiF_sho c20) (ruK (V b9)) 0 (by omega) (fun j q => absurd q (Nat.not_lt_zero j)))
      refine ⟨?_, z.2⟩
      rw [z.1]
      unfold weaA
      rw [if_pos c7, nI_clamp (by omega), nI_clamp (by omega), nI_clamp (by omega), if_pos c20]
    · refine kx_iconst (pc := 23) (v := -1) (kx_dd d_Mo_weakest 14 rfl) rfl ?_
      refine kx_iret (pc := 24) rfl (kx_dd d_Mo_weakest 15 rfl) (Nat.le_refl _) (Nat.le_refl _) ?_
      rw [nI_z (Nat.lt_of_lt_of_le faiF_lt (by decide))] at c20
      refine ⟨?_, rfl⟩
      unfold weaA
      rw [if_pos c7, nI_clamp (by omega), nI_clamp (by omega), nI_clamp (by omega), if_neg c20]
  · refine kx_bipush (pc := 10) (v := -2) (kx_dd d_Mo_weakest 6 rfl) rfl ?_
    refine kx_iret (pc := 12) rfl (kx_dd d_Mo_weakest 7 rfl) (Nat.le_refl _) (Nat.le_refl _) ?_
    exact ⟨by unfold weaA; rw [if_neg (bP_0.mp c7)], rfl⟩
