/-! top-level: withdraw, mark -/
theorem valM {b : Int32} (h : 0 ≤ b ∧ b ≤ 1023) : ∃ k, k ≤ 1023 ∧ b = nI k := by
  obtain ⟨k, hk, rfl⟩ := nI_of (Int32.not_lt.mpr h.1)
  exact ⟨k, (nI_leI (b := 1023) hk (by decide)).mp h.2, rfl⟩
/-- a claim withdrawn: K what holds the docket, M the memory behind it -/
def WdQ (D : DK) (K : DK → kx_Mem → Prop) (M : Nat → kx_Mem) (a : Int32) (h : kx_Mem) (v : Option Value) (h' : kx_Mem) : Prop := (¬ (0 ≤ a ∧ a < nI D.2.2.1.1) ∧ v = some (.int (-2)) ∧ h' = h) ∨ ∃ c, c < D.2.2.1.1 ∧ a = nI c ∧ ((cN D.2.2.1 c 8 ≠ 0 ∧ v = some (.int (-4)) ∧ h' = h) ∨ (cN D.2.2.1 c 8 = 0 ∧ v = some (.int 1) ∧ DKok (setCf D c 8 3) ∧ K (setCf D c 8 3) h' ∧ h' = M c))
def MkQ (D : DK) (K : DK → kx_Mem → Prop) (M : Nat → kx_Mem) (a b : Int32) (h : kx_Mem) (v : Option Value) (h' : kx_Mem) : Prop := (¬ ((0 ≤ a ∧ a < nI D.2.2.1.1) ∧ (0 ≤ b ∧ b ≤ 1023)) ∧ v = some (.int (-2)) ∧ h' = h) ∨ ∃ c, c < D.2.2.1.1 ∧ a = nI c ∧ (0 ≤ b ∧ b ≤ 1023) ∧ v = some (.int (nI (cN D.2.2.1 c 7))) ∧ DKok (setCf D c 7 b) ∧ K (setCf D c 7 b) h' ∧ h' = M c
theorem x_Tc_withdraw {l : Launch} {g : kx_G} {d : Nat} {h : kx_Mem} (hs : SC h) (D : DK) (A : DA) (ho : DKok D) (hp : DKc D A h) (a : Int32) : kx_Sp l g m_Tc_withdraw [.ref 0, .int a] h (d + 4) 0 0 (fun v h' => WdQ D (fun D h => DKc D A h) (fun c => kx_setI h (A.1 c) 8 3) a h v h') := by
  have o1 := ho.2.2.1.1
  by_cases e9 : 0 ≤ a ∧ a < nI D.2.2.1.1
  · skip
    obtain ⟨a9, ha9, rfl⟩ := valP (n := D.2.2.1.1) (by omega) e9
    have e1 : h.1 (A.1 a9) 8 = nI (cN D.2.2.1 a9 8) := ((hp.2.2.2.2.1.2 a9 ha9).2.2.2.1 8 (by decide) (by decide)).trans ((ho.2.2.1.2 a9 ha9).1 8 (by decide) (by decide) (by decide) (by decide))
    have b8 : cN D.2.2.1 a9 8 ≤ 3 := (ho.2.2.1.2 a9 ha9).2.2.2.2.2.2.2.2.2.1
    refine kx_enter_e (lv := [_, _, _]) (by decide +kernel) (Nat.le_of_ble_eq_true rfl) rfl ?_
    refine kx_aload_n (pc := 0) (kx_dd d_Tc_withdraw 0 rfl) rfl rfl ?_
    refine kx_getR (pc := 1) (b := 39) fl_Tc_57 (hs.k 0 rfl) rfl (hs.r 6 rfl) (kx_dd d_Tc_withdraw 1 rfl) ?_
    refine kx_iload_n (pc := 4) (kx_dd d_Tc_withdraw 2 rfl) rfl rfl ?_
    refine kx_invV (pc := 5) (a := 39) (as := [_]) (kx_dd d_Tc_withdraw 3 rfl) ⟨lk_Tc_190, wi_Do_claimAt, we_Do_claimAt⟩ w_Do_claimAt (hs.k 39 rfl) rfl rfl rfl rfl (Nat.le_of_ble_eq_true rfl) (x_Do_claimAt (d := d) hs D A ho hp a9 ha9) (Nat.le_refl _) ⟨Nat.le_refl _, Nat.le_refl _⟩ (fun v h' hq => ?_)
    obtain ⟨rfl, he⟩ := hq
    rw [he]
    clear he
    refine kx_astore_ne (pc := 8) (lv' := [_, _, _]) (kx_dd d_Tc_withdraw 4 rfl) rfl (Nat.le_of_ble_eq_true rfl) rfl ?_
    refine kx_aload_n (pc := 9) (kx_dd d_Tc_withdraw 5 rfl) rfl rfl ?_
    refine kx_ifnonnull (pc := 10) (tgt := 16) (kx_dd d_Tc_withdraw 6 rfl) rfl ?_
    refine kx_aload_n (pc := 16) (kx_dd d_Tc_withdraw 9 rfl) rfl rfl ?_
    refine kx_getI (pc := 17) fl_Tc_239 (congrArg Prod.fst (hp.2.2.2.2.1.2 a9 ha9).2.2.1) rfl (kx_dd d_Tc_withdraw 10 rfl) ?_
    refine kx_if_eq (pc := 20) (tgt := 26) (kx_dd d_Tc_withdraw 11 rfl) rfl (fun c20 => ?_) (fun c20 => ?_)
    · refine kx_aload_n (pc := 26) (kx_dd d_Tc_withdraw 14 rfl) rfl rfl ?_
      refine kx_iconst (pc := 27) (v := 3) (kx_dd d_Tc_withdraw 15 rfl) rfl ?_
      refine kx_putI (pc := 28) fl_Tc_239 (congrArg Prod.fst (hp.2.2.2.2.1.2 a9 ha9).2.2.1) (hp.2.2.2.2.1.2 a9 ha9).2.1 rfl rfl (kx_dd d_Tc_withdraw 16 rfl) ?_
      refine kx_iconst (pc := 31) (v := 1) (kx_dd d_Tc_withdraw 17 rfl) rfl ?_
      refine kx_iret (pc := 32) rfl (kx_dd d_Tc_withdraw 18 rfl) (Nat.le_refl _) (Nat.le_refl _) ?_
      rw [e1, show (0 : Int32) = nI 0 from rfl, nI_eq (by omega) (by decide)] at c20
      exact Or.inr ⟨a9, ha9, rfl, Or.inr ⟨c20, rfl, (ho.set (by decide) (Or.inr ⟨3, rfl, by decide⟩)), hp.s (3 : Int32) ha9, rfl⟩⟩
    · refine kx_bipush (pc := 23) (v := -4) (kx_dd d_Tc_withdraw 12 rfl) rfl ?_
      refine kx_iret (pc := 25) rfl (kx_dd d_Tc_withdraw 13 rfl) (Nat.le_refl _) (Nat.le_refl _) ?_
      rw [e1, show (0 : Int32) = nI 0 from rfl, nI_eq (by omega) (by decide)] at c20
      exact Or.inr ⟨a9, ha9, rfl, Or.inl ⟨c20, rfl, rfl⟩⟩
  · skip
    refine kx_enter_e (lv := [_, _, _]) (by decide +kernel) (Nat.le_of_ble_eq_true rfl) rfl ?_
    refine kx_aload_n (pc := 0) (kx_dd d_Tc_withdraw 0 rfl) rfl rfl ?_
    refine kx_getR (pc := 1) (b := 39) fl_Tc_57 (hs.k 0 rfl) rfl (hs.r 6 rfl) (kx_dd d_Tc_withdraw 1 rfl) ?_
    refine kx_iload_n (pc := 4) (kx_dd d_Tc_withdraw 2 rfl) rfl rfl ?_
    refine kx_invV (pc := 5) (a := 39) (as := [_]) (kx_dd d_Tc_withdraw 3 rfl) ⟨lk_Tc_190, wi_Do_claimAt, we_Do_claimAt⟩ w_Do_claimAt (hs.k 39 rfl) rfl rfl rfl rfl (Nat.le_of_ble_eq_true rfl) (x_Do_claimAtN (d := d + 2) hs D A ho hp a e9) (Nat.le_refl _) ⟨Nat.le_refl _, Nat.le_refl _⟩ (fun v h' hq => ?_)
    obtain ⟨rfl, he⟩ := hq
    rw [he]
    clear he
    refine kx_astore_neN (pc := 8) (lv' := [_, _, _]) (kx_dd d_Tc_withdraw 4 rfl) rfl (Nat.le_of_ble_eq_true rfl) rfl ?_
    refine kx_aload_nN (pc := 9) (kx_dd d_Tc_withdraw 5 rfl) rfl rfl ?_
    refine kx_ifnonnullN (pc := 10) (kx_dd d_Tc_withdraw 6 rfl) ?_
    refine kx_bipush (pc := 13) (v := -2) (kx_dd d_Tc_withdraw 7 rfl) rfl ?_
    refine kx_iret (pc := 15) rfl (kx_dd d_Tc_withdraw 8 rfl) (Nat.le_refl _) (Nat.le_refl _) ?_
    exact Or.inl ⟨e9, rfl, rfl⟩
theorem y_withdraw {l : Launch} {g : kx_G} {d : Nat} {h : kx_Mem} (hm : SM h) (nw : Nat) (T : Nat → Nat) (hwt : WTok nw T) (D : DK) (ho : DKok D) (hp : DKm D nw T h) (a : Int32) : kx_Sp l g m_Mo_withdraw [.ref 84, .int a] h (d + 2) 0 0 (fun v h' => WdQ D (fun D h => DKm D nw T h) (fun c => kx_setI h 130 c 3) a h v h') := by
  have o1 := ho.2.2.1.1
  refine kx_enter_e (lv := [_, _]) (by decide +kernel) (Nat.le_of_ble_eq_true rfl) rfl ?_
  refine kx_aload_n (pc := 0) (kx_dd d_Mo_withdraw 0 rfl) rfl rfl ?_
  refine kx_iload_n (pc := 1) (kx_dd d_Mo_withdraw 1 rfl) rfl rfl ?_
  refine kx_invV (pc := 2) (a := 84) (as := [_]) (kx_dd d_Mo_withdraw 2 rfl) ⟨lk_Mo_520, wi_Mo_isClaim, we_Mo_isClaim⟩ w_Mo_isClaim (hm.k 0 rfl) rfl rfl rfl rfl (Nat.le_of_ble_eq_true rfl) (y_isClaim (d := d) hm nw T hwt D ho hp a) (Nat.le_refl _) ⟨Nat.le_refl _, Nat.le_refl _⟩ (fun v h' hq => ?_)
  obtain ⟨rfl, he⟩ := hq
  rw [he]
  clear he
  refine kx_if_ne (pc := 5) (tgt := 11) (kx_dd d_Mo_withdraw 3 rfl) rfl (fun c5 => ?_) (fun c5 => ?_)
  · have c5 := (bP_ti _).mp c5
    obtain ⟨a9, ha9, rfl⟩ := valP (n := D.2.2.1.1) (by omega) c5
    have e1 : h.1 130 a9 = nI (cN D.2.2.1 a9 8) := ((hp.2.2.1.2 a9 ha9).1 8 (by decide) (by decide) (by decide)).trans ((ho.2.2.1.2 a9 ha9).1 8 (by decide) (by decide) (by decide) (by decide))
    have b8 : cN D.2.2.1 a9 8 ≤ 3 := (ho.2.2.1.2 a9 ha9).2.2.2.2.2.2.2.2.2.1
    refine kx_aload_n (pc := 11) (kx_dd d_Mo_withdraw 6 rfl) rfl rfl ?_
    refine kx_getR (pc := 12) (b := 130) fl_Mo_348 (hm.k 0 rfl) rfl (hm.r 45 rfl) (kx_dd d_Mo_withdraw 7 rfl) ?_
    refine kx_iload_n (pc := 15) (kx_dd d_Mo_withdraw 8 rfl) rfl rfl ?_
    refine kx_ialdn (pc := 16) a9 (hm.t 46 rfl) rfl (by omega) (by decide) (kx_dd d_Mo_withdraw 9 rfl) ?_
    refine kx_if_eq (pc := 17) (tgt := 23) (kx_dd d_Mo_withdraw 10 rfl) rfl (fun c17 => ?_) (fun c17 => ?_)
    · refine kx_aload_n (pc := 23) (kx_dd d_Mo_withdraw 13 rfl) rfl rfl ?_
      refine kx_getR (pc := 24) (b := 130) fl_Mo_348 (hm.k 0 rfl) rfl (hm.r 45 rfl) (kx_dd d_Mo_withdraw 14 rfl) ?_
      refine kx_iload_n (pc := 27) (kx_dd d_Mo_withdraw 15 rfl) rfl rfl ?_
      refine kx_iconst (pc := 28) (v := 3) (kx_dd d_Mo_withdraw 16 rfl) rfl ?_
      refine kx_iastn (pc := 29) a9 (hm.t 46 rfl) (by decide) rfl (by omega) (by decide) (kx_dd d_Mo_withdraw 17 rfl) ?_
      refine kx_iconst (pc := 30) (v := 1) (kx_dd d_Mo_withdraw 18 rfl) rfl ?_
      refine kx_iret (pc := 31) rfl (kx_dd d_Mo_withdraw 19 rfl) (Nat.le_refl _) (Nat.le_refl _) ?_
      rw [e1, show (0 : Int32) = nI 0 from rfl, nI_eq (by omega) (by decide)] at c17
      exact Or.inr ⟨a9, ha9, rfl, Or.inr ⟨c17, rfl, (ho.set (by decide) (Or.inr ⟨3, rfl, by decide⟩)), hp.set (j := 8) (v := (3 : Int32)) (by decide) (by decide), rfl⟩⟩
    · refine kx_bipush (pc := 20) (v := -4) (kx_dd d_Mo_withdraw 11 rfl) rfl ?_
      refine kx_iret (pc := 22) rfl (kx_dd d_Mo_withdraw 12 rfl) (Nat.le_refl _) (Nat.le_refl _) ?_
      rw [e1, show (0 : Int32) = nI 0 from rfl, nI_eq (by omega) (by decide)] at c17
      exact Or.inr ⟨a9, ha9, rfl, Or.inl ⟨c17, rfl, rfl⟩⟩
  · refine kx_bipush (pc := 8) (v := -2) (kx_dd d_Mo_withdraw 4 rfl) rfl ?_
    refine kx_iret (pc := 10) rfl (kx_dd d_Mo_withdraw 5 rfl) (Nat.le_refl _) (Nat.le_refl _) ?_
    exact Or.inl ⟨bP_0.mp c5, rfl, rfl⟩
theorem x_Tc_mark {l : Launch} {g : kx_G} {d : Nat} {h : kx_Mem} (hs : SC h) (D : DK) (A : DA) (ho : DKok D) (hp : DKc D A h) (a b : Int32) : kx_Sp l g m_Tc_mark [.ref 0, .int a, .int b] h (d + 4) 0 0 (fun v h' => MkQ D (fun D h => DKc D A h) (fun c => kx_setI h (A.1 c) 7 b) a b h v h') := by
  have o1 := ho.2.2.1.1
  by_cases e9 : 0 ≤ a ∧ a < nI D.2.2.1.1
  · skip
    obtain ⟨a9, ha9, rfl⟩ := valP (n := D.2.2.1.1) (by omega) e9
    have e1 : h.1 (A.1 a9) 7 = nI (cN D.2.2.1 a9 7) := ((hp.2.2.2.2.1.2 a9 ha9).2.2.2.1 7 (by decide) (by decide)).trans ((ho.2.2.1.2 a9 ha9).1 7 (by decide) (by decide) (by decide) (by decide))
    have b8 : cN D.2.2.1 a9 8 ≤ 3 := (ho.2.2.1.2 a9 ha9).2.2.2.2.2.2.2.2.2.1
    refine kx_enter_e (lv := [_, _, _, _, _]) (by decide +kernel) (Nat.le_of_ble_eq_true rfl) rfl ?_
    refine kx_aload_n (pc := 0) (kx_dd d_Tc_mark 0 rfl) rfl rfl ?_
    refine kx_getR (pc := 1) (b := 39) fl_Tc_57 (hs.k 0 rfl) rfl (hs.r 6 rfl) (kx_dd d_Tc_mark 1 rfl) ?_
    refine kx_iload_n (pc := 4) (kx_dd d_Tc_mark 2 rfl) rfl rfl ?_
    refine kx_invV (pc := 5) (a := 39) (as := [_]) (kx_dd d_Tc_mark 3 rfl) ⟨lk_Tc_190, wi_Do_claimAt, we_Do_claimAt⟩ w_Do_claimAt (hs.k 39 rfl) rfl rfl rfl rfl (Nat.le_of_ble_eq_true rfl) (x_Do_claimAt (d := d) hs D A ho hp a9 ha9) (Nat.le_refl _) ⟨Nat.le_refl _, Nat.le_refl _⟩ (fun v h' hq => ?_)
    obtain ⟨rfl, he⟩ := hq
    rw [he]
    clear he
    refine kx_astore_ne (pc := 8) (lv' := [_, _, _, _, _]) (kx_dd d_Tc_mark 4 rfl) rfl (Nat.le_of_ble_eq_true rfl) rfl ?_
    refine kx_aload_n (pc := 9) (kx_dd d_Tc_mark 5 rfl) rfl rfl ?_
    refine kx_ifnull (pc := 10) (kx_dd d_Tc_mark 6 rfl) ?_
    refine kx_iload_n (pc := 13) (kx_dd d_Tc_mark 7 rfl) rfl rfl ?_
    refine kx_iconst (pc := 14) (v := 0) (kx_dd d_Tc_mark 8 rfl) rfl ?_
    refine kx_sipush (pc := 15) (v := 1023) (kx_dd d_Tc_mark 9 rfl) rfl ?_
    refine kx_invS (pc := 18) (as := [_, _, _]) (kx_dd d_Tc_mark 10 rfl) ⟨lk_Tc_90, wt_Tc_within⟩ w_Tc_within rfl rfl (Nat.le_of_ble_eq_true rfl) (x_Tc_within (d := d + 3) b 0 1023) (Nat.le_refl _) ⟨Nat.le_refl _, Nat.le_refl _⟩ (fun v h' hq => ?_)
    obtain ⟨rfl, he⟩ := hq
    rw [he]
    clear he
    refine kx_if_ne (pc := 21) (tgt := 27) (kx_dd d_Tc_mark 11 rfl) rfl (fun c21 => ?_) (fun c21 => ?_)
    · have c21 := (bP_ti _).mp c21
      obtain ⟨b9, hb9, rfl⟩ := valM c21
      refine kx_aload_n (pc := 27) (kx_dd d_Tc_mark 14 rfl) rfl rfl ?_
      refine kx_getI (pc := 28) fl_Tc_194 (congrArg Prod.fst (hp.2.2.2.2.1.2 a9 ha9).2.2.1) rfl (kx_dd d_Tc_mark 15 rfl) ?_
      refine kx_istore_e (pc := 31) (lv' := [_, _, _, _, _]) (kx_dd d_Tc_mark 16 rfl) (Nat.le_of_ble_eq_true rfl) rfl ?_
      refine kx_aload_n (pc := 33) (kx_dd d_Tc_mark 17 rfl) rfl rfl ?_
      refine kx_iload_n (pc := 34) (kx_dd d_Tc_mark 18 rfl) rfl rfl ?_
      refine kx_putI (pc := 35) fl_Tc_194 (congrArg Prod.fst (hp.2.2.2.2.1.2 a9 ha9).2.2.1) (hp.2.2.2.2.1.2 a9 ha9).2.1 rfl rfl (kx_dd d_Tc_mark 19 rfl) ?_
      refine kx_iload (pc := 38) (kx_dd d_Tc_mark 20 rfl) rfl ?_
      refine kx_iret (pc := 40) rfl (kx_dd d_Tc_mark 21 rfl) (Nat.le_refl _) (Nat.le_refl _) ?_
      exact Or.inr ⟨a9, ha9, rfl, c21, by rw [e1], (ho.set (by decide) (Or.inr ⟨b9, rfl, hb9⟩)), hp.s (nI b9) ha9, rfl⟩
    · refine kx_bipush (pc := 24) (v := -2) (kx_dd d_Tc_mark 12 rfl) rfl ?_
      refine kx_iret (pc := 26) rfl (kx_dd d_Tc_mark 13 rfl) (Nat.le_refl _) (Nat.le_refl _) ?_
      exact Or.inl ⟨fun z => bP_0.mp c21 z.2, rfl, rfl⟩
  · skip
    refine kx_enter_e (lv := [_, _, _, _, _]) (by decide +kernel) (Nat.le_of_ble_eq_true rfl) rfl ?_
    refine kx_aload_n (pc := 0) (kx_dd d_Tc_mark 0 rfl) rfl rfl ?_
    refine kx_getR (pc := 1) (b := 39) fl_Tc_57 (hs.k 0 rfl) rfl (hs.r 6 rfl) (kx_dd d_Tc_mark 1 rfl) ?_
    refine kx_iload_n (pc := 4) (kx_dd d_Tc_mark 2 rfl) rfl rfl ?_
    refine kx_invV (pc := 5) (a := 39) (as := [_]) (kx_dd d_Tc_mark 3 rfl) ⟨lk_Tc_190, wi_Do_claimAt, we_Do_claimAt⟩ w_Do_claimAt (hs.k 39 rfl) rfl rfl rfl rfl (Nat.le_of_ble_eq_true rfl) (x_Do_claimAtN (d := d + 2) hs D A ho hp a e9) (Nat.le_refl _) ⟨Nat.le_refl _, Nat.le_refl _⟩ (fun v h' hq => ?_)
    obtain ⟨rfl, he⟩ := hq
    rw [he]
    clear he
    refine kx_astore_neN (pc := 8) (lv' := [_, _, _, _, _]) (kx_dd d_Tc_mark 4 rfl) rfl (Nat.le_of_ble_eq_true rfl) rfl ?_
    refine kx_aload_nN (pc := 9) (kx_dd d_Tc_mark 5 rfl) rfl rfl ?_
    refine kx_ifnullN (pc := 10) (tgt := 24) (kx_dd d_Tc_mark 6 rfl) rfl ?_
    refine kx_bipush (pc := 24) (v := -2) (kx_dd d_Tc_mark 12 rfl) rfl ?_
    refine kx_iret (pc := 26) rfl (kx_dd d_Tc_mark 13 rfl) (Nat.le_refl _) (Nat.le_refl _) ?_
    exact Or.inl ⟨fun z => e9 z.1, rfl, rfl⟩
theorem y_mark {l : Launch} {g : kx_G} {d : Nat} {h : kx_Mem} (hm : SM h) (nw : Nat) (T : Nat → Nat) (hwt : WTok nw T) (D : DK) (ho : DKok D) (hp : DKm D nw T h) (a b : Int32) : kx_Sp l g m_Mo_mark [.ref 84, .int a, .int b] h (d + 2) 0 0 (fun v h' => MkQ D (fun D h => DKm D nw T h) (fun c => kx_setI h 129 c b) a b h v h') := by
  have o1 := ho.2.2.1.1
  refine kx_enter_e (lv := [_, _, _, _]) (by decide +kernel) (Nat.le_of_ble_eq_true rfl) rfl ?_
  refine kx_aload_n (pc := 0) (kx_dd d_Mo_mark 0 rfl) rfl rfl ?_
  refine kx_iload_n (pc := 1) (kx_dd d_Mo_mark 1 rfl) rfl rfl ?_
  refine kx_invV (pc := 2) (a := 84) (as := [_]) (kx_dd d_Mo_mark 2 rfl) ⟨lk_Mo_520, wi_Mo_isClaim, we_Mo_isClaim⟩ w_Mo_isClaim (hm.k 0 rfl) rfl rfl rfl rfl (Nat.le_of_ble_eq_true rfl) (y_isClaim (d := d) hm nw T hwt D ho hp a) (Nat.le_refl _) ⟨Nat.le_refl _, Nat.le_refl _⟩ (fun v h' hq => ?_)
  obtain ⟨rfl, he⟩ := hq
  rw [he]
  clear he
  refine kx_if_eq (pc := 5) (tgt := 20) (kx_dd d_Mo_mark 3 rfl) rfl (fun c5 => ?_) (fun c5 => ?_)
  · refine kx_bipush (pc := 20) (v := -2) (kx_dd d_Mo_mark 10 rfl) rfl ?_
    refine kx_iret (pc := 22) rfl (kx_dd d_Mo_mark 11 rfl) (Nat.le_refl _) (Nat.le_refl _) ?_
    exact Or.inl ⟨fun z => bP_0.mp c5 z.1, rfl, rfl⟩
  · refine kx_iload_n (pc := 8) (kx_dd d_Mo_mark 4 rfl) rfl rfl ?_
    refine kx_i2l (pc := 9) (kx_dd d_Mo_mark 5 rfl) ?_
    refine kx_lconst (pc := 10) (v := 0) (kx_dd d_Mo_mark 6 rfl) rfl ?_
    refine kx_ldc2 (pc := 11) kl_Mo_523 (kx_dd d_Mo_mark 7 rfl) ?_
    refine kx_invS (pc := 14) (as := [_, _, _]) (kx_dd d_Mo_mark 8 rfl) ⟨lk_Mo_5, wt_Mo_in⟩ w_Mo_in rfl rfl (Nat.le_of_ble_eq_true rfl) (y_in (d := d + 1) _ _ _) (Nat.le_refl _) ⟨Nat.le_refl _, Nat.le_refl _⟩ (fun v h' hq => ?_)
    obtain ⟨rfl, he⟩ := hq
    rw [he]
    clear he
    refine kx_if_ne (pc := 17) (tgt := 23) (kx_dd d_Mo_mark 9 rfl) rfl (fun c17 => ?_) (fun c17 => ?_)
    · have c5 := (bP_ti _).mp c5
      have c17 := (bP_ti _).mp c17
      rw [w_le0, show (1023 : Int64) = (1023 : Int32).toInt64 by decide, w_le] at c17
      obtain ⟨a9, ha9, rfl⟩ := valP (n := D.2.2.1.1) (by omega) c5
      obtain ⟨b9, hb9, rfl⟩ := valM c17
      have e1 : h.1 129 a9 = nI (cN D.2.2.1 a9 7) := ((hp.2.2.1.2 a9 ha9).1 7 (by decide) (by decide) (by decide)).trans ((ho.2.2.1.2 a9 ha9).1 7 (by decide) (by decide) (by decide) (by decide))
      have b8 : cN D.2.2.1 a9 8 ≤ 3 := (ho.2.2.1.2 a9 ha9).2.2.2.2.2.2.2.2.2.1
      refine kx_aload_n (pc := 23) (kx_dd d_Mo_mark 12 rfl) rfl rfl ?_
      refine kx_getR (pc := 24) (b := 129) fl_Mo_345 (hm.k 0 rfl) rfl (hm.r 44 rfl) (kx_dd d_Mo_mark 13 rfl) ?_
      refine kx_iload_n (pc := 27) (kx_dd d_Mo_mark 14 rfl) rfl rfl ?_
      refine kx_ialdn (pc := 28) a9 (hm.t 45 rfl) rfl (by omega) (by decide) (kx_dd d_Mo_mark 15 rfl) ?_
      refine kx_istore_ne (pc := 29) (lv' := [_, _, _, _]) (kx_dd d_Mo_mark 16 rfl) rfl (Nat.le_of_ble_eq_true rfl) rfl ?_
      refine kx_aload_n (pc := 30) (kx_dd d_Mo_mark 17 rfl) rfl rfl ?_
      refine kx_getR (pc := 31) (b := 129) fl_Mo_345 (hm.k 0 rfl) rfl (hm.r 44 rfl) (kx_dd d_Mo_mark 18 rfl) ?_
      refine kx_iload_n (pc := 34) (kx_dd d_Mo_mark 19 rfl) rfl rfl ?_
      refine kx_iload_n (pc := 35) (kx_dd d_Mo_mark 20 rfl) rfl rfl ?_
      refine kx_iastn (pc := 36) a9 (hm.t 45 rfl) (by decide) rfl (by omega) (by decide) (kx_dd d_Mo_mark 21 rfl) ?_
      refine kx_iload_n (pc := 37) (kx_dd d_Mo_mark 22 rfl) rfl rfl ?_
      refine kx_iret (pc := 38) rfl (kx_dd d_Mo_mark 23 rfl) (Nat.le_refl _) (Nat.le_refl _) ?_
      exact Or.inr ⟨a9, ha9, rfl, c17, by rw [e1], (ho.set (by decide) (Or.inr ⟨b9, rfl, hb9⟩)), hp.set (j := 7) (v := nI b9) (by decide) (by decide), rfl⟩
    · refine kx_bipush (pc := 20) (v := -2) (kx_dd d_Mo_mark 10 rfl) rfl ?_
      refine kx_iret (pc := 22) rfl (kx_dd d_Mo_mark 11 rfl) (Nat.le_refl _) (Nat.le_refl _) ?_
      have c17 := bP_0.mp c17
      rw [w_le0, show (1023 : Int64) = (1023 : Int32).toInt64 by decide, w_le] at c17
      exact Or.inl ⟨fun z => c17 z.2, rfl, rfl⟩
