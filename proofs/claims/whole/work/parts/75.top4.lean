/-! top-level: heirOn, rate, thing -/
theorem x_Tc_heirOn {l : Launch} {g : kx_G} {d : Nat} {h : kx_Mem} (hs : SC h) (s : PS) (ho : PSok s) (hp : PSc s h) (a b i wh : Int32) : kx_Sp l g m_Tc_heirOn [.ref 0, .int a, .int b, .int i, .int wh] h (d + 3) 0 0 (fun v h' => v = some (.int (if (0 ≤ a ∧ a < nI s.1) ∧ (0 ≤ b ∧ b ≤ 1999) then heAns (heF s a.toNatClampNeg b.toNatClampNeg) i wh else -1)) ∧ kx_Fr [23, 27] h h') := by
  have e14 : h.1 14 0 = nI s.1 := hp.1
  have o1 := ho.1
  refine kx_enter_e (lv := [_, _, _, _, _]) (by decide +kernel) (Nat.le_of_ble_eq_true rfl) rfl ?_
  refine kx_aload_n (pc := 0) (kx_dd d_Tc_heirOn 0 rfl) rfl rfl ?_
  refine kx_getR (pc := 1) (b := 14) fl_Tc_34 (hs.k 0 rfl) rfl (hs.r 3 rfl) (kx_dd d_Tc_heirOn 1 rfl) ?_
  refine kx_iload_n (pc := 4) (kx_dd d_Tc_heirOn 2 rfl) rfl rfl ?_
  refine kx_invV (pc := 5) (a := 14) (as := [_]) (kx_dd d_Tc_heirOn 3 rfl) ⟨lk_Tc_101, wi_Pe_has, we_Pe_has⟩ w_Pe_has (hs.k 14 rfl) rfl rfl rfl rfl (Nat.le_of_ble_eq_true rfl) (x_Pe_has (d := d + 2) hs a) (Nat.le_refl _) ⟨Nat.le_refl _, Nat.le_refl _⟩ (fun v h' hq => ?_)
  obtain ⟨rfl, he⟩ := hq
  rw [he]
  clear he
  refine kx_if_eq (pc := 8) (tgt := 18) (kx_dd d_Tc_heirOn 4 rfl) rfl (fun c8 => ?_) (fun c8 => ?_)
  · refine kx_iconst (pc := 18) (v := -1) (kx_dd d_Tc_heirOn 8 rfl) rfl ?_
    refine kx_iret (pc := 19) rfl (kx_dd d_Tc_heirOn 9 rfl) (Nat.le_refl _) (Nat.le_refl _) ?_
    rw [e14] at c8
    exact ⟨by rw [if_neg (fun z => bP_0.mp c8 z.1)], kx_Fr.rf⟩
  · refine kx_iload_n (pc := 11) (kx_dd d_Tc_heirOn 5 rfl) rfl rfl ?_
    refine kx_invS (pc := 12) (as := [_]) (kx_dd d_Tc_heirOn 6 rfl) ⟨lk_Tc_105, wt_Tc_isDay⟩ w_Tc_isDay rfl rfl (Nat.le_of_ble_eq_true rfl) (x_Tc_isDay (d := d + 1) b) (Nat.le_refl _) ⟨Nat.le_refl _, Nat.le_refl _⟩ (fun v h' hq => ?_)
    obtain ⟨rfl, he⟩ := hq
    rw [he]
    clear he
    refine kx_if_ne (pc := 15) (tgt := 20) (kx_dd d_Tc_heirOn 7 rfl) rfl (fun c15 => ?_) (fun c15 => ?_)
    · have c8 := (bP_ti _).mp c8
      have c15 := (bP_ti _).mp c15
      rw [e14] at c8
      obtain ⟨a9, ha9, rfl⟩ := valP (n := s.1) (by omega) c8
      obtain ⟨b9, hb9, rfl⟩ := valD c15
      refine kx_aload_n (pc := 20) (kx_dd d_Tc_heirOn 10 rfl) rfl rfl ?_
      refine kx_getR (pc := 21) (b := 14) fl_Tc_34 (hs.k 0 rfl) rfl (hs.r 3 rfl) (kx_dd d_Tc_heirOn 11 rfl) ?_
      refine kx_iload_n (pc := 24) (kx_dd d_Tc_heirOn 12 rfl) rfl rfl ?_
      refine kx_iload_n (pc := 25) (kx_dd d_Tc_heirOn 13 rfl) rfl rfl ?_
      refine kx_iload_n (pc := 26) (kx_dd d_Tc_heirOn 14 rfl) rfl rfl ?_
      refine kx_iload (pc := 27) (kx_dd d_Tc_heirOn 15 rfl) rfl ?_
      refine kx_invV (pc := 29) (a := 14) (as := [_, _, _, _]) (kx_dd d_Tc_heirOn 16 rfl) ⟨lk_Tc_118, wi_Pe_heirDetail, we_Pe_heirDetail⟩ w_Pe_heirDetail (hs.k 14 rfl) rfl rfl rfl rfl (Nat.le_of_ble_eq_true rfl) (x_Pe_heirDetail (d := d) hs s ho hp a9 b9 i wh (by omega) (by omega)) (Nat.le_refl _) ⟨Nat.le_refl _, Nat.le_refl _⟩ (fun v h' hq => ?_)
      revert h'
      intro h1 hq
      obtain ⟨rfl, hf9⟩ := hq
      refine kx_iret (pc := 32) rfl (kx_dd d_Tc_heirOn 17 rfl) (Nat.le_refl _) (Nat.le_refl _) ?_
      exact ⟨by rw [if_pos ⟨c8, c15⟩, nI_clamp (by omega), nI_clamp (by omega)], hf9⟩
    · refine kx_iconst (pc := 18) (v := -1) (kx_dd d_Tc_heirOn 8 rfl) rfl ?_
      refine kx_iret (pc := 19) rfl (kx_dd d_Tc_heirOn 9 rfl) (Nat.le_refl _) (Nat.le_refl _) ?_
      exact ⟨by rw [if_neg (fun z => bP_0.mp c15 z.2)], kx_Fr.rf⟩
def rsT (s : RS) (x y z : Nat) : RS := (s.1 + 1, upF s.2.1 s.1 x, upF s.2.2.1 s.1 y, upF s.2.2.2 s.1 z)
theorem RSok.add {s : RS} {x y z : Nat} (ho : RSok s) (hn : s.1 < 60) (h1 : 1 ≤ x) (h2 : x ≤ 3) (h3 : y ≤ 1999) (h4 : 1 ≤ z) (h5 : z ≤ 99999) : RSok (rsT s x y z) := by
  refine ⟨hn, fun k hk => ?_⟩
  have hk' : k < s.1 + 1 := hk
  show 1 ≤ upF s.2.1 s.1 x k ∧ upF s.2.1 s.1 x k ≤ 3 ∧ upF s.2.2.1 s.1 y k ≤ 1999 ∧ 1 ≤ upF s.2.2.2 s.1 z k ∧ upF s.2.2.2 s.1 z k ≤ 99999
  unfold upF
  by_cases e : k = s.1
  · simp only [if_pos e]
    exact ⟨h1, h2, h3, h4, h5⟩
  · simp only [if_neg e]
    exact ho.2 k (by omega)
def rsFC (a j : Nat) : Prop := (31 ≤ a ∧ a ≤ 33) ∨ (a = 30 ∧ j = 0)
theorem RSc.add {s : RS} {x y z : Nat} {h : kx_Mem} (hp : RSc s h) : RSc (rsT s x y z) (kx_setI (kx_setI (kx_setI (kx_setI h 31 s.1 (nI x)) 32 s.1 (nI y)) 33 s.1 (nI z)) 30 0 (nI (s.1 + 1))) ∧ kx_Fc rsFC h (kx_setI (kx_setI (kx_setI (kx_setI h 31 s.1 (nI x)) 32 s.1 (nI y)) 33 s.1 (nI z)) 30 0 (nI (s.1 + 1))) := by
  have hf : kx_Fc (fun a j => (31 ≤ a ∧ a ≤ 33 ∧ j = s.1) ∨ (a = 30 ∧ j = 0)) h (kx_setI (kx_setI (kx_setI (kx_setI h 31 s.1 (nI x)) 32 s.1 (nI y)) 33 s.1 (nI z)) 30 0 (nI (s.1 + 1))) := (((kx_Fc.set (by omega)).tr (kx_Fc.set (by omega))).tr (kx_Fc.set (by omega))).tr (kx_Fc.set (by omega))
  refine ⟨⟨setI_at, fun k hk => ?_⟩, hf.mono (fun a j q => by unfold rsFC; omega)⟩
  have hk' : k < s.1 + 1 := hk
  show _ = nI (upF s.2.1 s.1 x k) ∧ _ = nI (upF s.2.2.1 s.1 y k) ∧ _ = nI (upF s.2.2.2 s.1 z k)
  unfold upF
  by_cases e : k = s.1
  · simp only [if_pos e]
    rw [e]
    refine ⟨?_, ?_, ?_⟩
    · rw [setI_ne (Or.inl (by decide)), setI_ne (Or.inl (by decide)), setI_ne (Or.inl (by decide))]; exact setI_at
    · rw [setI_ne (Or.inl (by decide)), setI_ne (Or.inl (by decide))]; exact setI_at
    · rw [setI_ne (Or.inl (by decide))]; exact setI_at
  · simp only [if_neg e]
    rw [hf.2 31 k (by omega), hf.2 32 k (by omega), hf.2 33 k (by omega)]
    exact hp.2 k (by omega)
def rsFM (a j : Nat) : Prop := (113 ≤ a ∧ a ≤ 115) ∨ (a = 84 ∧ j = 35)
theorem RSm.add {s : RS} {x y z : Nat} {h : kx_Mem} (hp : RSm s h) : RSm (rsT s x y z) (kx_setI (kx_setI (kx_setI (kx_setI h 113 s.1 (nI x)) 114 s.1 (nI y)) 115 s.1 (nI z)) 84 35 (nI (s.1 + 1))) ∧ kx_Fc rsFM h (kx_setI (kx_setI (kx_setI (kx_setI h 113 s.1 (nI x)) 114 s.1 (nI y)) 115 s.1 (nI z)) 84 35 (nI (s.1 + 1))) := by
  have hf : kx_Fc (fun a j => (113 ≤ a ∧ a ≤ 115 ∧ j = s.1) ∨ (a = 84 ∧ j = 35)) h (kx_setI (kx_setI (kx_setI (kx_setI h 113 s.1 (nI x)) 114 s.1 (nI y)) 115 s.1 (nI z)) 84 35 (nI (s.1 + 1))) := (((kx_Fc.set (by omega)).tr (kx_Fc.set (by omega))).tr (kx_Fc.set (by omega))).tr (kx_Fc.set (by omega))
  refine ⟨⟨setI_at, fun k hk => ?_⟩, hf.mono (fun a j q => by unfold rsFM; omega)⟩
  have hk' : k < s.1 + 1 := hk
  show _ = nI (upF s.2.1 s.1 x k) ∧ _ = nI (upF s.2.2.1 s.1 y k) ∧ _ = nI (upF s.2.2.2 s.1 z k)
  unfold upF
  by_cases e : k = s.1
  · simp only [if_pos e]
    rw [e]
    refine ⟨?_, ?_, ?_⟩
    · rw [setI_ne (Or.inl (by decide)), setI_ne (Or.inl (by decide)), setI_ne (Or.inl (by decide))]; exact setI_at
    · rw [setI_ne (Or.inl (by decide)), setI_ne (Or.inl (by decide))]; exact setI_at
    · rw [setI_ne (Or.inl (by decide))]; exact setI_at
  · simp only [if_neg e]
    rw [hf.2 113 k (by omega), hf.2 114 k (by omega), hf.2 115 k (by omega)]
    exact hp.2 k (by omega)
def rsQ (C : Prop) (s s' : RS) (K : RS → kx_Mem → Prop) (F : Nat → Nat → Prop) (h : kx_Mem) (v : Option Value) (h' : kx_Mem) : Prop := (¬ C ∧ v = some (.int (-2)) ∧ h' = h) ∨ (C ∧ s.1 = 60 ∧ v = some (.int (-3)) ∧ h' = h) ∨ (C ∧ s.1 < 60 ∧ v = some (.int (nI (s.1 + 1))) ∧ RSok s' ∧ K s' h' ∧ kx_Fc F h h')
theorem valR {a : Int32} {m : Nat} (hm : m < 2 ^ 31) (h : 1 ≤ a ∧ a ≤ nI m) : ∃ k, 1 ≤ k ∧ k ≤ m ∧ a = nI k := by
  obtain ⟨k, hk, rfl, h1⟩ := i_ge (n := 1) (by decide) h.1
  exact ⟨k, h1, (nI_leI hk hm).mp h.2, rfl⟩
theorem x_Tc_rate {l : Launch} {g : kx_G} {d : Nat} {h : kx_Mem} (hs : SC h) (s : RS) (ho : RSok s) (hp : RSc s h) (a b c : Int32) : kx_Sp l g m_Tc_rate [.ref 0, .int a, .int b, .int c] h (d + 2) 0 0 (fun v h' => rsQ ((1 ≤ a ∧ a ≤ 3) ∧ (0 ≤ b ∧ b ≤ 1999) ∧ (1 ≤ c ∧ c ≤ 99999)) s (rsT s a.toNatClampNeg b.toNatClampNeg c.toNatClampNeg) RSc rsFC h v h') := by
  have o1 := ho.1
  refine kx_enter_e (lv := [_, _, _, _]) (by decide +kernel) (Nat.le_of_ble_eq_true rfl) rfl ?_
  refine kx_iload_n (pc := 0) (kx_dd d_Tc_rate 0 rfl) rfl rfl ?_
  refine kx_iconst (pc := 1) (v := 1) (kx_dd d_Tc_rate 1 rfl) rfl ?_
  refine kx_iconst (pc := 2) (v := 3) (kx_dd d_Tc_rate 2 rfl) rfl ?_
  refine kx_invS (pc := 3) (as := [_, _, _]) (kx_dd d_Tc_rate 3 rfl) ⟨lk_Tc_90, wt_Tc_within⟩ w_Tc_within rfl rfl (Nat.le_of_ble_eq_true rfl) (x_Tc_within (d := d + 1) a 1 3) (Nat.le_refl _) ⟨Nat.le_refl _, Nat.le_refl _⟩ (fun v h' hq => ?_)
  obtain ⟨rfl, he⟩ := hq
  rw [he]
  clear he
  refine kx_if_eq (pc := 6) (tgt := 26) (kx_dd d_Tc_rate 4 rfl) rfl (fun c6 => ?_) (fun c6 => ?_)
  · refine kx_bipush (pc := 26) (v := -2) (kx_dd d_Tc_rate 13 rfl) rfl ?_
    refine kx_iret (pc := 28) rfl (kx_dd d_Tc_rate 14 rfl) (Nat.le_refl _) (Nat.le_refl _) ?_
    have c6 := bP_0.mp c6
    exact Or.inl ⟨fun z => c6 z.1, rfl, rfl⟩
  · refine kx_iload_n (pc := 9) (kx_dd d_Tc_rate 5 rfl) rfl rfl ?_
    refine kx_invS (pc := 10) (as := [_]) (kx_dd d_Tc_rate 6 rfl) ⟨lk_Tc_105, wt_Tc_isDay⟩ w_Tc_isDay rfl rfl (Nat.le_of_ble_eq_true rfl) (x_Tc_isDay (d := d) b) (Nat.le_refl _) ⟨Nat.le_refl _, Nat.le_refl _⟩ (fun v h' hq => ?_)
    obtain ⟨rfl, he⟩ := hq
    rw [he]
    clear he
    refine kx_if_eq (pc := 13) (tgt := 26) (kx_dd d_Tc_rate 7 rfl) rfl (fun c13 => ?_) (fun c13 => ?_)
    · refine kx_bipush (pc := 26) (v := -2) (kx_dd d_Tc_rate 13 rfl) rfl ?_
      refine kx_iret (pc := 28) rfl (kx_dd d_Tc_rate 14 rfl) (Nat.le_refl _) (Nat.le_refl _) ?_
      have c13 := bP_0.mp c13
      exact Or.inl ⟨fun z => c13 z.2.1, rfl, rfl⟩
    · refine kx_iload_n (pc := 16) (kx_dd d_Tc_rate 8 rfl) rfl rfl ?_
      refine kx_iconst (pc := 17) (v := 1) (kx_dd d_Tc_rate 9 rfl) rfl ?_
      refine kx_ldc (pc := 18) ki_Tc_122 (kx_dd d_Tc_rate 10 rfl) ?_
      refine kx_invS (pc := 20) (as := [_, _, _]) (kx_dd d_Tc_rate 11 rfl) ⟨lk_Tc_90, wt_Tc_within⟩ w_Tc_within rfl rfl (Nat.le_of_ble_eq_true rfl) (x_Tc_within (d := d + 1) c 1 _) (Nat.le_refl _) ⟨Nat.le_refl _, Nat.le_refl _⟩ (fun v h' hq => ?_)
      obtain ⟨rfl, he⟩ := hq
      rw [he]
      clear he
      refine kx_if_ne (pc := 23) (tgt := 29) (kx_dd d_Tc_rate 12 rfl) rfl (fun c23 => ?_) (fun c23 => ?_)
      · have x0 := (bP_ti _).mp c6
        have x1 := (bP_ti _).mp c13
        have x2 := (bP_ti _).mp c23
        obtain ⟨a9, ha8, ha9, rfl⟩ := valR (m := 3) (by decide) x0
        obtain ⟨b9, hb9, rfl⟩ := valD x1
        obtain ⟨c9, hc8, hc9, rfl⟩ := valR (m := 99999) (by decide) x2
        refine kx_aload_n (pc := 29) (kx_dd d_Tc_rate 15 rfl) rfl rfl ?_
        refine kx_getR (pc := 30) (b := 30) fl_Tc_41 (hs.k 0 rfl) rfl (hs.r 4 rfl) (kx_dd d_Tc_rate 16 rfl) ?_
        refine kx_iload_n (pc := 33) (kx_dd d_Tc_rate 17 rfl) rfl rfl ?_
        refine kx_iload_n (pc := 34) (kx_dd d_Tc_rate 18 rfl) rfl rfl ?_
        refine kx_iload_n (pc := 35) (kx_dd d_Tc_rate 19 rfl) rfl rfl ?_
        refine kx_invV (pc := 36) (a := 30) (as := [_, _, _]) (kx_dd d_Tc_rate 20 rfl) ⟨lk_Tc_123, wi_Ra_add, we_Ra_add⟩ w_Ra_add (hs.k 30 rfl) rfl rfl rfl rfl (Nat.le_of_ble_eq_true rfl) (x_Ra_add (d := d + 1) hs s.1 hp.1 o1 _ _ _) (Nat.le_refl _) ⟨Nat.le_refl _, Nat.le_refl _⟩ (fun v h' hq => ?_)
        revert h'
        intro h1 hq
        obtain ⟨rfl, rfl⟩ := hq
        refine kx_iret (pc := 39) rfl (kx_dd d_Tc_rate 21 rfl) (Nat.le_refl _) (Nat.le_refl _) ?_
        by_cases e : s.1 = 60
        · rw [if_pos e, if_pos e]
          exact Or.inr (Or.inl ⟨⟨x0, x1, x2⟩, e, rfl, rfl⟩)
        · rw [if_neg e, if_neg e]
          have hA := hp.add (x := a9) (y := b9) (z := c9)
          refine Or.inr (Or.inr ⟨⟨x0, x1, x2⟩, by omega, rfl, ?_⟩)
          rw [nI_clamp (by omega), nI_clamp (by omega), nI_clamp (by omega)]
          exact ⟨ho.add (by omega) ha8 ha9 hb9 hc8 hc9, hA.1, hA.2⟩
      · refine kx_bipush (pc := 26) (v := -2) (kx_dd d_Tc_rate 13 rfl) rfl ?_
        refine kx_iret (pc := 28) rfl (kx_dd d_Tc_rate 14 rfl) (Nat.le_refl _) (Nat.le_refl _) ?_
        have c23 := bP_0.mp c23
        exact Or.inl ⟨fun z => c23 z.2.2, rfl, rfl⟩
theorem y_rate {l : Launch} {g : kx_G} {d : Nat} {h : kx_Mem} (hm : SM h) (s : RS) (ho : RSok s) (hp : RSm s h) (a b c : Int32) : kx_Sp l g m_Mo_rate [.ref 84, .int a, .int b, .int c] h (d + 2) 0 0 (fun v h' => rsQ ((1 ≤ a ∧ a ≤ 3) ∧ (0 ≤ b ∧ b ≤ 1999) ∧ (1 ≤ c ∧ c ≤ 99999)) s (rsT s a.toNatClampNeg b.toNatClampNeg c.toNatClampNeg) RSm rsFM h v h') := by
  have o1 := ho.1
  refine kx_enter_e (lv := [_, _, _, _]) (by decide +kernel) (Nat.le_of_ble_eq_true rfl) rfl ?_
  refine kx_iload_n (pc := 0) (kx_dd d_Mo_rate 0 rfl) rfl rfl ?_
  refine kx_i2l (pc := 1) (kx_dd d_Mo_rate 1 rfl) ?_
  refine kx_lconst (pc := 2) (v := 1) (kx_dd d_Mo_rate 2 rfl) rfl ?_
  refine kx_ldc2 (pc := 3) kl_Mo_234 (kx_dd d_Mo_rate 3 rfl) ?_
  refine kx_invS (pc := 6) (as := [_, _, _]) (kx_dd d_Mo_rate 4 rfl) ⟨lk_Mo_5, wt_Mo_in⟩ w_Mo_in rfl rfl (Nat.le_of_ble_eq_true rfl) (y_in (d := d + 1) _ _ _) (Nat.le_refl _) ⟨Nat.le_refl _, Nat.le_refl _⟩ (fun v h' hq => ?_)
  obtain ⟨rfl, he⟩ := hq
  rw [he]
  clear he
  refine kx_if_eq (pc := 9) (tgt := 31) (kx_dd d_Mo_rate 5 rfl) rfl (fun c9 => ?_) (fun c9 => ?_)
  · refine kx_bipush (pc := 31) (v := -2) (kx_dd d_Mo_rate 15 rfl) rfl ?_
    refine kx_iret (pc := 33) rfl (kx_dd d_Mo_rate 16 rfl) (Nat.le_refl _) (Nat.le_refl _) ?_
    have c9 := bP_0.mp c9
    rw [show (1 : Int64) = (1 : Int32).toInt64 by decide, w_le, show (3 : Int64) = (3 : Int32).toInt64 by decide, w_le] at c9
    exact Or.inl ⟨fun z => c9 z.1, rfl, rfl⟩
  · refine kx_iload_n (pc := 12) (kx_dd d_Mo_rate 6 rfl) rfl rfl ?_
    refine kx_invS (pc := 13) (as := [_]) (kx_dd d_Mo_rate 7 rfl) ⟨lk_Mo_441, wt_Mo_isDay⟩ w_Mo_isDay rfl rfl (Nat.le_of_ble_eq_true rfl) (y_isDay (d := d) b) (Nat.le_refl _) ⟨Nat.le_refl _, Nat.le_refl _⟩ (fun v h' hq => ?_)
    obtain ⟨rfl, he⟩ := hq
    rw [he]
    clear he
    refine kx_if_eq (pc := 16) (tgt := 31) (kx_dd d_Mo_rate 8 rfl) rfl (fun c16 => ?_) (fun c16 => ?_)
    · refine kx_bipush (pc := 31) (v := -2) (kx_dd d_Mo_rate 15 rfl) rfl ?_
      refine kx_iret (pc := 33) rfl (kx_dd d_Mo_rate 16 rfl) (Nat.le_refl _) (Nat.le_refl _) ?_
      have c16 := bP_0.mp c16
      exact Or.inl ⟨fun z => c16 z.2.1, rfl, rfl⟩
    · refine kx_iload_n (pc := 19) (kx_dd d_Mo_rate 9 rfl) rfl rfl ?_
      refine kx_i2l (pc := 20) (kx_dd d_Mo_rate 10 rfl) ?_
      refine kx_lconst (pc := 21) (v := 1) (kx_dd d_Mo_rate 11 rfl) rfl ?_
      refine kx_ldc2 (pc := 22) kl_Mo_468 (kx_dd d_Mo_rate 12 rfl) ?_
      refine kx_invS (pc := 25) (as := [_, _, _]) (kx_dd d_Mo_rate 13 rfl) ⟨lk_Mo_5, wt_Mo_in⟩ w_Mo_in rfl rfl (Nat.le_of_ble_eq_true rfl) (y_in (d := d + 1) _ _ _) (Nat.le_refl _) ⟨Nat.le_refl _, Nat.le_refl _⟩ (fun v h' hq => ?_)
      obtain ⟨rfl, he⟩ := hq
      rw [he]
      clear he
      refine kx_if_ne (pc := 28) (tgt := 34) (kx_dd d_Mo_rate 14 rfl) rfl (fun c28 => ?_) (fun c28 => ?_)
      · have x0 := (bP_ti _).mp c9
        rw [show (1 : Int64) = (1 : Int32).toInt64 by decide, w_le, show (3 : Int64) = (3 : Int32).toInt64 by decide, w_le] at x0
        have x1 := (bP_ti _).mp c16
        have x2 := (bP_ti _).mp c28
        rw [show (1 : Int64) = (1 : Int32).toInt64 by decide, w_le, show (99999 : Int64) = (99999 : Int32).toInt64 by decide, w_le] at x2
        obtain ⟨a9, ha8, ha9, rfl⟩ := valR (m := 3) (by decide) x0
        obtain ⟨b9, hb9, rfl⟩ := valD x1
        obtain ⟨c9, hc8, hc9, rfl⟩ := valR (m := 99999) (by decide) x2
        refine kx_aload_n (pc := 34) (kx_dd d_Mo_rate 17 rfl) rfl rfl ?_
        refine kx_getI (pc := 35) fl_Mo_470 (hm.k 0 rfl) rfl (kx_dd d_Mo_rate 18 rfl) ?_
        refine kx_bipush (pc := 38) (v := 60) (kx_dd d_Mo_rate 19 rfl) rfl ?_
        refine kx_icmp_ne (pc := 40) (tgt := 46) (kx_dd d_Mo_rate 20 rfl) rfl (fun c40 => ?_) (fun c40 => ?_)
        · rw [hp.1, show (60 : Int32) = nI 60 from rfl, nI_eq (by omega) (by decide)] at c40
          refine kx_aload_n (pc := 46) (kx_dd d_Mo_rate 23 rfl) rfl rfl ?_
          refine kx_getR (pc := 47) (b := 113) fl_Mo_297 (hm.k 0 rfl) rfl (hm.r 28 rfl) (kx_dd d_Mo_rate 24 rfl) ?_
          refine kx_aload_n (pc := 50) (kx_dd d_Mo_rate 25 rfl) rfl rfl ?_
          refine kx_getI (pc := 51) fl_Mo_470 (hm.k 0 rfl) rfl (kx_dd d_Mo_rate 26 rfl) ?_
          refine kx_iload_n (pc := 54) (kx_dd d_Mo_rate 27 rfl) rfl rfl ?_
          refine kx_iastn (pc := 55) s.1 (hm.t 29 rfl) (by decide) hp.1 (by omega) (by decide) (kx_dd d_Mo_rate 28 rfl) ?_
          refine kx_aload_n (pc := 56) (kx_dd d_Mo_rate 29 rfl) rfl rfl ?_
          refine kx_getR (pc := 57) (b := 114) fl_Mo_300 (hm.k 0 rfl) rfl (hm.r 29 rfl) (kx_dd d_Mo_rate 30 rfl) ?_
          refine kx_aload_n (pc := 60) (kx_dd d_Mo_rate 31 rfl) rfl rfl ?_
          refine kx_getI (pc := 61) fl_Mo_470 (hm.k 0 rfl) rfl (kx_dd d_Mo_rate 32 rfl) ?_
          refine kx_iload_n (pc := 64) (kx_dd d_Mo_rate 33 rfl) rfl rfl ?_
          refine kx_iastn (pc := 65) s.1 (hm.t 30 rfl) (by decide) ((setI_ne (Or.inl (by decide))).trans hp.1) (by omega) (by decide) (kx_dd d_Mo_rate 34 rfl) ?_
          refine kx_aload_n (pc := 66) (kx_dd d_Mo_rate 35 rfl) rfl rfl ?_
          refine kx_getR (pc := 67) (b := 115) fl_Mo_303 (hm.k 0 rfl) rfl (hm.r 30 rfl) (kx_dd d_Mo_rate 36 rfl) ?_
          refine kx_aload_n (pc := 70) (kx_dd d_Mo_rate 37 rfl) rfl rfl ?_
          refine kx_getI (pc := 71) fl_Mo_470 (hm.k 0 rfl) rfl (kx_dd d_Mo_rate 38 rfl) ?_
          refine kx_iload_n (pc := 74) (kx_dd d_Mo_rate 39 rfl) rfl rfl ?_
          refine kx_iastn (pc := 75) s.1 (hm.t 31 rfl) (by decide) ((setI_ne (Or.inl (by decide))).trans ((setI_ne (Or.inl (by decide))).trans hp.1)) (by omega) (by decide) (kx_dd d_Mo_rate 40 rfl) ?_
          refine kx_aload_n (pc := 76) (kx_dd d_Mo_rate 41 rfl) rfl rfl ?_
          refine kx_dup (pc := 77) (kx_dd d_Mo_rate 42 rfl) rfl ?_
          refine kx_getI (pc := 78) fl_Mo_470 (hm.k 0 rfl) rfl (kx_dd d_Mo_rate 43 rfl) ?_
          refine kx_iconst (pc := 81) (v := 1) (kx_dd d_Mo_rate 44 rfl) rfl ?_
          refine kx_iadd (pc := 82) (kx_dd d_Mo_rate 45 rfl) ?_
          refine kx_putI (pc := 83) fl_Mo_470 (hm.k 0 rfl) (by decide) rfl rfl (kx_dd d_Mo_rate 46 rfl) ?_
          refine kx_aload_n (pc := 86) (kx_dd d_Mo_rate 47 rfl) rfl rfl ?_
          refine kx_getI (pc := 87) fl_Mo_470 (hm.k 0 rfl) rfl (kx_dd d_Mo_rate 48 rfl) ?_
          refine kx_iret (pc := 90) rfl (kx_dd d_Mo_rate 49 rfl) (Nat.le_refl _) (Nat.le_refl _) ?_
          have hA := hp.add (x := a9) (y := b9) (z := c9)
          have e35 : (kx_setI (kx_setI (kx_setI h 113 s.1 (nI a9)) 114 s.1 (nI b9)) 115 s.1 (nI c9)).1 84 35 = nI s.1 := by
            rw [setI_ne (Or.inl (by decide)), setI_ne (Or.inl (by decide)), setI_ne (Or.inl (by decide))]; exact hp.1
          rw [e35, setI_at, nI_1]
          refine Or.inr (Or.inr ⟨⟨x0, x1, x2⟩, by omega, rfl, ?_⟩)
          rw [nI_clamp (by omega), nI_clamp (by omega), nI_clamp (by omega)]
          exact ⟨ho.add (by omega) ha8 ha9 hb9 hc8 hc9, hA.1, hA.2⟩
        · rw [hp.1, show (60 : Int32) = nI 60 from rfl, nI_eq (by omega) (by decide)] at c40
          refine kx_bipush (pc := 43) (v := -3) (kx_dd d_Mo_rate 21 rfl) rfl ?_
          refine kx_iret (pc := 45) rfl (kx_dd d_Mo_rate 22 rfl) (Nat.le_refl _) (Nat.le_refl _) ?_
          exact Or.inr (Or.inl ⟨⟨x0, x1, x2⟩, c40, rfl, rfl⟩)
      · refine kx_bipush (pc := 31) (v := -2) (kx_dd d_Mo_rate 15 rfl) rfl ?_
        refine kx_iret (pc := 33) rfl (kx_dd d_Mo_rate 16 rfl) (Nat.le_refl _) (Nat.le_refl _) ?_
        have c28 := bP_0.mp c28
        rw [show (1 : Int64) = (1 : Int32).toInt64 by decide, w_le, show (99999 : Int64) = (99999 : Int32).toInt64 by decide, w_le] at c28
        exact Or.inl ⟨fun z => c28 z.2.2, rfl, rfl⟩
