/-! top-level: thing, lost -/
def tsT (s : TS) (x y z : Nat) : TS := (s.1 + 1, upF s.2.1 s.1 x, upF s.2.2.1 s.1 y, upF s.2.2.2 s.1 z)
theorem TSok.add {s : TS} {x y z : Nat} (ho : TSok s) (hn : s.1 < 30) (h1 : x ≤ 1999) (h2 : y ≤ 255) (h3 : z ≤ 999999) : TSok (tsT s x y z) := by
  refine ⟨hn, fun k hk => ?_⟩
  have hk' : k < s.1 + 1 := hk
  show upF s.2.1 s.1 x k ≤ 1999 ∧ upF s.2.2.1 s.1 y k ≤ 255 ∧ upF s.2.2.2 s.1 z k ≤ 999999
  unfold upF
  by_cases e : k = s.1
  · simp only [if_pos e]
    exact ⟨h1, h2, h3⟩
  · simp only [if_neg e]
    exact ho.2 k (by omega)
def tsFC (a j : Nat) : Prop := (35 ≤ a ∧ a ≤ 37) ∨ (a = 34 ∧ j = 0)
theorem TSc.add {s : TS} {x y z : Nat} {h : kx_Mem} (hp : TSc s h) : TSc (tsT s x y z) (kx_setI (kx_setI (kx_setI (kx_setI h 35 s.1 (nI x)) 36 s.1 (nI y)) 37 s.1 (wI z)) 34 0 (nI (s.1 + 1))) ∧ kx_Fc tsFC h (kx_setI (kx_setI (kx_setI (kx_setI h 35 s.1 (nI x)) 36 s.1 (nI y)) 37 s.1 (wI z)) 34 0 (nI (s.1 + 1))) := by
  have hf : kx_Fc (fun a j => (35 ≤ a ∧ a ≤ 37 ∧ j = s.1) ∨ (a = 34 ∧ j = 0)) h (kx_setI (kx_setI (kx_setI (kx_setI h 35 s.1 (nI x)) 36 s.1 (nI y)) 37 s.1 (wI z)) 34 0 (nI (s.1 + 1))) := (((kx_Fc.set (by omega)).tr (kx_Fc.set (by omega))).tr (kx_Fc.set (by omega))).tr (kx_Fc.set (by omega))
  refine ⟨⟨setI_at, fun k hk => ?_⟩, hf.mono (fun a j q => by unfold tsFC; omega)⟩
  have hk' : k < s.1 + 1 := hk
  show _ = nI (upF s.2.1 s.1 x k) ∧ _ = nI (upF s.2.2.1 s.1 y k) ∧ _ = wI (upF s.2.2.2 s.1 z k)
  unfold upF
  by_cases e : k = s.1
  · simp only [if_pos e]
    rw [e]
    refine ⟨?_, ?_, ?_⟩
    · rw [setI_ne (Or.inl (by decide)), setI_ne (Or.inl (by decide)), setI_ne (Or.inl (by decide))]; exact setI_at
    · rw [setI_ne (Or.inl (by decide)), setI_ne (Or.inl (by decide))]; exact setI_at
    · rw [setI_ne (Or.inl (by decide))]; exact setI_at
  · simp only [if_neg e]
    rw [hf.2 35 k (by omega), hf.2 36 k (by omega), hf.2 37 k (by omega)]
    exact hp.2 k (by omega)
def tsFM (a j : Nat) : Prop := (118 ≤ a ∧ a ≤ 120) ∨ (a = 84 ∧ j = 50)
theorem TSm.add {s : TS} {x y z : Nat} {h : kx_Mem} (hp : TSm s h) : TSm (tsT s x y z) (kx_setI (kx_setI (kx_setI (kx_setI h 118 s.1 (nI x)) 119 s.1 (nI y)) 120 s.1 (wI z)) 84 50 (nI (s.1 + 1))) ∧ kx_Fc tsFM h (kx_setI (kx_setI (kx_setI (kx_setI h 118 s.1 (nI x)) 119 s.1 (nI y)) 120 s.1 (wI z)) 84 50 (nI (s.1 + 1))) := by
  have hf : kx_Fc (fun a j => (118 ≤ a ∧ a ≤ 120 ∧ j = s.1) ∨ (a = 84 ∧ j = 50)) h (kx_setI (kx_setI (kx_setI (kx_setI h 118 s.1 (nI x)) 119 s.1 (nI y)) 120 s.1 (wI z)) 84 50 (nI (s.1 + 1))) := (((kx_Fc.set (by omega)).tr (kx_Fc.set (by omega))).tr (kx_Fc.set (by omega))).tr (kx_Fc.set (by omega))
  refine ⟨⟨setI_at, fun k hk => ?_⟩, hf.mono (fun a j q => by unfold tsFM; omega)⟩
  have hk' : k < s.1 + 1 := hk
  show _ = nI (upF s.2.1 s.1 x k) ∧ _ = nI (upF s.2.2.1 s.1 y k) ∧ _ = wI (upF s.2.2.2 s.1 z k)
  unfold upF
  by_cases e : k = s.1
  · simp only [if_pos e]
    rw [e]
    refine ⟨?_, ?_, ?_⟩
    · rw [setI_ne (Or.inl (by decide)), setI_ne (Or.inl (by decide)), setI_ne (Or.inl (by decide))]; exact setI_at
    · rw [setI_ne (Or.inl (by decide)), setI_ne (Or.inl (by decide))]; exact setI_at
    · rw [setI_ne (Or.inl (by decide))]; exact setI_at
  · simp only [if_neg e]
    rw [hf.2 118 k (by omega), hf.2 119 k (by omega), hf.2 120 k (by omega)]
    exact hp.2 k (by omega)
def tsQ (C : Prop) (s s' : TS) (K : TS → kx_Mem → Prop) (F : Nat → Nat → Prop) (h : kx_Mem) (v : Option Value) (h' : kx_Mem) : Prop := (¬ C ∧ v = some (.int (-2)) ∧ h' = h) ∨ (C ∧ s.1 = 30 ∧ v = some (.int (-3)) ∧ h' = h) ∨ (C ∧ s.1 < 30 ∧ v = some (.int (nI (s.1))) ∧ TSok s' ∧ K s' h' ∧ kx_Fc F h h')
theorem valW {c : Int32} (h : c = -1 ∨ (1 ≤ c ∧ c ≤ 999999)) : ∃ z, z ≤ 999999 ∧ c = wI z ∧ c.toNatClampNeg = z := by
  rcases h with rfl | h
  · exact ⟨0, by decide, rfl, by decide⟩
  · obtain ⟨k, k1, k2, rfl⟩ := valR (m := 999999) (by decide) h
    exact ⟨k, k2, by unfold wI; rw [if_neg (by omega)], nI_clamp (by omega)⟩
theorem valB {b : Int32} (h : 0 ≤ b ∧ b ≤ 255) : ∃ k, k ≤ 255 ∧ b = nI k := by
  obtain ⟨k, hk, rfl⟩ := nI_of (Int32.not_lt.mpr h.1)
  exact ⟨k, (nI_leI (b := 255) hk (by decide)).mp h.2, rfl⟩
theorem valK {a : Int32} {m : Nat} (hm : m < 2 ^ 31) (h : 0 ≤ a ∧ a ≤ nI m) : ∃ k, k ≤ m ∧ a = nI k := by
  obtain ⟨k, hk, rfl⟩ := nI_of (Int32.not_lt.mpr h.1)
  exact ⟨k, (nI_leI hk hm).mp h.2, rfl⟩
theorem x_Tc_thing {l : Launch} {g : kx_G} {d : Nat} {h : kx_Mem} (hs : SC h) (s : TS) (ho : TSok s) (hp : TSc s h) (ck : Nat) (hck : ck ≤ 1999) (eck : h.1 0 9 = nI ck) (a b c : Int32) : kx_Sp l g m_Tc_thing [.ref 0, .int a, .int b, .int c] h (d + 2) 0 0 (fun v h' => tsQ ((0 ≤ a ∧ a ≤ nI ck) ∧ (0 ≤ b ∧ b ≤ 255) ∧ (c = -1 ∨ (1 ≤ c ∧ c ≤ 999999))) s (tsT s a.toNatClampNeg b.toNatClampNeg c.toNatClampNeg) TSc tsFC h v h') := by
  have o1 := ho.1
  refine kx_enter_e (lv := [_, _, _, _]) (by decide +kernel) (Nat.le_of_ble_eq_true rfl) rfl ?_
  refine kx_iload_n (pc := 0) (kx_dd d_Tc_thing 0 rfl) rfl rfl ?_
  refine kx_iconst (pc := 1) (v := 0) (kx_dd d_Tc_thing 1 rfl) rfl ?_
  refine kx_aload_n (pc := 2) (kx_dd d_Tc_thing 2 rfl) rfl rfl ?_
  refine kx_getI (pc := 3) fl_Tc_94 (hs.k 0 rfl) rfl (kx_dd d_Tc_thing 3 rfl) ?_
  refine kx_invS (pc := 6) (as := [_, _, _]) (kx_dd d_Tc_thing 4 rfl) ⟨lk_Tc_90, wt_Tc_within⟩ w_Tc_within rfl rfl (Nat.le_of_ble_eq_true rfl) (x_Tc_within (d := d + 1) a 0 _) (Nat.le_refl _) ⟨Nat.le_refl _, Nat.le_refl _⟩ (fun v h' hq => ?_)
  obtain ⟨rfl, he⟩ := hq
  rw [he]
  clear he
  refine kx_if_eq (pc := 9) (tgt := 23) (kx_dd d_Tc_thing 5 rfl) rfl (fun c9 => ?_) (fun c9 => ?_)
  · refine kx_bipush (pc := 23) (v := -2) (kx_dd d_Tc_thing 11 rfl) rfl ?_
    refine kx_iret (pc := 25) rfl (kx_dd d_Tc_thing 12 rfl) (Nat.le_refl _) (Nat.le_refl _) ?_
    have c9 := bP_0.mp c9
    rw [eck] at c9
    exact Or.inl ⟨fun z => c9 z.1, rfl, rfl⟩
  · refine kx_iload_n (pc := 12) (kx_dd d_Tc_thing 6 rfl) rfl rfl ?_
    refine kx_iconst (pc := 13) (v := 0) (kx_dd d_Tc_thing 7 rfl) rfl ?_
    refine kx_sipush (pc := 14) (v := 255) (kx_dd d_Tc_thing 8 rfl) rfl ?_
    refine kx_invS (pc := 17) (as := [_, _, _]) (kx_dd d_Tc_thing 9 rfl) ⟨lk_Tc_90, wt_Tc_within⟩ w_Tc_within rfl rfl (Nat.le_of_ble_eq_true rfl) (x_Tc_within (d := d + 1) b 0 255) (Nat.le_refl _) ⟨Nat.le_refl _, Nat.le_refl _⟩ (fun v h' hq => ?_)
    obtain ⟨rfl, he⟩ := hq
    rw [he]
    clear he
    refine kx_if_ne (pc := 20) (tgt := 26) (kx_dd d_Tc_thing 10 rfl) rfl (fun c20 => ?_) (fun c20 => ?_)
    · refine kx_iload_n (pc := 26) (kx_dd d_Tc_thing 13 rfl) rfl rfl ?_
      refine kx_iconst (pc := 27) (v := -1) (kx_dd d_Tc_thing 14 rfl) rfl ?_
      refine kx_icmp_eq (pc := 28) (tgt := 44) (kx_dd d_Tc_thing 15 rfl) rfl (fun c28 => ?_) (fun c28 => ?_)
      · have x0 := (bP_ti _).mp c9
        rw [eck] at x0
        have x1 := (bP_ti _).mp c20
        have x2 : c = -1 ∨ (1 ≤ c ∧ c ≤ 999999) := Or.inl c28
        clear c28
        obtain ⟨a9, ha9, rfl⟩ := valK (m := ck) (by omega) x0
        obtain ⟨b9, hb9, rfl⟩ := valB x1
        obtain ⟨c9, hc9, hcw, hcn⟩ := valW x2
        refine kx_aload_n (pc := 44) (kx_dd d_Tc_thing 23 rfl) rfl rfl ?_
        refine kx_getR (pc := 45) (b := 34) fl_Tc_48 (hs.k 0 rfl) rfl (hs.r 5 rfl) (kx_dd d_Tc_thing 24 rfl) ?_
        refine kx_iload_n (pc := 48) (kx_dd d_Tc_thing 25 rfl) rfl rfl ?_
        refine kx_iload_n (pc := 49) (kx_dd d_Tc_thing 26 rfl) rfl rfl ?_
        refine kx_iload_n (pc := 50) (kx_dd d_Tc_thing 27 rfl) rfl rfl ?_
        refine kx_invV (pc := 51) (a := 34) (as := [_, _, _]) (kx_dd d_Tc_thing 28 rfl) ⟨lk_Tc_170, wi_Th_add, we_Th_add⟩ w_Th_add (hs.k 34 rfl) rfl rfl rfl rfl (Nat.le_of_ble_eq_true rfl) (x_Th_add (d := d + 1) hs s.1 hp.1 o1 _ _ _) (Nat.le_refl _) ⟨Nat.le_refl _, Nat.le_refl _⟩ (fun v h' hq => ?_)
        revert h'
        intro h1 hq
        obtain ⟨rfl, rfl⟩ := hq
        refine kx_iret (pc := 54) rfl (kx_dd d_Tc_thing 29 rfl) (Nat.le_refl _) (Nat.le_refl _) ?_
        by_cases e : s.1 = 30
        · rw [if_pos e, if_pos e]
          exact Or.inr (Or.inl ⟨⟨x0, x1, x2⟩, e, rfl, rfl⟩)
        · rw [if_neg e, if_neg e]
          have hA := hp.add (x := a9) (y := b9) (z := c9)
          rw [← hcw] at hA
          refine Or.inr (Or.inr ⟨⟨x0, x1, x2⟩, by omega, rfl, ?_⟩)
          rw [nI_clamp (by omega), nI_clamp (by omega), hcn]
          exact ⟨ho.add (by omega) (by omega) hb9 hc9, hA.1, hA.2⟩
      · refine kx_iload_n (pc := 31) (kx_dd d_Tc_thing 16 rfl) rfl rfl ?_
        refine kx_iconst (pc := 32) (v := 1) (kx_dd d_Tc_thing 17 rfl) rfl ?_
        refine kx_ldc (pc := 33) ki_Tc_169 (kx_dd d_Tc_thing 18 rfl) ?_
        refine kx_invS (pc := 35) (as := [_, _, _]) (kx_dd d_Tc_thing 19 rfl) ⟨lk_Tc_90, wt_Tc_within⟩ w_Tc_within rfl rfl (Nat.le_of_ble_eq_true rfl) (x_Tc_within (d := d + 1) c 1 _) (Nat.le_refl _) ⟨Nat.le_refl _, Nat.le_refl _⟩ (fun v h' hq => ?_)
        obtain ⟨rfl, he⟩ := hq
        rw [he]
        clear he
        refine kx_if_ne (pc := 38) (tgt := 44) (kx_dd d_Tc_thing 20 rfl) rfl (fun c38 => ?_) (fun c38 => ?_)
        · have x0 := (bP_ti _).mp c9
          rw [eck] at x0
          have x1 := (bP_ti _).mp c20
          have x3 := (bP_ti _).mp c38
          have x2 : c = -1 ∨ (1 ≤ c ∧ c ≤ 999999) := Or.inr x3
          clear c28
          obtain ⟨a9, ha9, rfl⟩ := valK (m := ck) (by omega) x0
          obtain ⟨b9, hb9, rfl⟩ := valB x1
          obtain ⟨c9, hc9, hcw, hcn⟩ := valW x2
          refine kx_aload_n (pc := 44) (kx_dd d_Tc_thing 23 rfl) rfl rfl ?_
          refine kx_getR (pc := 45) (b := 34) fl_Tc_48 (hs.k 0 rfl) rfl (hs.r 5 rfl) (kx_dd d_Tc_thing 24 rfl) ?_
          refine kx_iload_n (pc := 48) (kx_dd d_Tc_thing 25 rfl) rfl rfl ?_
          refine kx_iload_n (pc := 49) (kx_dd d_Tc_thing 26 rfl) rfl rfl ?_
          refine kx_iload_n (pc := 50) (kx_dd d_Tc_thing 27 rfl) rfl rfl ?_
          refine kx_invV (pc := 51) (a := 34) (as := [_, _, _]) (kx_dd d_Tc_thing 28 rfl) ⟨lk_Tc_170, wi_Th_add, we_Th_add⟩ w_Th_add (hs.k 34 rfl) rfl rfl rfl rfl (Nat.le_of_ble_eq_true rfl) (x_Th_add (d := d + 1) hs s.1 hp.1 o1 _ _ _) (Nat.le_refl _) ⟨Nat.le_refl _, Nat.le_refl _⟩ (fun v h' hq => ?_)
          revert h'
          intro h1 hq
          obtain ⟨rfl, rfl⟩ := hq
          refine kx_iret (pc := 54) rfl (kx_dd d_Tc_thing 29 rfl) (Nat.le_refl _) (Nat.le_refl _) ?_
          by_cases e : s.1 = 30
          · rw [if_pos e, if_pos e]
            exact Or.inr (Or.inl ⟨⟨x0, x1, x2⟩, e, rfl, rfl⟩)
          · rw [if_neg e, if_neg e]
            have hA := hp.add (x := a9) (y := b9) (z := c9)
            rw [← hcw] at hA
            refine Or.inr (Or.inr ⟨⟨x0, x1, x2⟩, by omega, rfl, ?_⟩)
            rw [nI_clamp (by omega), nI_clamp (by omega), hcn]
            exact ⟨ho.add (by omega) (by omega) hb9 hc9, hA.1, hA.2⟩
        · refine kx_bipush (pc := 41) (v := -2) (kx_dd d_Tc_thing 21 rfl) rfl ?_
          refine kx_iret (pc := 43) rfl (kx_dd d_Tc_thing 22 rfl) (Nat.le_refl _) (Nat.le_refl _) ?_
          have c38 := bP_0.mp c38
          exact Or.inl ⟨fun z => by rcases z.2.2 with q | q; exact c28 q; exact c38 q, rfl, rfl⟩
    · refine kx_bipush (pc := 23) (v := -2) (kx_dd d_Tc_thing 11 rfl) rfl ?_
      refine kx_iret (pc := 25) rfl (kx_dd d_Tc_thing 12 rfl) (Nat.le_refl _) (Nat.le_refl _) ?_
      have c20 := bP_0.mp c20
      exact Or.inl ⟨fun z => c20 z.2.1, rfl, rfl⟩
theorem y_thing {l : Launch} {g : kx_G} {d : Nat} {h : kx_Mem} (hm : SM h) (s : TS) (ho : TSok s) (hp : TSm s h) (ck : Nat) (hck : ck ≤ 1999) (eck : h.1 84 36 = nI ck) (a b c : Int32) : kx_Sp l g m_Mo_thing [.ref 84, .int a, .int b, .int c] h (d + 2) 0 0 (fun v h' => tsQ ((0 ≤ a ∧ a ≤ nI ck) ∧ (0 ≤ b ∧ b ≤ 255) ∧ (c = -1 ∨ (1 ≤ c ∧ c ≤ 999999))) s (tsT s a.toNatClampNeg b.toNatClampNeg c.toNatClampNeg) TSm tsFM h v h') := by
  have o1 := ho.1
  refine kx_enter_e (lv := [_, _, _, _]) (by decide +kernel) (Nat.le_of_ble_eq_true rfl) rfl ?_
  refine kx_iload_n (pc := 0) (kx_dd d_Mo_thing 0 rfl) rfl rfl ?_
  refine kx_i2l (pc := 1) (kx_dd d_Mo_thing 1 rfl) ?_
  refine kx_lconst (pc := 2) (v := 0) (kx_dd d_Mo_thing 2 rfl) rfl ?_
  refine kx_aload_n (pc := 3) (kx_dd d_Mo_thing 3 rfl) rfl rfl ?_
  refine kx_getI (pc := 4) fl_Mo_426 (hm.k 0 rfl) rfl (kx_dd d_Mo_thing 4 rfl) ?_
  refine kx_i2l (pc := 7) (kx_dd d_Mo_thing 5 rfl) ?_
  refine kx_invS (pc := 8) (as := [_, _, _]) (kx_dd d_Mo_thing 6 rfl) ⟨lk_Mo_5, wt_Mo_in⟩ w_Mo_in rfl rfl (Nat.le_of_ble_eq_true rfl) (y_in (d := d + 1) _ _ _) (Nat.le_refl _) ⟨Nat.le_refl _, Nat.le_refl _⟩ (fun v h' hq => ?_)
  obtain ⟨rfl, he⟩ := hq
  rw [he]
  clear he
  refine kx_if_eq (pc := 11) (tgt := 43) (kx_dd d_Mo_thing 7 rfl) rfl (fun c11 => ?_) (fun c11 => ?_)
  · refine kx_bipush (pc := 43) (v := -2) (kx_dd d_Mo_thing 23 rfl) rfl ?_
    refine kx_iret (pc := 45) rfl (kx_dd d_Mo_thing 24 rfl) (Nat.le_refl _) (Nat.le_refl _) ?_
    have c11 := bP_0.mp c11
    rw [eck, w_le0, w_le] at c11
    exact Or.inl ⟨fun z => c11 z.1, rfl, rfl⟩
  · refine kx_iload_n (pc := 14) (kx_dd d_Mo_thing 8 rfl) rfl rfl ?_
    refine kx_i2l (pc := 15) (kx_dd d_Mo_thing 9 rfl) ?_
    refine kx_lconst (pc := 16) (v := 0) (kx_dd d_Mo_thing 10 rfl) rfl ?_
    refine kx_ldc2 (pc := 17) kl_Mo_479 (kx_dd d_Mo_thing 11 rfl) ?_
    refine kx_invS (pc := 20) (as := [_, _, _]) (kx_dd d_Mo_thing 12 rfl) ⟨lk_Mo_5, wt_Mo_in⟩ w_Mo_in rfl rfl (Nat.le_of_ble_eq_true rfl) (y_in (d := d + 1) _ _ _) (Nat.le_refl _) ⟨Nat.le_refl _, Nat.le_refl _⟩ (fun v h' hq => ?_)
    obtain ⟨rfl, he⟩ := hq
    rw [he]
    clear he
    refine kx_if_eq (pc := 23) (tgt := 43) (kx_dd d_Mo_thing 13 rfl) rfl (fun c23 => ?_) (fun c23 => ?_)
    · refine kx_bipush (pc := 43) (v := -2) (kx_dd d_Mo_thing 23 rfl) rfl ?_
      refine kx_iret (pc := 45) rfl (kx_dd d_Mo_thing 24 rfl) (Nat.le_refl _) (Nat.le_refl _) ?_
      have c23 := bP_0.mp c23
      rw [w_le0, show (255 : Int64) = (255 : Int32).toInt64 by decide, w_le] at c23
      exact Or.inl ⟨fun z => c23 z.2.1, rfl, rfl⟩
    · refine kx_iload_n (pc := 26) (kx_dd d_Mo_thing 14 rfl) rfl rfl ?_
      refine kx_iconst (pc := 27) (v := -1) (kx_dd d_Mo_thing 15 rfl) rfl ?_
      refine kx_icmp_eq (pc := 28) (tgt := 46) (kx_dd d_Mo_thing 16 rfl) rfl (fun c28 => ?_) (fun c28 => ?_)
      · have x0 := (bP_ti _).mp c11
        rw [eck, w_le0, w_le] at x0
        have x1 := (bP_ti _).mp c23
        rw [w_le0, show (255 : Int64) = (255 : Int32).toInt64 by decide, w_le] at x1
        have x2 : c = -1 ∨ (1 ≤ c ∧ c ≤ 999999) := Or.inl c28
        clear c28
        obtain ⟨a9, ha9, rfl⟩ := valK (m := ck) (by omega) x0
        obtain ⟨b9, hb9, rfl⟩ := valB x1
        obtain ⟨c9, hc9, hcw, hcn⟩ := valW x2
        refine kx_aload_n (pc := 46) (kx_dd d_Mo_thing 25 rfl) rfl rfl ?_
        refine kx_getI (pc := 47) fl_Mo_483 (hm.k 0 rfl) rfl (kx_dd d_Mo_thing 26 rfl) ?_
        refine kx_bipush (pc := 50) (v := 30) (kx_dd d_Mo_thing 27 rfl) rfl ?_
        refine kx_icmp_ne (pc := 52) (tgt := 58) (kx_dd d_Mo_thing 28 rfl) rfl (fun c52 => ?_) (fun c52 => ?_)
        · rw [hp.1, show (30 : Int32) = nI 30 from rfl, nI_eq (by omega) (by decide)] at c52
          refine kx_aload_n (pc := 58) (kx_dd d_Mo_thing 31 rfl) rfl rfl ?_
          refine kx_getR (pc := 59) (b := 118) fl_Mo_312 (hm.k 0 rfl) rfl (hm.r 33 rfl) (kx_dd d_Mo_thing 32 rfl) ?_
          refine kx_aload_n (pc := 62) (kx_dd d_Mo_thing 33 rfl) rfl rfl ?_
          refine kx_getI (pc := 63) fl_Mo_483 (hm.k 0 rfl) rfl (kx_dd d_Mo_thing 34 rfl) ?_
          refine kx_iload_n (pc := 66) (kx_dd d_Mo_thing 35 rfl) rfl rfl ?_
          refine kx_iastn (pc := 67) s.1 (hm.t 34 rfl) (by decide) hp.1 (by omega) (by decide) (kx_dd d_Mo_thing 36 rfl) ?_
          refine kx_aload_n (pc := 68) (kx_dd d_Mo_thing 37 rfl) rfl rfl ?_
          refine kx_getR (pc := 69) (b := 119) fl_Mo_315 (hm.k 0 rfl) rfl (hm.r 34 rfl) (kx_dd d_Mo_thing 38 rfl) ?_
          refine kx_aload_n (pc := 72) (kx_dd d_Mo_thing 39 rfl) rfl rfl ?_
          refine kx_getI (pc := 73) fl_Mo_483 (hm.k 0 rfl) rfl (kx_dd d_Mo_thing 40 rfl) ?_
          refine kx_iload_n (pc := 76) (kx_dd d_Mo_thing 41 rfl) rfl rfl ?_
          refine kx_iastn (pc := 77) s.1 (hm.t 35 rfl) (by decide) ((setI_ne (Or.inl (by decide))).trans hp.1) (by omega) (by decide) (kx_dd d_Mo_thing 42 rfl) ?_
          refine kx_aload_n (pc := 78) (kx_dd d_Mo_thing 43 rfl) rfl rfl ?_
          refine kx_getR (pc := 79) (b := 120) fl_Mo_318 (hm.k 0 rfl) rfl (hm.r 35 rfl) (kx_dd d_Mo_thing 44 rfl) ?_
          refine kx_aload_n (pc := 82) (kx_dd d_Mo_thing 45 rfl) rfl rfl ?_
          refine kx_getI (pc := 83) fl_Mo_483 (hm.k 0 rfl) rfl (kx_dd d_Mo_thing 46 rfl) ?_
          refine kx_iload_n (pc := 86) (kx_dd d_Mo_thing 47 rfl) rfl rfl ?_
          refine kx_iastn (pc := 87) s.1 (hm.t 36 rfl) (by decide) ((setI_ne (Or.inl (by decide))).trans ((setI_ne (Or.inl (by decide))).trans hp.1)) (by omega) (by decide) (kx_dd d_Mo_thing 48 rfl) ?_
          refine kx_aload_n (pc := 88) (kx_dd d_Mo_thing 49 rfl) rfl rfl ?_
          refine kx_dup (pc := 89) (kx_dd d_Mo_thing 50 rfl) rfl ?_
          refine kx_getI (pc := 90) fl_Mo_483 (hm.k 0 rfl) rfl (kx_dd d_Mo_thing 51 rfl) ?_
          refine kx_iconst (pc := 93) (v := 1) (kx_dd d_Mo_thing 52 rfl) rfl ?_
          refine kx_iadd (pc := 94) (kx_dd d_Mo_thing 53 rfl) ?_
          refine kx_putI (pc := 95) fl_Mo_483 (hm.k 0 rfl) (by decide) rfl rfl (kx_dd d_Mo_thing 54 rfl) ?_
          refine kx_aload_n (pc := 98) (kx_dd d_Mo_thing 55 rfl) rfl rfl ?_
          refine kx_getI (pc := 99) fl_Mo_483 (hm.k 0 rfl) rfl (kx_dd d_Mo_thing 56 rfl) ?_
          refine kx_iconst (pc := 102) (v := 1) (kx_dd d_Mo_thing 57 rfl) rfl ?_
          refine kx_isub (pc := 103) (kx_dd d_Mo_thing 58 rfl) ?_
          refine kx_iret (pc := 104) rfl (kx_dd d_Mo_thing 59 rfl) (Nat.le_refl _) (Nat.le_refl _) ?_
          have hA := hp.add (x := a9) (y := b9) (z := c9)
          rw [← hcw] at hA
          have e50 : (kx_setI (kx_setI (kx_setI h 118 s.1 (nI a9)) 119 s.1 (nI b9)) 120 s.1 c).1 84 50 = nI s.1 := by
            rw [setI_ne (Or.inl (by decide)), setI_ne (Or.inl (by decide)), setI_ne (Or.inl (by decide))]; exact hp.1
          rw [e50, setI_at, Int32.add_sub_cancel, nI_1]
          refine Or.inr (Or.inr ⟨⟨x0, x1, x2⟩, by omega, rfl, ?_⟩)
          rw [nI_clamp (by omega), nI_clamp (by omega), hcn]
          exact ⟨ho.add (by omega) (by omega) hb9 hc9, hA.1, hA.2⟩
        · rw [hp.1, show (30 : Int32) = nI 30 from rfl, nI_eq (by omega) (by decide)] at c52
          refine kx_bipush (pc := 55) (v := -3) (kx_dd d_Mo_thing 29 rfl) rfl ?_
          refine kx_iret (pc := 57) rfl (kx_dd d_Mo_thing 30 rfl) (Nat.le_refl _) (Nat.le_refl _) ?_
          exact Or.inr (Or.inl ⟨⟨x0, x1, x2⟩, c52, rfl, rfl⟩)
      · refine kx_iload_n (pc := 31) (kx_dd d_Mo_thing 17 rfl) rfl rfl ?_
        refine kx_i2l (pc := 32) (kx_dd d_Mo_thing 18 rfl) ?_
        refine kx_lconst (pc := 33) (v := 1) (kx_dd d_Mo_thing 19 rfl) rfl ?_
        refine kx_ldc2 (pc := 34) kl_Mo_481 (kx_dd d_Mo_thing 20 rfl) ?_
        refine kx_invS (pc := 37) (as := [_, _, _]) (kx_dd d_Mo_thing 21 rfl) ⟨lk_Mo_5, wt_Mo_in⟩ w_Mo_in rfl rfl (Nat.le_of_ble_eq_true rfl) (y_in (d := d + 1) _ _ _) (Nat.le_refl _) ⟨Nat.le_refl _, Nat.le_refl _⟩ (fun v h' hq => ?_)
        obtain ⟨rfl, he⟩ := hq
        rw [he]
        clear he
        refine kx_if_ne (pc := 40) (tgt := 46) (kx_dd d_Mo_thing 22 rfl) rfl (fun c40 => ?_) (fun c40 => ?_)
        · have x0 := (bP_ti _).mp c11
          rw [eck, w_le0, w_le] at x0
          have x1 := (bP_ti _).mp c23
          rw [w_le0, show (255 : Int64) = (255 : Int32).toInt64 by decide, w_le] at x1
          have x3 := (bP_ti _).mp c40
          rw [show (1 : Int64) = (1 : Int32).toInt64 by decide, w_le, show (999999 : Int64) = (999999 : Int32).toInt64 by decide, w_le] at x3
          have x2 : c = -1 ∨ (1 ≤ c ∧ c ≤ 999999) := Or.inr x3
          clear c28
          obtain ⟨a9, ha9, rfl⟩ := valK (m := ck) (by omega) x0
          obtain ⟨b9, hb9, rfl⟩ := valB x1
          obtain ⟨c9, hc9, hcw, hcn⟩ := valW x2
          refine kx_aload_n (pc := 46) (kx_dd d_Mo_thing 25 rfl) rfl rfl ?_
          refine kx_getI (pc := 47) fl_Mo_483 (hm.k 0 rfl) rfl (kx_dd d_Mo_thing 26 rfl) ?_
          refine kx_bipush (pc := 50) (v := 30) (kx_dd d_Mo_thing 27 rfl) rfl ?_
          refine kx_icmp_ne (pc := 52) (tgt := 58) (kx_dd d_Mo_thing 28 rfl) rfl (fun c52 => ?_) (fun c52 => ?_)
          · rw [hp.1, show (30 : Int32) = nI 30 from rfl, nI_eq (by omega) (by decide)] at c52
            refine kx_aload_n (pc := 58) (kx_dd d_Mo_thing 31 rfl) rfl rfl ?_
            refine kx_getR (pc := 59) (b := 118) fl_Mo_312 (hm.k 0 rfl) rfl (hm.r 33 rfl) (kx_dd d_Mo_thing 32 rfl) ?_
            refine kx_aload_n (pc := 62) (kx_dd d_Mo_thing 33 rfl) rfl rfl ?_
            refine kx_getI (pc := 63) fl_Mo_483 (hm.k 0 rfl) rfl (kx_dd d_Mo_thing 34 rfl) ?_
            refine kx_iload_n (pc := 66) (kx_dd d_Mo_thing 35 rfl) rfl rfl ?_
            refine kx_iastn (pc := 67) s.1 (hm.t 34 rfl) (by decide) hp.1 (by omega) (by decide) (kx_dd d_Mo_thing 36 rfl) ?_
            refine kx_aload_n (pc := 68) (kx_dd d_Mo_thing 37 rfl) rfl rfl ?_
            refine kx_getR (pc := 69) (b := 119) fl_Mo_315 (hm.k 0 rfl) rfl (hm.r 34 rfl) (kx_dd d_Mo_thing 38 rfl) ?_
            refine kx_aload_n (pc := 72) (kx_dd d_Mo_thing 39 rfl) rfl rfl ?_
            refine kx_getI (pc := 73) fl_Mo_483 (hm.k 0 rfl) rfl (kx_dd d_Mo_thing 40 rfl) ?_
            refine kx_iload_n (pc := 76) (kx_dd d_Mo_thing 41 rfl) rfl rfl ?_
            refine kx_iastn (pc := 77) s.1 (hm.t 35 rfl) (by decide) ((setI_ne (Or.inl (by decide))).trans hp.1) (by omega) (by decide) (kx_dd d_Mo_thing 42 rfl) ?_
            refine kx_aload_n (pc := 78) (kx_dd d_Mo_thing 43 rfl) rfl rfl ?_
            refine kx_getR (pc := 79) (b := 120) fl_Mo_318 (hm.k 0 rfl) rfl (hm.r 35 rfl) (kx_dd d_Mo_thing 44 rfl) ?_
            refine kx_aload_n (pc := 82) (kx_dd d_Mo_thing 45 rfl) rfl rfl ?_
            refine kx_getI (pc := 83) fl_Mo_483 (hm.k 0 rfl) rfl (kx_dd d_Mo_thing 46 rfl) ?_
            refine kx_iload_n (pc := 86) (kx_dd d_Mo_thing 47 rfl) rfl rfl ?_
            refine kx_iastn (pc := 87) s.1 (hm.t 36 rfl) (by decide) ((setI_ne (Or.inl (by decide))).trans ((setI_ne (Or.inl (by decide))).trans hp.1)) (by omega) (by decide) (kx_dd d_Mo_thing 48 rfl) ?_
            refine kx_aload_n (pc := 88) (kx_dd d_Mo_thing 49 rfl) rfl rfl ?_
            refine kx_dup (pc := 89) (kx_dd d_Mo_thing 50 rfl) rfl ?_
            refine kx_getI (pc := 90) fl_Mo_483 (hm.k 0 rfl) rfl (kx_dd d_Mo_thing 51 rfl) ?_
            refine kx_iconst (pc := 93) (v := 1) (kx_dd d_Mo_thing 52 rfl) rfl ?_
            refine kx_iadd (pc := 94) (kx_dd d_Mo_thing 53 rfl) ?_
            refine kx_putI (pc := 95) fl_Mo_483 (hm.k 0 rfl) (by decide) rfl rfl (kx_dd d_Mo_thing 54 rfl) ?_
            refine kx_aload_n (pc := 98) (kx_dd d_Mo_thing 55 rfl) rfl rfl ?_
            refine kx_getI (pc := 99) fl_Mo_483 (hm.k 0 rfl) rfl (kx_dd d_Mo_thing 56 rfl) ?_
            refine kx_iconst (pc := 102) (v := 1) (kx_dd d_Mo_thing 57 rfl) rfl ?_
            refine kx_isub (pc := 103) (kx_dd d_Mo_thing 58 rfl) ?_
            refine kx_iret (pc := 104) rfl (kx_dd d_Mo_thing 59 rfl) (Nat.le_refl _) (Nat.le_refl _) ?_
            have hA := hp.add (x := a9) (y := b9) (z := c9)
            rw [← hcw] at hA
            have e50 : (kx_setI (kx_setI (kx_setI h 118 s.1 (nI a9)) 119 s.1 (nI b9)) 120 s.1 c).1 84 50 = nI s.1 := by
              rw [setI_ne (Or.inl (by decide)), setI_ne (Or.inl (by decide)), setI_ne (Or.inl (by decide))]; exact hp.1
            rw [e50, setI_at, Int32.add_sub_cancel, nI_1]
            refine Or.inr (Or.inr ⟨⟨x0, x1, x2⟩, by omega, rfl, ?_⟩)
            rw [nI_clamp (by omega), nI_clamp (by omega), hcn]
            exact ⟨ho.add (by omega) (by omega) hb9 hc9, hA.1, hA.2⟩
          · rw [hp.1, show (30 : Int32) = nI 30 from rfl, nI_eq (by omega) (by decide)] at c52
            refine kx_bipush (pc := 55) (v := -3) (kx_dd d_Mo_thing 29 rfl) rfl ?_
            refine kx_iret (pc := 57) rfl (kx_dd d_Mo_thing 30 rfl) (Nat.le_refl _) (Nat.le_refl _) ?_
            exact Or.inr (Or.inl ⟨⟨x0, x1, x2⟩, c52, rfl, rfl⟩)
        · refine kx_bipush (pc := 43) (v := -2) (kx_dd d_Mo_thing 23 rfl) rfl ?_
          refine kx_iret (pc := 45) rfl (kx_dd d_Mo_thing 24 rfl) (Nat.le_refl _) (Nat.le_refl _) ?_
          have c40 := bP_0.mp c40
          rw [show (1 : Int64) = (1 : Int32).toInt64 by decide, w_le, show (999999 : Int64) = (999999 : Int32).toInt64 by decide, w_le] at c40
          exact Or.inl ⟨fun z => by rcases z.2.2 with q | q; exact c28 q; exact c40 q, rfl, rfl⟩
theorem x_Tc_lost {l : Launch} {g : kx_G} {d : Nat} {h : kx_Mem} (hs : SC h) (s : TS) (ho : TSok s) (hp : TSc s h) (a w : Int32) : kx_Sp l g m_Tc_lost [.ref 0, .int a, .int w] h (d + 5) 0 0 (fun v h' => v = some (.int (if 0 ≤ a ∧ a < nI s.1 then detT s a.toNatClampNeg w else -1)) ∧ kx_Fr [38] h h') := by
  have o1 := ho.1
  refine kx_enter_e (lv := [_, _, _]) (by decide +kernel) (Nat.le_of_ble_eq_true rfl) rfl ?_
  refine kx_aload_n (pc := 0) (kx_dd d_Tc_lost 0 rfl) rfl rfl ?_
  refine kx_getR (pc := 1) (b := 34) fl_Tc_48 (hs.k 0 rfl) rfl (hs.r 5 rfl) (kx_dd d_Tc_lost 1 rfl) ?_
  refine kx_iload_n (pc := 4) (kx_dd d_Tc_lost 2 rfl) rfl rfl ?_
  refine kx_invV (pc := 5) (a := 34) (as := [_]) (kx_dd d_Tc_lost 3 rfl) ⟨lk_Tc_171, wi_Th_has, we_Th_has⟩ w_Th_has (hs.k 34 rfl) rfl rfl rfl rfl (Nat.le_of_ble_eq_true rfl) (x_Th_has (d := d + 4) hs a) (Nat.le_refl _) ⟨Nat.le_refl _, Nat.le_refl _⟩ (fun v h' hq => ?_)
  obtain ⟨rfl, he⟩ := hq
  rw [he]
  clear he
  refine kx_if_eq (pc := 8) (tgt := 23) (kx_dd d_Tc_lost 4 rfl) rfl (fun c8 => ?_) (fun c8 => ?_)
  · refine kx_iconst (pc := 23) (v := -1) (kx_dd d_Tc_lost 11 rfl) rfl ?_
    refine kx_iret (pc := 24) rfl (kx_dd d_Tc_lost 12 rfl) (Nat.le_refl _) (Nat.le_refl _) ?_
    have c8 := bP_0.mp c8
    rw [hp.1] at c8
    exact ⟨by rw [if_neg c8], kx_Fr.rf⟩
  · have c8 := (bP_ti _).mp c8
    rw [hp.1] at c8
    obtain ⟨a9, ha9, rfl⟩ := valP (n := s.1) (by omega) c8
    refine kx_aload_n (pc := 11) (kx_dd d_Tc_lost 5 rfl) rfl rfl ?_
    refine kx_getR (pc := 12) (b := 34) fl_Tc_48 (hs.k 0 rfl) rfl (hs.r 5 rfl) (kx_dd d_Tc_lost 6 rfl) ?_
    refine kx_iload_n (pc := 15) (kx_dd d_Tc_lost 7 rfl) rfl rfl ?_
    refine kx_iload_n (pc := 16) (kx_dd d_Tc_lost 8 rfl) rfl rfl ?_
    refine kx_invV (pc := 17) (a := 34) (as := [_, _]) (kx_dd d_Tc_lost 9 rfl) ⟨lk_Tc_172, wi_Th_detail, we_Th_detail⟩ w_Th_detail (hs.k 34 rfl) rfl rfl rfl rfl (Nat.le_of_ble_eq_true rfl) (x_Th_detail (d := d) hs s ho hp a9 ha9 w) (Nat.le_refl _) ⟨Nat.le_refl _, Nat.le_refl _⟩ (fun v h' hq => ?_)
    revert h'
    intro h1 hq
    obtain ⟨rfl, hf9⟩ := hq
    refine kx_goto (pc := 20) (tgt := 24) (kx_dd d_Tc_lost 10 rfl) rfl ?_
    refine kx_iret (pc := 24) rfl (kx_dd d_Tc_lost 12 rfl) (Nat.le_refl _) (Nat.le_refl _) ?_
    exact ⟨by rw [if_pos c8, nI_clamp (by omega)], hf9⟩
