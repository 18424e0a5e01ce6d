/-! top-level: nation, dead, heir -/
def psT (s : PS) (c p td x y : Nat) : PS := (s.1, s.2.1 + 1, upF s.2.2.1 s.2.1 c, upF s.2.2.2.1 s.2.1 p, upF s.2.2.2.2.1 s.2.1 td, upF s.2.2.2.2.2.1 s.2.1 x, upF s.2.2.2.2.2.2 s.2.1 y)
theorem PSok.add {s : PS} {c p td x y : Nat} (ho : PSok s) (hn : s.2.1 < 200) (hc : c ≤ 2) (hp : p < s.1) (htd : td ≤ 1999) (hx : x ≤ 1999) (hy : y ≤ 99) (h2 : c = 2 → x < s.1 ∧ 1 ≤ y) (h0 : c = 0 → y ≤ 3) : PSok (psT s c p td x y) := by
  refine ⟨ho.1, hn, fun k hk => ?_⟩
  have hk' : k < s.2.1 + 1 := hk
  show upF s.2.2.1 s.2.1 c k ≤ 2 ∧ upF s.2.2.2.1 s.2.1 p k < s.1 ∧ upF s.2.2.2.2.1 s.2.1 td k ≤ 1999 ∧ upF s.2.2.2.2.2.1 s.2.1 x k ≤ 1999 ∧ upF s.2.2.2.2.2.2 s.2.1 y k ≤ 99 ∧ (upF s.2.2.1 s.2.1 c k = 2 → upF s.2.2.2.2.2.1 s.2.1 x k < s.1 ∧ 1 ≤ upF s.2.2.2.2.2.2 s.2.1 y k) ∧ (upF s.2.2.1 s.2.1 c k = 0 → upF s.2.2.2.2.2.2 s.2.1 y k ≤ 3)
  unfold upF
  by_cases e : k = s.2.1
  · simp only [if_pos e]
    exact ⟨hc, hp, htd, hx, hy, h2, h0⟩
  · simp only [if_neg e]
    exact ho.2.2 k (by omega)
def FtC (a j : Nat) : Prop := (17 ≤ a ∧ a ≤ 21) ∨ (a = 14 ∧ j = 3)
def FtM (a j : Nat) : Prop := (107 ≤ a ∧ a ≤ 112) ∨ (a = 84 ∧ j = 34)
theorem PSc.add {s : PS} {c p td x y : Nat} {h : kx_Mem} (hp : PSc s h) : PSc (psT s c p td x y) (kx_setI (kx_setI (kx_setI (kx_setI (kx_setI (kx_setI h 17 s.2.1 (nI c)) 18 s.2.1 (nI p)) 19 s.2.1 (nI td)) 20 s.2.1 (nI x)) 21 s.2.1 (nI y)) 14 3 (nI (s.2.1 + 1))) ∧ kx_Fc FtC h (kx_setI (kx_setI (kx_setI (kx_setI (kx_setI (kx_setI h 17 s.2.1 (nI c)) 18 s.2.1 (nI p)) 19 s.2.1 (nI td)) 20 s.2.1 (nI x)) 21 s.2.1 (nI y)) 14 3 (nI (s.2.1 + 1))) := by
  have hf : kx_Fc (fun a j => (17 ≤ a ∧ a ≤ 21 ∧ j = s.2.1) ∨ (a = 14 ∧ j = 3)) h (kx_setI (kx_setI (kx_setI (kx_setI (kx_setI (kx_setI h 17 s.2.1 (nI c)) 18 s.2.1 (nI p)) 19 s.2.1 (nI td)) 20 s.2.1 (nI x)) 21 s.2.1 (nI y)) 14 3 (nI (s.2.1 + 1))) := (((((kx_Fc.set (by omega)).tr (kx_Fc.set (by omega))).tr (kx_Fc.set (by omega))).tr (kx_Fc.set (by omega))).tr (kx_Fc.set (by omega))).tr (kx_Fc.set (by omega))
  refine ⟨⟨(hf.2 14 0 (by omega)).trans hp.1, setI_at, fun k hk => ?_⟩, hf.mono (fun a j q => by unfold FtC; omega)⟩
  have hk' : k < s.2.1 + 1 := hk
  show _ = nI (upF s.2.2.1 s.2.1 c k) ∧ _ = nI (upF s.2.2.2.1 s.2.1 p k) ∧ _ = nI (upF s.2.2.2.2.1 s.2.1 td k) ∧ _ = nI (upF s.2.2.2.2.2.1 s.2.1 x k) ∧ _ = nI (upF s.2.2.2.2.2.2 s.2.1 y k)
  unfold upF
  by_cases e : k = s.2.1
  · simp only [if_pos e]
    rw [e]
    refine ⟨?_, ?_, ?_, ?_, ?_⟩
    · rw [setI_ne (Or.inl (by decide)), setI_ne (Or.inl (by decide)), setI_ne (Or.inl (by decide)), setI_ne (Or.inl (by decide)), setI_ne (Or.inl (by decide))]; exact setI_at
    · rw [setI_ne (Or.inl (by decide)), setI_ne (Or.inl (by decide)), setI_ne (Or.inl (by decide)), setI_ne (Or.inl (by decide))]; exact setI_at
    · rw [setI_ne (Or.inl (by decide)), setI_ne (Or.inl (by decide)), setI_ne (Or.inl (by decide))]; exact setI_at
    · rw [setI_ne (Or.inl (by decide)), setI_ne (Or.inl (by decide))]; exact setI_at
    · rw [setI_ne (Or.inl (by decide))]; exact setI_at
  · simp only [if_neg e]
    rw [hf.2 17 k (by omega), hf.2 18 k (by omega), hf.2 19 k (by omega), hf.2 20 k (by omega), hf.2 21 k (by omega)]
    exact hp.2.2 k (by omega)
theorem PSm.add {s : PS} {c p td x y : Nat} {nu ot fr : Int32} {h : kx_Mem} (hp : PSm s h) (htd : h.1 84 36 = nI td) (h2 : c = 2 → nu = nI y ∧ ot = nI x) (h1 : c ≠ 2 → fr = nI x) (h0 : c = 0 → nu = nI y) : PSm (psT s c p td x y) (kx_setI (kx_setI (kx_setI (kx_setI (kx_setI (kx_setI (kx_setI h 107 s.2.1 (nI c)) 108 s.2.1 (nI p)) 109 s.2.1 nu) 110 s.2.1 ot) 111 s.2.1 fr) 112 s.2.1 (h.1 84 36)) 84 34 (nI (s.2.1 + 1))) ∧ kx_Fc FtM h (kx_setI (kx_setI (kx_setI (kx_setI (kx_setI (kx_setI (kx_setI h 107 s.2.1 (nI c)) 108 s.2.1 (nI p)) 109 s.2.1 nu) 110 s.2.1 ot) 111 s.2.1 fr) 112 s.2.1 (h.1 84 36)) 84 34 (nI (s.2.1 + 1))) := by
  have hf : kx_Fc (fun a j => (107 ≤ a ∧ a ≤ 112 ∧ j = s.2.1) ∨ (a = 84 ∧ j = 34)) h (kx_setI (kx_setI (kx_setI (kx_setI (kx_setI (kx_setI (kx_setI h 107 s.2.1 (nI c)) 108 s.2.1 (nI p)) 109 s.2.1 nu) 110 s.2.1 ot) 111 s.2.1 fr) 112 s.2.1 (h.1 84 36)) 84 34 (nI (s.2.1 + 1))) := ((((((kx_Fc.set (by omega)).tr (kx_Fc.set (by omega))).tr (kx_Fc.set (by omega))).tr (kx_Fc.set (by omega))).tr (kx_Fc.set (by omega))).tr (kx_Fc.set (by omega))).tr (kx_Fc.set (by omega))
  refine ⟨⟨(hf.2 84 33 (by omega)).trans hp.1, setI_at, fun k hk => ?_⟩, hf.mono (fun a j q => by unfold FtM; omega)⟩
  have hk' : k < s.2.1 + 1 := hk
  show _ = nI (upF s.2.2.1 s.2.1 c k) ∧ _ = nI (upF s.2.2.2.1 s.2.1 p k) ∧ _ = nI (upF s.2.2.2.2.1 s.2.1 td k) ∧ (upF s.2.2.1 s.2.1 c k = 2 → _ = nI (upF s.2.2.2.2.2.2 s.2.1 y k) ∧ _ = nI (upF s.2.2.2.2.2.1 s.2.1 x k)) ∧ (upF s.2.2.1 s.2.1 c k ≠ 2 → _ = nI (upF s.2.2.2.2.2.1 s.2.1 x k)) ∧ (upF s.2.2.1 s.2.1 c k = 0 → _ = nI (upF s.2.2.2.2.2.2 s.2.1 y k))
  unfold upF
  by_cases e : k = s.2.1
  · simp only [if_pos e]
    rw [e]
    have e109 : (kx_setI (kx_setI (kx_setI (kx_setI (kx_setI (kx_setI (kx_setI h 107 s.2.1 (nI c)) 108 s.2.1 (nI p)) 109 s.2.1 nu) 110 s.2.1 ot) 111 s.2.1 fr) 112 s.2.1 (h.1 84 36)) 84 34 (nI (s.2.1 + 1))).1 109 s.2.1 = nu := by rw [setI_ne (Or.inl (by decide)), setI_ne (Or.inl (by decide)), setI_ne (Or.inl (by decide)), setI_ne (Or.inl (by decide))]; exact setI_at
    have e110 : (kx_setI (kx_setI (kx_setI (kx_setI (kx_setI (kx_setI (kx_setI h 107 s.2.1 (nI c)) 108 s.2.1 (nI p)) 109 s.2.1 nu) 110 s.2.1 ot) 111 s.2.1 fr) 112 s.2.1 (h.1 84 36)) 84 34 (nI (s.2.1 + 1))).1 110 s.2.1 = ot := by rw [setI_ne (Or.inl (by decide)), setI_ne (Or.inl (by decide)), setI_ne (Or.inl (by decide))]; exact setI_at
    have e111 : (kx_setI (kx_setI (kx_setI (kx_setI (kx_setI (kx_setI (kx_setI h 107 s.2.1 (nI c)) 108 s.2.1 (nI p)) 109 s.2.1 nu) 110 s.2.1 ot) 111 s.2.1 fr) 112 s.2.1 (h.1 84 36)) 84 34 (nI (s.2.1 + 1))).1 111 s.2.1 = fr := by rw [setI_ne (Or.inl (by decide)), setI_ne (Or.inl (by decide))]; exact setI_at
    have e112 : (kx_setI (kx_setI (kx_setI (kx_setI (kx_setI (kx_setI (kx_setI h 107 s.2.1 (nI c)) 108 s.2.1 (nI p)) 109 s.2.1 nu) 110 s.2.1 ot) 111 s.2.1 fr) 112 s.2.1 (h.1 84 36)) 84 34 (nI (s.2.1 + 1))).1 112 s.2.1 = h.1 84 36 := by rw [setI_ne (Or.inl (by decide))]; exact setI_at
    rw [e109, e110, e111, e112]
    refine ⟨?_, ?_, htd, fun z => h2 z, fun z => h1 z, fun z => h0 z⟩
    · rw [setI_ne (Or.inl (by decide)), setI_ne (Or.inl (by decide)), setI_ne (Or.inl (by decide)), setI_ne (Or.inl (by decide)), setI_ne (Or.inl (by decide)), setI_ne (Or.inl (by decide))]; exact setI_at
    · rw [setI_ne (Or.inl (by decide)), setI_ne (Or.inl (by decide)), setI_ne (Or.inl (by decide)), setI_ne (Or.inl (by decide)), setI_ne (Or.inl (by decide))]; exact setI_at
  · simp only [if_neg e]
    rw [hf.2 107 k (by omega), hf.2 108 k (by omega), hf.2 109 k (by omega), hf.2 110 k (by omega), hf.2 111 k (by omega), hf.2 112 k (by omega)]
    exact hp.2.2 k (by omega)
/-- a telling's answer -/
def TelQ (C : Prop) (s s' : PS) (K : PS → kx_Mem → Prop) (F : Nat → Nat → Prop) (h : kx_Mem) (v : Option Value) (h' : kx_Mem) : Prop := (¬ C ∧ v = some (.int (-2)) ∧ h' = h) ∨ (C ∧ s.2.1 = 200 ∧ v = some (.int (-3)) ∧ h' = h) ∨ (C ∧ s.2.1 < 200 ∧ v = some (.int (nI (s.2.1 + 1))) ∧ PSok s' ∧ K s' h' ∧ kx_Fc F h h')
theorem val99 {a : Int32} (h : 1 ≤ a ∧ a ≤ 99) : ∃ k, 1 ≤ k ∧ k ≤ 99 ∧ a = nI k := by
  obtain ⟨k, hk, rfl, h1⟩ := i_ge (n := 1) (by decide) h.1
  exact ⟨k, h1, (nI_leI (b := 99) hk (by decide)).mp h.2, rfl⟩
theorem x_Tc_nation {l : Launch} {g : kx_G} {d : Nat} {h : kx_Mem} (hs : SC h) (s : PS) (ho : PSok s) (hp : PSc s h) (ck : Nat) (hck : ck ≤ 1999) (eck : h.1 0 9 = nI ck) (a b c : Int32) : kx_Sp l g m_Tc_nation [.ref 0, .int a, .int b, .int c] h (d + 2) 0 0 (fun v h' => TelQ ((0 ≤ a ∧ a < nI s.1) ∧ (0 ≤ b ∧ b ≤ 3) ∧ (0 ≤ c ∧ c ≤ 1999)) s (psT s 0 a.toNatClampNeg ck c.toNatClampNeg b.toNatClampNeg) PSc FtC h v h') := by
  have o1 := ho.1
  have o2 := ho.2.1
  have e14 : h.1 14 0 = nI s.1 := hp.1
  refine kx_enter_e (lv := [_, _, _, _]) (by decide +kernel) (Nat.le_of_ble_eq_true rfl) rfl ?_
  refine kx_aload_n (pc := 0) (kx_dd d_Tc_nation 0 rfl) rfl rfl ?_
  refine kx_getR (pc := 1) (b := 14) fl_Tc_34 (hs.k 0 rfl) rfl (hs.r 3 rfl) (kx_dd d_Tc_nation 1 rfl) ?_
  refine kx_iload_n (pc := 4) (kx_dd d_Tc_nation 2 rfl) rfl rfl ?_
  refine kx_invV (pc := 5) (a := 14) (as := [_]) (kx_dd d_Tc_nation 3 rfl) ⟨lk_Tc_101, wi_Pe_has, we_Pe_has⟩ w_Pe_has (hs.k 14 rfl) rfl rfl rfl rfl (Nat.le_of_ble_eq_true rfl) (x_Pe_has (d := d + 1) hs a) (Nat.le_refl _) ⟨Nat.le_refl _, Nat.le_refl _⟩ (fun v h' hq => ?_)
  obtain ⟨rfl, he⟩ := hq
  rw [he]
  clear he
  refine kx_if_eq (pc := 8) (tgt := 27) (kx_dd d_Tc_nation 4 rfl) rfl (fun c8 => ?_) (fun c8 => ?_)
  · refine kx_bipush (pc := 27) (v := -2) (kx_dd d_Tc_nation 13 rfl) rfl ?_
    refine kx_iret (pc := 29) rfl (kx_dd d_Tc_nation 14 rfl) (Nat.le_refl _) (Nat.le_refl _) ?_
    rw [bP_0] at c8
    rw [e14] at c8
    exact Or.inl ⟨fun z => c8 z.1, rfl, rfl⟩
  · refine kx_iload_n (pc := 11) (kx_dd d_Tc_nation 5 rfl) rfl rfl ?_
    refine kx_iconst (pc := 12) (v := 0) (kx_dd d_Tc_nation 6 rfl) rfl ?_
    refine kx_iconst (pc := 13) (v := 3) (kx_dd d_Tc_nation 7 rfl) rfl ?_
    refine kx_invS (pc := 14) (as := [_, _, _]) (kx_dd d_Tc_nation 8 rfl) ⟨lk_Tc_90, wt_Tc_within⟩ w_Tc_within rfl rfl (Nat.le_of_ble_eq_true rfl) (x_Tc_within (d := d + 1) b 0 3) (Nat.le_refl _) ⟨Nat.le_refl _, Nat.le_refl _⟩ (fun v h' hq => ?_)
    obtain ⟨rfl, he⟩ := hq
    rw [he]
    clear he
    refine kx_if_eq (pc := 17) (tgt := 27) (kx_dd d_Tc_nation 9 rfl) rfl (fun c17 => ?_) (fun c17 => ?_)
    · refine kx_bipush (pc := 27) (v := -2) (kx_dd d_Tc_nation 13 rfl) rfl ?_
      refine kx_iret (pc := 29) rfl (kx_dd d_Tc_nation 14 rfl) (Nat.le_refl _) (Nat.le_refl _) ?_
      rw [bP_0] at c17
      exact Or.inl ⟨fun z => c17 z.2.1, rfl, rfl⟩
    · refine kx_iload_n (pc := 20) (kx_dd d_Tc_nation 10 rfl) rfl rfl ?_
      refine kx_invS (pc := 21) (as := [_]) (kx_dd d_Tc_nation 11 rfl) ⟨lk_Tc_105, wt_Tc_isDay⟩ w_Tc_isDay rfl rfl (Nat.le_of_ble_eq_true rfl) (x_Tc_isDay (d := d) c) (Nat.le_refl _) ⟨Nat.le_refl _, Nat.le_refl _⟩ (fun v h' hq => ?_)
      obtain ⟨rfl, he⟩ := hq
      rw [he]
      clear he
      refine kx_if_ne (pc := 24) (tgt := 30) (kx_dd d_Tc_nation 12 rfl) rfl (fun c24 => ?_) (fun c24 => ?_)
      · have x0 : 0 ≤ a ∧ a < h.1 14 0 := (bP_ti _).mp c8
        rw [e14] at x0
        have x1 : 0 ≤ b ∧ b ≤ 3 := (bP_ti _).mp c17
        have x2 : 0 ≤ c ∧ c ≤ 1999 := (bP_ti _).mp c24
        obtain ⟨a9, ha9, rfl⟩ := valP (n := s.1) (by omega) x0
        obtain ⟨b9, hb9, rfl⟩ := val3 x1
        obtain ⟨c9, hc9, rfl⟩ := valD x2
        refine kx_aload_n (pc := 30) (kx_dd d_Tc_nation 15 rfl) rfl rfl ?_
        refine kx_getR (pc := 31) (b := 14) fl_Tc_34 (hs.k 0 rfl) rfl (hs.r 3 rfl) (kx_dd d_Tc_nation 16 rfl) ?_
        refine kx_iconst (pc := 34) (v := 0) (kx_dd d_Tc_nation 17 rfl) rfl ?_
        refine kx_iload_n (pc := 35) (kx_dd d_Tc_nation 18 rfl) rfl rfl ?_
        refine kx_iload_n (pc := 36) (kx_dd d_Tc_nation 19 rfl) rfl rfl ?_
        refine kx_iload_n (pc := 37) (kx_dd d_Tc_nation 20 rfl) rfl rfl ?_
        refine kx_aload_n (pc := 38) (kx_dd d_Tc_nation 21 rfl) rfl rfl ?_
        refine kx_getI (pc := 39) fl_Tc_94 (hs.k 0 rfl) rfl (kx_dd d_Tc_nation 22 rfl) ?_
        refine kx_invV (pc := 42) (a := 14) (as := [_, _, _, _, _]) (kx_dd d_Tc_nation 23 rfl) ⟨lk_Tc_108, wi_Pe_tell, we_Pe_tell⟩ w_Pe_tell (hs.k 14 rfl) rfl rfl rfl rfl (Nat.le_of_ble_eq_true rfl) (x_Pe_tell (d := d + 1) hs s.2.1 hp.2.1 o2 _ _ _ _ _) (Nat.le_refl _) ⟨Nat.le_refl _, Nat.le_refl _⟩ (fun v h' hq => ?_)
        revert h'
        intro h1 hq
        rw [eck] at hq
        obtain ⟨rfl, rfl⟩ := hq
        refine kx_iret (pc := 45) rfl (kx_dd d_Tc_nation 24 rfl) (Nat.le_refl _) (Nat.le_refl _) ?_
        by_cases e : s.2.1 = 200
        · rw [if_pos e, if_pos e]
          exact Or.inr (Or.inl ⟨⟨x0, x1, x2⟩, e, rfl, rfl⟩)
        · rw [if_neg e, if_neg e]
          have hA := hp.add (c := 0) (p := a9) (td := ck) (x := c9) (y := b9)
          refine Or.inr (Or.inr ⟨⟨x0, x1, x2⟩, by omega, rfl, ?_⟩)
          rw [nI_clamp (by omega), nI_clamp (by omega), nI_clamp (by omega)]
          exact ⟨(ho.add (by omega) (by decide) ha9 hck hc9 (by omega) (fun z => by omega) (fun _ => hb9)), hA.1, hA.2⟩
      · refine kx_bipush (pc := 27) (v := -2) (kx_dd d_Tc_nation 13 rfl) rfl ?_
        refine kx_iret (pc := 29) rfl (kx_dd d_Tc_nation 14 rfl) (Nat.le_refl _) (Nat.le_refl _) ?_
        rw [bP_0] at c24
        exact Or.inl ⟨fun z => c24 z.2.2, rfl, rfl⟩
theorem x_Tc_dead {l : Launch} {g : kx_G} {d : Nat} {h : kx_Mem} (hs : SC h) (s : PS) (ho : PSok s) (hp : PSc s h) (ck : Nat) (hck : ck ≤ 1999) (eck : h.1 0 9 = nI ck) (a b : Int32) : kx_Sp l g m_Tc_dead [.ref 0, .int a, .int b] h (d + 2) 0 0 (fun v h' => TelQ ((0 ≤ a ∧ a < nI s.1) ∧ (0 ≤ b ∧ b ≤ 1999)) s (psT s 1 a.toNatClampNeg ck b.toNatClampNeg 0) PSc FtC h v h') := by
  have o1 := ho.1
  have o2 := ho.2.1
  have e14 : h.1 14 0 = nI s.1 := hp.1
  refine kx_enter_e (lv := [_, _, _]) (by decide +kernel) (Nat.le_of_ble_eq_true rfl) rfl ?_
  refine kx_aload_n (pc := 0) (kx_dd d_Tc_dead 0 rfl) rfl rfl ?_
  refine kx_getR (pc := 1) (b := 14) fl_Tc_34 (hs.k 0 rfl) rfl (hs.r 3 rfl) (kx_dd d_Tc_dead 1 rfl) ?_
  refine kx_iload_n (pc := 4) (kx_dd d_Tc_dead 2 rfl) rfl rfl ?_
  refine kx_invV (pc := 5) (a := 14) (as := [_]) (kx_dd d_Tc_dead 3 rfl) ⟨lk_Tc_101, wi_Pe_has, we_Pe_has⟩ w_Pe_has (hs.k 14 rfl) rfl rfl rfl rfl (Nat.le_of_ble_eq_true rfl) (x_Pe_has (d := d + 1) hs a) (Nat.le_refl _) ⟨Nat.le_refl _, Nat.le_refl _⟩ (fun v h' hq => ?_)
  obtain ⟨rfl, he⟩ := hq
  rw [he]
  clear he
  refine kx_if_eq (pc := 8) (tgt := 18) (kx_dd d_Tc_dead 4 rfl) rfl (fun c8 => ?_) (fun c8 => ?_)
  · refine kx_bipush (pc := 18) (v := -2) (kx_dd d_Tc_dead 8 rfl) rfl ?_
    refine kx_iret (pc := 20) rfl (kx_dd d_Tc_dead 9 rfl) (Nat.le_refl _) (Nat.le_refl _) ?_
    rw [bP_0] at c8
    rw [e14] at c8
    exact Or.inl ⟨fun z => c8 z.1, rfl, rfl⟩
  · refine kx_iload_n (pc := 11) (kx_dd d_Tc_dead 5 rfl) rfl rfl ?_
    refine kx_invS (pc := 12) (as := [_]) (kx_dd d_Tc_dead 6 rfl) ⟨lk_Tc_105, wt_Tc_isDay⟩ w_Tc_isDay rfl rfl (Nat.le_of_ble_eq_true rfl) (x_Tc_isDay (d := d) b) (Nat.le_refl _) ⟨Nat.le_refl _, Nat.le_refl _⟩ (fun v h' hq => ?_)
    obtain ⟨rfl, he⟩ := hq
    rw [he]
    clear he
    refine kx_if_ne (pc := 15) (tgt := 21) (kx_dd d_Tc_dead 7 rfl) rfl (fun c15 => ?_) (fun c15 => ?_)
    · have x0 : 0 ≤ a ∧ a < h.1 14 0 := (bP_ti _).mp c8
      rw [e14] at x0
      have x1 : 0 ≤ b ∧ b ≤ 1999 := (bP_ti _).mp c15
      obtain ⟨a9, ha9, rfl⟩ := valP (n := s.1) (by omega) x0
      obtain ⟨b9, hb9, rfl⟩ := valD x1
      refine kx_aload_n (pc := 21) (kx_dd d_Tc_dead 10 rfl) rfl rfl ?_
      refine kx_getR (pc := 22) (b := 14) fl_Tc_34 (hs.k 0 rfl) rfl (hs.r 3 rfl) (kx_dd d_Tc_dead 11 rfl) ?_
      refine kx_iconst (pc := 25) (v := 1) (kx_dd d_Tc_dead 12 rfl) rfl ?_
      refine kx_iload_n (pc := 26) (kx_dd d_Tc_dead 13 rfl) rfl rfl ?_
      refine kx_iload_n (pc := 27) (kx_dd d_Tc_dead 14 rfl) rfl rfl ?_
      refine kx_iconst (pc := 28) (v := 0) (kx_dd d_Tc_dead 15 rfl) rfl ?_
      refine kx_aload_n (pc := 29) (kx_dd d_Tc_dead 16 rfl) rfl rfl ?_
      refine kx_getI (pc := 30) fl_Tc_94 (hs.k 0 rfl) rfl (kx_dd d_Tc_dead 17 rfl) ?_
      refine kx_invV (pc := 33) (a := 14) (as := [_, _, _, _, _]) (kx_dd d_Tc_dead 18 rfl) ⟨lk_Tc_108, wi_Pe_tell, we_Pe_tell⟩ w_Pe_tell (hs.k 14 rfl) rfl rfl rfl rfl (Nat.le_of_ble_eq_true rfl) (x_Pe_tell (d := d + 1) hs s.2.1 hp.2.1 o2 _ _ _ _ _) (Nat.le_refl _) ⟨Nat.le_refl _, Nat.le_refl _⟩ (fun v h' hq => ?_)
      revert h'
      intro h1 hq
      rw [eck] at hq
      obtain ⟨rfl, rfl⟩ := hq
      refine kx_iret (pc := 36) rfl (kx_dd d_Tc_dead 19 rfl) (Nat.le_refl _) (Nat.le_refl _) ?_
      by_cases e : s.2.1 = 200
      · rw [if_pos e, if_pos e]
        exact Or.inr (Or.inl ⟨⟨x0, x1⟩, e, rfl, rfl⟩)
      · rw [if_neg e, if_neg e]
        have hA := hp.add (c := 1) (p := a9) (td := ck) (x := b9) (y := 0)
        refine Or.inr (Or.inr ⟨⟨x0, x1⟩, by omega, rfl, ?_⟩)
        rw [nI_clamp (by omega), nI_clamp (by omega)]
        exact ⟨(ho.add (by omega) (by decide) ha9 hck hb9 (by omega) (fun z => by omega) (fun z => by omega)), hA.1, hA.2⟩
    · refine kx_bipush (pc := 18) (v := -2) (kx_dd d_Tc_dead 8 rfl) rfl ?_
      refine kx_iret (pc := 20) rfl (kx_dd d_Tc_dead 9 rfl) (Nat.le_refl _) (Nat.le_refl _) ?_
      rw [bP_0] at c15
      exact Or.inl ⟨fun z => c15 z.2, rfl, rfl⟩
theorem x_Tc_heir {l : Launch} {g : kx_G} {d : Nat} {h : kx_Mem} (hs : SC h) (s : PS) (ho : PSok s) (hp : PSc s h) (ck : Nat) (hck : ck ≤ 1999) (eck : h.1 0 9 = nI ck) (a b c : Int32) : kx_Sp l g m_Tc_heir [.ref 0, .int a, .int b, .int c] h (d + 2) 0 0 (fun v h' => TelQ ((0 ≤ a ∧ a < nI s.1) ∧ (0 ≤ b ∧ b < nI s.1) ∧ a ≠ b ∧ (1 ≤ c ∧ c ≤ 99)) s (psT s 2 a.toNatClampNeg ck b.toNatClampNeg c.toNatClampNeg) PSc FtC h v h') := by
  have o1 := ho.1
  have o2 := ho.2.1
  have e14 : h.1 14 0 = nI s.1 := hp.1
  refine kx_enter_e (lv := [_, _, _, _]) (by decide +kernel) (Nat.le_of_ble_eq_true rfl) rfl ?_
  refine kx_aload_n (pc := 0) (kx_dd d_Tc_heir 0 rfl) rfl rfl ?_
  refine kx_getR (pc := 1) (b := 14) fl_Tc_34 (hs.k 0 rfl) rfl (hs.r 3 rfl) (kx_dd d_Tc_heir 1 rfl) ?_
  refine kx_iload_n (pc := 4) (kx_dd d_Tc_heir 2 rfl) rfl rfl ?_
  refine kx_invV (pc := 5) (a := 14) (as := [_]) (kx_dd d_Tc_heir 3 rfl) ⟨lk_Tc_101, wi_Pe_has, we_Pe_has⟩ w_Pe_has (hs.k 14 rfl) rfl rfl rfl rfl (Nat.le_of_ble_eq_true rfl) (x_Pe_has (d := d + 1) hs a) (Nat.le_refl _) ⟨Nat.le_refl _, Nat.le_refl _⟩ (fun v h' hq => ?_)
  obtain ⟨rfl, he⟩ := hq
  rw [he]
  clear he
  refine kx_if_eq (pc := 8) (tgt := 37) (kx_dd d_Tc_heir 4 rfl) rfl (fun c8 => ?_) (fun c8 => ?_)
  · refine kx_bipush (pc := 37) (v := -2) (kx_dd d_Tc_heir 18 rfl) rfl ?_
    refine kx_iret (pc := 39) rfl (kx_dd d_Tc_heir 19 rfl) (Nat.le_refl _) (Nat.le_refl _) ?_
    rw [bP_0] at c8
    rw [e14] at c8
    exact Or.inl ⟨fun z => c8 z.1, rfl, rfl⟩
  · refine kx_aload_n (pc := 11) (kx_dd d_Tc_heir 5 rfl) rfl rfl ?_
    refine kx_getR (pc := 12) (b := 14) fl_Tc_34 (hs.k 0 rfl) rfl (hs.r 3 rfl) (kx_dd d_Tc_heir 6 rfl) ?_
    refine kx_iload_n (pc := 15) (kx_dd d_Tc_heir 7 rfl) rfl rfl ?_
    refine kx_invV (pc := 16) (a := 14) (as := [_]) (kx_dd d_Tc_heir 8 rfl) ⟨lk_Tc_101, wi_Pe_has, we_Pe_has⟩ w_Pe_has (hs.k 14 rfl) rfl rfl rfl rfl (Nat.le_of_ble_eq_true rfl) (x_Pe_has (d := d + 1) hs b) (Nat.le_refl _) ⟨Nat.le_refl _, Nat.le_refl _⟩ (fun v h' hq => ?_)
    obtain ⟨rfl, he⟩ := hq
    rw [he]
    clear he
    refine kx_if_eq (pc := 19) (tgt := 37) (kx_dd d_Tc_heir 9 rfl) rfl (fun c19 => ?_) (fun c19 => ?_)
    · refine kx_bipush (pc := 37) (v := -2) (kx_dd d_Tc_heir 18 rfl) rfl ?_
      refine kx_iret (pc := 39) rfl (kx_dd d_Tc_heir 19 rfl) (Nat.le_refl _) (Nat.le_refl _) ?_
      rw [bP_0] at c19
      rw [e14] at c19
      exact Or.inl ⟨fun z => c19 z.2.1, rfl, rfl⟩
    · refine kx_iload_n (pc := 22) (kx_dd d_Tc_heir 10 rfl) rfl rfl ?_
      refine kx_iload_n (pc := 23) (kx_dd d_Tc_heir 11 rfl) rfl rfl ?_
      refine kx_icmp_eq (pc := 24) (tgt := 37) (kx_dd d_Tc_heir 12 rfl) rfl (fun c24 => ?_) (fun c24 => ?_)
      · refine kx_bipush (pc := 37) (v := -2) (kx_dd d_Tc_heir 18 rfl) rfl ?_
        refine kx_iret (pc := 39) rfl (kx_dd d_Tc_heir 19 rfl) (Nat.le_refl _) (Nat.le_refl _) ?_
        exact Or.inl ⟨fun z => z.2.2.1 c24, rfl, rfl⟩
      · refine kx_iload_n (pc := 27) (kx_dd d_Tc_heir 13 rfl) rfl rfl ?_
        refine kx_iconst (pc := 28) (v := 1) (kx_dd d_Tc_heir 14 rfl) rfl ?_
        refine kx_bipush (pc := 29) (v := 99) (kx_dd d_Tc_heir 15 rfl) rfl ?_
        refine kx_invS (pc := 31) (as := [_, _, _]) (kx_dd d_Tc_heir 16 rfl) ⟨lk_Tc_90, wt_Tc_within⟩ w_Tc_within rfl rfl (Nat.le_of_ble_eq_true rfl) (x_Tc_within (d := d + 1) c 1 99) (Nat.le_refl _) ⟨Nat.le_refl _, Nat.le_refl _⟩ (fun v h' hq => ?_)
        obtain ⟨rfl, he⟩ := hq
        rw [he]
        clear he
        refine kx_if_ne (pc := 34) (tgt := 40) (kx_dd d_Tc_heir 17 rfl) rfl (fun c34 => ?_) (fun c34 => ?_)
        · have x0 : 0 ≤ a ∧ a < h.1 14 0 := (bP_ti _).mp c8
          rw [e14] at x0
          have x1 : 0 ≤ b ∧ b < h.1 14 0 := (bP_ti _).mp c19
          rw [e14] at x1
          have x2 := c24
          have x3 : 1 ≤ c ∧ c ≤ 99 := (bP_ti _).mp c34
          obtain ⟨a9, ha9, rfl⟩ := valP (n := s.1) (by omega) x0
          obtain ⟨b9, hb9, rfl⟩ := valP (n := s.1) (by omega) x1
          obtain ⟨c9, hc8, hc9, rfl⟩ := val99 x3
          refine kx_aload_n (pc := 40) (kx_dd d_Tc_heir 20 rfl) rfl rfl ?_
          refine kx_getR (pc := 41) (b := 14) fl_Tc_34 (hs.k 0 rfl) rfl (hs.r 3 rfl) (kx_dd d_Tc_heir 21 rfl) ?_
          refine kx_iconst (pc := 44) (v := 2) (kx_dd d_Tc_heir 22 rfl) rfl ?_
          refine kx_iload_n (pc := 45) (kx_dd d_Tc_heir 23 rfl) rfl rfl ?_
          refine kx_iload_n (pc := 46) (kx_dd d_Tc_heir 24 rfl) rfl rfl ?_
          refine kx_iload_n (pc := 47) (kx_dd d_Tc_heir 25 rfl) rfl rfl ?_
          refine kx_aload_n (pc := 48) (kx_dd d_Tc_heir 26 rfl) rfl rfl ?_
          refine kx_getI (pc := 49) fl_Tc_94 (hs.k 0 rfl) rfl (kx_dd d_Tc_heir 27 rfl) ?_
          refine kx_invV (pc := 52) (a := 14) (as := [_, _, _, _, _]) (kx_dd d_Tc_heir 28 rfl) ⟨lk_Tc_108, wi_Pe_tell, we_Pe_tell⟩ w_Pe_tell (hs.k 14 rfl) rfl rfl rfl rfl (Nat.le_of_ble_eq_true rfl) (x_Pe_tell (d := d + 1) hs s.2.1 hp.2.1 o2 _ _ _ _ _) (Nat.le_refl _) ⟨Nat.le_refl _, Nat.le_refl _⟩ (fun v h' hq => ?_)
          revert h'
          intro h1 hq
          rw [eck] at hq
          obtain ⟨rfl, rfl⟩ := hq
          refine kx_iret (pc := 55) rfl (kx_dd d_Tc_heir 29 rfl) (Nat.le_refl _) (Nat.le_refl _) ?_
          by_cases e : s.2.1 = 200
          · rw [if_pos e, if_pos e]
            exact Or.inr (Or.inl ⟨⟨x0, x1, x2, x3⟩, e, rfl, rfl⟩)
          · rw [if_neg e, if_neg e]
            have hA := hp.add (c := 2) (p := a9) (td := ck) (x := b9) (y := c9)
            refine Or.inr (Or.inr ⟨⟨x0, x1, x2, x3⟩, by omega, rfl, ?_⟩)
            rw [nI_clamp (by omega), nI_clamp (by omega), nI_clamp (by omega)]
            exact ⟨(ho.add (by omega) (by decide) ha9 hck (by omega) hc9 (fun _ => ⟨hb9, hc8⟩) (fun z => by omega)), hA.1, hA.2⟩
        · refine kx_bipush (pc := 37) (v := -2) (kx_dd d_Tc_heir 18 rfl) rfl ?_
          refine kx_iret (pc := 39) rfl (kx_dd d_Tc_heir 19 rfl) (Nat.le_refl _) (Nat.le_refl _) ?_
          rw [bP_0] at c34
          exact Or.inl ⟨fun z => c34 z.2.2.2, rfl, rfl⟩
theorem y_nation {l : Launch} {g : kx_G} {d : Nat} {h : kx_Mem} (hm : SM h) (s : PS) (ho : PSok s) (hp : PSm s h) (ck : Nat) (hck : ck ≤ 1999) (eck : h.1 84 36 = nI ck) (a b c : Int32) : kx_Sp l g m_Mo_nation [.ref 84, .int a, .int b, .int c] h (d + 2) 0 0 (fun v h' => TelQ ((0 ≤ a ∧ a < nI s.1) ∧ (0 ≤ b ∧ b ≤ 3) ∧ (0 ≤ c ∧ c ≤ 1999)) s (psT s 0 a.toNatClampNeg ck c.toNatClampNeg b.toNatClampNeg) PSm FtM h v h') := by
  have o1 := ho.1
  have o2 := ho.2.1
  refine kx_enter_e (lv := [_, _, _, _]) (by decide +kernel) (Nat.le_of_ble_eq_true rfl) rfl ?_
  refine kx_aload_n (pc := 0) (kx_dd d_Mo_nation 0 rfl) rfl rfl ?_
  refine kx_iload_n (pc := 1) (kx_dd d_Mo_nation 1 rfl) rfl rfl ?_
  refine kx_invV (pc := 2) (a := 84) (as := [_]) (kx_dd d_Mo_nation 2 rfl) ⟨lk_Mo_435, wi_Mo_isPerson, we_Mo_isPerson⟩ w_Mo_isPerson (hm.k 0 rfl) rfl rfl rfl rfl (Nat.le_of_ble_eq_true rfl) (y_isPerson (d := d) hm s ho hp a) (Nat.le_refl _) ⟨Nat.le_refl _, Nat.le_refl _⟩ (fun v h' hq => ?_)
  obtain ⟨rfl, he⟩ := hq
  rw [he]
  clear he
  refine kx_if_eq (pc := 5) (tgt := 34) (kx_dd d_Mo_nation 3 rfl) rfl (fun c5 => ?_) (fun c5 => ?_)
  · refine kx_bipush (pc := 34) (v := -2) (kx_dd d_Mo_nation 18 rfl) rfl ?_
    refine kx_iret (pc := 36) rfl (kx_dd d_Mo_nation 19 rfl) (Nat.le_refl _) (Nat.le_refl _) ?_
    rw [bP_0] at c5
    exact Or.inl ⟨fun z => c5 z.1, rfl, rfl⟩
  · refine kx_iload_n (pc := 8) (kx_dd d_Mo_nation 4 rfl) rfl rfl ?_
    refine kx_invS (pc := 9) (as := [_]) (kx_dd d_Mo_nation 5 rfl) ⟨lk_Mo_438, wt_Mo_isNation⟩ w_Mo_isNation rfl rfl (Nat.le_of_ble_eq_true rfl) (y_isNation (d := d) b) (Nat.le_refl _) ⟨Nat.le_refl _, Nat.le_refl _⟩ (fun v h' hq => ?_)
    obtain ⟨rfl, he⟩ := hq
    rw [he]
    clear he
    refine kx_if_eq (pc := 12) (tgt := 34) (kx_dd d_Mo_nation 6 rfl) rfl (fun c12 => ?_) (fun c12 => ?_)
    · refine kx_bipush (pc := 34) (v := -2) (kx_dd d_Mo_nation 18 rfl) rfl ?_
      refine kx_iret (pc := 36) rfl (kx_dd d_Mo_nation 19 rfl) (Nat.le_refl _) (Nat.le_refl _) ?_
      rw [bP_0] at c12
      exact Or.inl ⟨fun z => c12 z.2.1, rfl, rfl⟩
    · refine kx_iload_n (pc := 15) (kx_dd d_Mo_nation 7 rfl) rfl rfl ?_
      refine kx_invS (pc := 16) (as := [_]) (kx_dd d_Mo_nation 8 rfl) ⟨lk_Mo_441, wt_Mo_isDay⟩ w_Mo_isDay rfl rfl (Nat.le_of_ble_eq_true rfl) (y_isDay (d := d) c) (Nat.le_refl _) ⟨Nat.le_refl _, Nat.le_refl _⟩ (fun v h' hq => ?_)
      obtain ⟨rfl, he⟩ := hq
      rw [he]
      clear he
      refine kx_if_eq (pc := 19) (tgt := 34) (kx_dd d_Mo_nation 9 rfl) rfl (fun c19 => ?_) (fun c19 => ?_)
      · refine kx_bipush (pc := 34) (v := -2) (kx_dd d_Mo_nation 18 rfl) rfl ?_
        refine kx_iret (pc := 36) rfl (kx_dd d_Mo_nation 19 rfl) (Nat.le_refl _) (Nat.le_refl _) ?_
        rw [bP_0] at c19
        exact Or.inl ⟨fun z => c19 z.2.2, rfl, rfl⟩
      · have x0 : 0 ≤ a ∧ a < nI s.1 := (bP_ti _).mp c5
        have x1 : 0 ≤ b ∧ b ≤ 3 := (bP_ti _).mp c12
        have x2 : 0 ≤ c ∧ c ≤ 1999 := (bP_ti _).mp c19
        obtain ⟨a9, ha9, rfl⟩ := valP (n := s.1) (by omega) x0
        obtain ⟨b9, hb9, rfl⟩ := val3 x1
        obtain ⟨c9, hc9, rfl⟩ := valD x2
        refine kx_aload_n (pc := 22) (kx_dd d_Mo_nation 10 rfl) rfl rfl ?_
        refine kx_iconst (pc := 23) (v := 0) (kx_dd d_Mo_nation 11 rfl) rfl ?_
        refine kx_iload_n (pc := 24) (kx_dd d_Mo_nation 12 rfl) rfl rfl ?_
        refine kx_iload_n (pc := 25) (kx_dd d_Mo_nation 13 rfl) rfl rfl ?_
        refine kx_iconst (pc := 26) (v := -1) (kx_dd d_Mo_nation 14 rfl) rfl ?_
        refine kx_iload_n (pc := 27) (kx_dd d_Mo_nation 15 rfl) rfl rfl ?_
        refine kx_invV (pc := 28) (a := 84) (as := [_, _, _, _, _]) (kx_dd d_Mo_nation 16 rfl) ⟨lk_Mo_444, wi_Mo_tell, we_Mo_tell⟩ w_Mo_tell (hm.k 0 rfl) rfl rfl rfl rfl (Nat.le_of_ble_eq_true rfl) (y_tell (d := d + 1) hm s.2.1 hp.2.1 o2 _ _ _ _ _) (Nat.le_refl _) ⟨Nat.le_refl _, Nat.le_refl _⟩ (fun v h' hq => ?_)
        revert h'
        intro h1 hq
        obtain ⟨rfl, rfl⟩ := hq
        refine kx_goto (pc := 31) (tgt := 36) (kx_dd d_Mo_nation 17 rfl) rfl ?_
        refine kx_iret (pc := 36) rfl (kx_dd d_Mo_nation 19 rfl) (Nat.le_refl _) (Nat.le_refl _) ?_
        by_cases e : s.2.1 = 200
        · rw [if_pos e, if_pos e]
          exact Or.inr (Or.inl ⟨⟨x0, x1, x2⟩, e, rfl, rfl⟩)
        · rw [if_neg e, if_neg e]
          have hA := hp.add (c := 0) (p := a9) (td := ck) (x := c9) (y := b9) (nu := nI b9) (ot := -1) (fr := nI c9) eck (fun z => by omega) (fun _ => rfl) (fun _ => rfl)
          refine Or.inr (Or.inr ⟨⟨x0, x1, x2⟩, by omega, rfl, ?_⟩)
          rw [nI_clamp (by omega), nI_clamp (by omega), nI_clamp (by omega)]
          exact ⟨(ho.add (by omega) (by decide) ha9 hck hc9 (by omega) (fun z => by omega) (fun _ => hb9)), hA.1, hA.2⟩
theorem y_dead {l : Launch} {g : kx_G} {d : Nat} {h : kx_Mem} (hm : SM h) (s : PS) (ho : PSok s) (hp : PSm s h) (ck : Nat) (hck : ck ≤ 1999) (eck : h.1 84 36 = nI ck) (a b : Int32) : kx_Sp l g m_Mo_dead [.ref 84, .int a, .int b] h (d + 2) 0 0 (fun v h' => TelQ ((0 ≤ a ∧ a < nI s.1) ∧ (0 ≤ b ∧ b ≤ 1999)) s (psT s 1 a.toNatClampNeg ck b.toNatClampNeg 0) PSm FtM h v h') := by
  have o1 := ho.1
  have o2 := ho.2.1
  refine kx_enter_e (lv := [_, _, _]) (by decide +kernel) (Nat.le_of_ble_eq_true rfl) rfl ?_
  refine kx_aload_n (pc := 0) (kx_dd d_Mo_dead 0 rfl) rfl rfl ?_
  refine kx_iload_n (pc := 1) (kx_dd d_Mo_dead 1 rfl) rfl rfl ?_
  refine kx_invV (pc := 2) (a := 84) (as := [_]) (kx_dd d_Mo_dead 2 rfl) ⟨lk_Mo_435, wi_Mo_isPerson, we_Mo_isPerson⟩ w_Mo_isPerson (hm.k 0 rfl) rfl rfl rfl rfl (Nat.le_of_ble_eq_true rfl) (y_isPerson (d := d) hm s ho hp a) (Nat.le_refl _) ⟨Nat.le_refl _, Nat.le_refl _⟩ (fun v h' hq => ?_)
  obtain ⟨rfl, he⟩ := hq
  rw [he]
  clear he
  refine kx_if_eq (pc := 5) (tgt := 27) (kx_dd d_Mo_dead 3 rfl) rfl (fun c5 => ?_) (fun c5 => ?_)
  · refine kx_bipush (pc := 27) (v := -2) (kx_dd d_Mo_dead 15 rfl) rfl ?_
    refine kx_iret (pc := 29) rfl (kx_dd d_Mo_dead 16 rfl) (Nat.le_refl _) (Nat.le_refl _) ?_
    rw [bP_0] at c5
    exact Or.inl ⟨fun z => c5 z.1, rfl, rfl⟩
  · refine kx_iload_n (pc := 8) (kx_dd d_Mo_dead 4 rfl) rfl rfl ?_
    refine kx_invS (pc := 9) (as := [_]) (kx_dd d_Mo_dead 5 rfl) ⟨lk_Mo_441, wt_Mo_isDay⟩ w_Mo_isDay rfl rfl (Nat.le_of_ble_eq_true rfl) (y_isDay (d := d) b) (Nat.le_refl _) ⟨Nat.le_refl _, Nat.le_refl _⟩ (fun v h' hq => ?_)
    obtain ⟨rfl, he⟩ := hq
    rw [he]
    clear he
    refine kx_if_eq (pc := 12) (tgt := 27) (kx_dd d_Mo_dead 6 rfl) rfl (fun c12 => ?_) (fun c12 => ?_)
    · refine kx_bipush (pc := 27) (v := -2) (kx_dd d_Mo_dead 15 rfl) rfl ?_
      refine kx_iret (pc := 29) rfl (kx_dd d_Mo_dead 16 rfl) (Nat.le_refl _) (Nat.le_refl _) ?_
      rw [bP_0] at c12
      exact Or.inl ⟨fun z => c12 z.2, rfl, rfl⟩
    · have x0 : 0 ≤ a ∧ a < nI s.1 := (bP_ti _).mp c5
      have x1 : 0 ≤ b ∧ b ≤ 1999 := (bP_ti _).mp c12
      obtain ⟨a9, ha9, rfl⟩ := valP (n := s.1) (by omega) x0
      obtain ⟨b9, hb9, rfl⟩ := valD x1
      refine kx_aload_n (pc := 15) (kx_dd d_Mo_dead 7 rfl) rfl rfl ?_
      refine kx_iconst (pc := 16) (v := 1) (kx_dd d_Mo_dead 8 rfl) rfl ?_
      refine kx_iload_n (pc := 17) (kx_dd d_Mo_dead 9 rfl) rfl rfl ?_
      refine kx_iconst (pc := 18) (v := 0) (kx_dd d_Mo_dead 10 rfl) rfl ?_
      refine kx_iconst (pc := 19) (v := -1) (kx_dd d_Mo_dead 11 rfl) rfl ?_
      refine kx_iload_n (pc := 20) (kx_dd d_Mo_dead 12 rfl) rfl rfl ?_
      refine kx_invV (pc := 21) (a := 84) (as := [_, _, _, _, _]) (kx_dd d_Mo_dead 13 rfl) ⟨lk_Mo_444, wi_Mo_tell, we_Mo_tell⟩ w_Mo_tell (hm.k 0 rfl) rfl rfl rfl rfl (Nat.le_of_ble_eq_true rfl) (y_tell (d := d + 1) hm s.2.1 hp.2.1 o2 _ _ _ _ _) (Nat.le_refl _) ⟨Nat.le_refl _, Nat.le_refl _⟩ (fun v h' hq => ?_)
      revert h'
      intro h1 hq
      obtain ⟨rfl, rfl⟩ := hq
      refine kx_goto (pc := 24) (tgt := 29) (kx_dd d_Mo_dead 14 rfl) rfl ?_
      refine kx_iret (pc := 29) rfl (kx_dd d_Mo_dead 16 rfl) (Nat.le_refl _) (Nat.le_refl _) ?_
      by_cases e : s.2.1 = 200
      · rw [if_pos e, if_pos e]
        exact Or.inr (Or.inl ⟨⟨x0, x1⟩, e, rfl, rfl⟩)
      · rw [if_neg e, if_neg e]
        have hA := hp.add (c := 1) (p := a9) (td := ck) (x := b9) (y := 0) (nu := 0) (ot := -1) (fr := nI b9) eck (fun z => by omega) (fun _ => rfl) (fun z => by omega)
        refine Or.inr (Or.inr ⟨⟨x0, x1⟩, by omega, rfl, ?_⟩)
        rw [nI_clamp (by omega), nI_clamp (by omega)]
        exact ⟨(ho.add (by omega) (by decide) ha9 hck hb9 (by omega) (fun z => by omega) (fun z => by omega)), hA.1, hA.2⟩
theorem y_heir {l : Launch} {g : kx_G} {d : Nat} {h : kx_Mem} (hm : SM h) (s : PS) (ho : PSok s) (hp : PSm s h) (ck : Nat) (hck : ck ≤ 1999) (eck : h.1 84 36 = nI ck) (a b c : Int32) : kx_Sp l g m_Mo_heir [.ref 84, .int a, .int b, .int c] h (d + 2) 0 0 (fun v h' => TelQ ((0 ≤ a ∧ a < nI s.1) ∧ (0 ≤ b ∧ b < nI s.1) ∧ a ≠ b ∧ (1 ≤ c ∧ c ≤ 99)) s (psT s 2 a.toNatClampNeg ck b.toNatClampNeg c.toNatClampNeg) PSm FtM h v h') := by
  have o1 := ho.1
  have o2 := ho.2.1
  refine kx_enter_e (lv := [_, _, _, _]) (by decide +kernel) (Nat.le_of_ble_eq_true rfl) rfl ?_
  refine kx_aload_n (pc := 0) (kx_dd d_Mo_heir 0 rfl) rfl rfl ?_
  refine kx_iload_n (pc := 1) (kx_dd d_Mo_heir 1 rfl) rfl rfl ?_
  refine kx_invV (pc := 2) (a := 84) (as := [_]) (kx_dd d_Mo_heir 2 rfl) ⟨lk_Mo_435, wi_Mo_isPerson, we_Mo_isPerson⟩ w_Mo_isPerson (hm.k 0 rfl) rfl rfl rfl rfl (Nat.le_of_ble_eq_true rfl) (y_isPerson (d := d) hm s ho hp a) (Nat.le_refl _) ⟨Nat.le_refl _, Nat.le_refl _⟩ (fun v h' hq => ?_)
  obtain ⟨rfl, he⟩ := hq
  rw [he]
  clear he
  refine kx_if_eq (pc := 5) (tgt := 45) (kx_dd d_Mo_heir 3 rfl) rfl (fun c5 => ?_) (fun c5 => ?_)
  · refine kx_bipush (pc := 45) (v := -2) (kx_dd d_Mo_heir 25 rfl) rfl ?_
    refine kx_iret (pc := 47) rfl (kx_dd d_Mo_heir 26 rfl) (Nat.le_refl _) (Nat.le_refl _) ?_
    rw [bP_0] at c5
    exact Or.inl ⟨fun z => c5 z.1, rfl, rfl⟩
  · refine kx_aload_n (pc := 8) (kx_dd d_Mo_heir 4 rfl) rfl rfl ?_
    refine kx_iload_n (pc := 9) (kx_dd d_Mo_heir 5 rfl) rfl rfl ?_
    refine kx_invV (pc := 10) (a := 84) (as := [_]) (kx_dd d_Mo_heir 6 rfl) ⟨lk_Mo_435, wi_Mo_isPerson, we_Mo_isPerson⟩ w_Mo_isPerson (hm.k 0 rfl) rfl rfl rfl rfl (Nat.le_of_ble_eq_true rfl) (y_isPerson (d := d) hm s ho hp b) (Nat.le_refl _) ⟨Nat.le_refl _, Nat.le_refl _⟩ (fun v h' hq => ?_)
    obtain ⟨rfl, he⟩ := hq
    rw [he]
    clear he
    refine kx_if_eq (pc := 13) (tgt := 45) (kx_dd d_Mo_heir 7 rfl) rfl (fun c13 => ?_) (fun c13 => ?_)
    · refine kx_bipush (pc := 45) (v := -2) (kx_dd d_Mo_heir 25 rfl) rfl ?_
      refine kx_iret (pc := 47) rfl (kx_dd d_Mo_heir 26 rfl) (Nat.le_refl _) (Nat.le_refl _) ?_
      rw [bP_0] at c13
      exact Or.inl ⟨fun z => c13 z.2.1, rfl, rfl⟩
    · refine kx_iload_n (pc := 16) (kx_dd d_Mo_heir 8 rfl) rfl rfl ?_
      refine kx_iload_n (pc := 17) (kx_dd d_Mo_heir 9 rfl) rfl rfl ?_
      refine kx_icmp_eq (pc := 18) (tgt := 45) (kx_dd d_Mo_heir 10 rfl) rfl (fun c18 => ?_) (fun c18 => ?_)
      · refine kx_bipush (pc := 45) (v := -2) (kx_dd d_Mo_heir 25 rfl) rfl ?_
        refine kx_iret (pc := 47) rfl (kx_dd d_Mo_heir 26 rfl) (Nat.le_refl _) (Nat.le_refl _) ?_
        exact Or.inl ⟨fun z => z.2.2.1 c18, rfl, rfl⟩
      · refine kx_iload_n (pc := 21) (kx_dd d_Mo_heir 11 rfl) rfl rfl ?_
        refine kx_i2l (pc := 22) (kx_dd d_Mo_heir 12 rfl) ?_
        refine kx_lconst (pc := 23) (v := 1) (kx_dd d_Mo_heir 13 rfl) rfl ?_
        refine kx_ldc2 (pc := 24) kl_Mo_448 (kx_dd d_Mo_heir 14 rfl) ?_
        refine kx_invS (pc := 27) (as := [_, _, _]) (kx_dd d_Mo_heir 15 rfl) ⟨lk_Mo_5, wt_Mo_in⟩ w_Mo_in rfl rfl (Nat.le_of_ble_eq_true rfl) (y_in (d := d + 1) _ _ _) (Nat.le_refl _) ⟨Nat.le_refl _, Nat.le_refl _⟩ (fun v h' hq => ?_)
        obtain ⟨rfl, he⟩ := hq
        rw [he]
        clear he
        refine kx_if_eq (pc := 30) (tgt := 45) (kx_dd d_Mo_heir 16 rfl) rfl (fun c30 => ?_) (fun c30 => ?_)
        · refine kx_bipush (pc := 45) (v := -2) (kx_dd d_Mo_heir 25 rfl) rfl ?_
          refine kx_iret (pc := 47) rfl (kx_dd d_Mo_heir 26 rfl) (Nat.le_refl _) (Nat.le_refl _) ?_
          rw [bP_0] at c30
          rw [show (1 : Int64) = (1 : Int32).toInt64 by decide, w_le, show (99 : Int64) = (99 : Int32).toInt64 by decide, w_le] at c30
          exact Or.inl ⟨fun z => c30 z.2.2.2, rfl, rfl⟩
        · have x0 : 0 ≤ a ∧ a < nI s.1 := (bP_ti _).mp c5
          have x1 : 0 ≤ b ∧ b < nI s.1 := (bP_ti _).mp c13
          have x2 := c18
          have x3 : (1 : Int64) ≤ c.toInt64 ∧ c.toInt64 ≤ 99 := (bP_ti _).mp c30
          rw [show (1 : Int64) = (1 : Int32).toInt64 by decide, w_le, show (99 : Int64) = (99 : Int32).toInt64 by decide, w_le] at x3
          obtain ⟨a9, ha9, rfl⟩ := valP (n := s.1) (by omega) x0
          obtain ⟨b9, hb9, rfl⟩ := valP (n := s.1) (by omega) x1
          obtain ⟨c9, hc8, hc9, rfl⟩ := val99 x3
          refine kx_aload_n (pc := 33) (kx_dd d_Mo_heir 17 rfl) rfl rfl ?_
          refine kx_iconst (pc := 34) (v := 2) (kx_dd d_Mo_heir 18 rfl) rfl ?_
          refine kx_iload_n (pc := 35) (kx_dd d_Mo_heir 19 rfl) rfl rfl ?_
          refine kx_iload_n (pc := 36) (kx_dd d_Mo_heir 20 rfl) rfl rfl ?_
          refine kx_iload_n (pc := 37) (kx_dd d_Mo_heir 21 rfl) rfl rfl ?_
          refine kx_iconst (pc := 38) (v := 0) (kx_dd d_Mo_heir 22 rfl) rfl ?_
          refine kx_invV (pc := 39) (a := 84) (as := [_, _, _, _, _]) (kx_dd d_Mo_heir 23 rfl) ⟨lk_Mo_444, wi_Mo_tell, we_Mo_tell⟩ w_Mo_tell (hm.k 0 rfl) rfl rfl rfl rfl (Nat.le_of_ble_eq_true rfl) (y_tell (d := d + 1) hm s.2.1 hp.2.1 o2 _ _ _ _ _) (Nat.le_refl _) ⟨Nat.le_refl _, Nat.le_refl _⟩ (fun v h' hq => ?_)
          revert h'
          intro h1 hq
          obtain ⟨rfl, rfl⟩ := hq
          refine kx_goto (pc := 42) (tgt := 47) (kx_dd d_Mo_heir 24 rfl) rfl ?_
          refine kx_iret (pc := 47) rfl (kx_dd d_Mo_heir 26 rfl) (Nat.le_refl _) (Nat.le_refl _) ?_
          by_cases e : s.2.1 = 200
          · rw [if_pos e, if_pos e]
            exact Or.inr (Or.inl ⟨⟨x0, x1, x2, x3⟩, e, rfl, rfl⟩)
          · rw [if_neg e, if_neg e]
            have hA := hp.add (c := 2) (p := a9) (td := ck) (x := b9) (y := c9) (nu := nI c9) (ot := nI b9) (fr := 0) eck (fun _ => ⟨rfl, rfl⟩) (fun z => absurd rfl z) (fun z => by omega)
            refine Or.inr (Or.inr ⟨⟨x0, x1, x2, x3⟩, by omega, rfl, ?_⟩)
            rw [nI_clamp (by omega), nI_clamp (by omega), nI_clamp (by omega)]
            exact ⟨(ho.add (by omega) (by decide) ha9 hck (by omega) hc9 (fun _ => ⟨hb9, hc8⟩) (fun z => by omega)), hA.1, hA.2⟩
