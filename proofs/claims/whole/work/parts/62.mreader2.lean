/-! the reference: readKind, choices, names -/
abbrev wfl (r : RU) : Nat → Prop := fun k => 0 < ruWT r k
/-- a draft's row written -/
theorem RM.put {b : Nat → Int32} {n i : Nat} {r r' : RU} {fl fl' : Nat → Prop} {nw : Nat} {T : Nat → Nat} {z : Nat} {h h' : kx_Mem} (hR : RM b n i r fl nw T z h) (hf : kx_Fc (fun a _ => (89 ≤ a ∧ a ≤ 103) ∨ a = 104 ∨ a = 105 ∨ a = 106) h h') (ho : RUok r') (hp : RUm r' 4 nw T h') (hfl : ∀ k, k < ruK r' → h'.1 105 k = bP (fl' k)) : RM b n i r' fl' nw T z h' := by
  obtain ⟨h1, h2, h3, h4, h5, h6, h7, h8, h9, h10⟩ := hR
  exact ⟨h1.fc hf, ⟨h2.1.fc hf (by omega) (fun j => by omega), h2.2⟩, h3, h4.fc hf (fun j a b => by omega), ho, hp, ⟨h7.1, h7.2.1.fc hf (by omega) (fun j => ⟨by omega, by omega⟩), h7.2.2⟩, hfl, (hf.2 84 11 (by omega)).trans h9, (hf.2 84 12 (by omega)).trans h10⟩
theorem RUm.set4 {r : RU} {n j : Nat} {T : Nat → Nat} {x : Int32} {h : kx_Mem} (hp : RUm r 4 n T h) : RUm (ruSet r j x) 4 n T (kx_setI h 89 (44 + j) x) := by
  obtain ⟨h1, h2, h3, h4, h5, h6, h7, h8, h9, h10⟩ := hp
  have e : ∀ b k, b ≠ 89 → (kx_setI h 89 (44 + j) x).1 b k = h.1 b k := fun b k hb => setI_ne (Or.inl hb)
  refine ⟨fun k hk => ?_, fun k hk => by rw [e _ _ (by decide)]; exact h2 k hk, by rw [e _ _ (by decide)]; exact h3, fun k hk => by rw [e _ _ (by decide), e _ _ (by decide)]; exact h4 k hk, by rw [e _ _ (by decide)]; exact h5, fun k hk => by rw [e _ _ (by decide), e _ _ (by decide)]; exact h6 k hk, by rw [e _ _ (by decide)]; exact h7, fun k y hy => by rw [e _ _ (by decide), e _ _ (by decide)]; exact h8 k y hy, by rw [e _ _ (by decide)]; exact h9, fun k y hy => by rw [e _ _ (by decide), e _ _ (by decide), e _ _ (by decide)]; exact h10 k y hy⟩
  show _ = upF (ruS r) j x k
  unfold upF
  by_cases ek : k = j
  · rw [if_pos ek, ek]; exact setI_at
  · rw [if_neg ek, setI_ne (Or.inr (by omega))]; exact h1 k hk
theorem RM.set {b : Nat → Int32} {n i : Nat} {r : RU} {fl : Nat → Prop} {nw : Nat} {T : Nat → Nat} {z j : Nat} {x : Int32} {h : kx_Mem} (hR : RM b n i r fl nw T z h) : RM b n i (ruSet r j x) fl nw T z (kx_setI h 89 (44 + j) x) := hR.put (kx_Fc.set (Or.inl ⟨by decide, by decide⟩)) (hR.2.2.2.2.1.set j x) hR.2.2.2.2.2.1.set4 (fun k hk => (setI_ne (Or.inl (by decide))).trans (hR.2.2.2.2.2.2.2.1 k hk))
theorem FrD.set {h : kx_Mem} {j : Nat} {x : Int32} : kx_Fc FrD h (kx_setI h 89 (44 + j) x) := kx_Fc.set (by unfold FrD; omega)
theorem y_told {l : Launch} {g : kx_G} {d : Nat} {h : kx_Mem} (hm : SM h) (j : Nat) (hj : j < 11) (x : Int32) : kx_Sp l g m_Mo_told [.ref 84, .int (nI j), .int x] h (d) 0 0 (fun v h' => v = none ∧ h' = kx_setI h 89 (44 + j) x) := by
  refine kx_enter_e (lv := [_, _, _]) (by decide +kernel) (Nat.le_of_ble_eq_true rfl) rfl ?_
  refine kx_aload_n (pc := 0) (kx_dd d_Mo_told 0 rfl) rfl rfl ?_
  refine kx_getR (pc := 1) (b := 89) fl_Mo_85 (hm.k 0 rfl) rfl (hm.r 4 rfl) (kx_dd d_Mo_told 1 rfl) ?_
  refine kx_bipush (pc := 4) (v := 44) (kx_dd d_Mo_told 2 rfl) rfl ?_
  refine kx_iload_n (pc := 6) (kx_dd d_Mo_told 3 rfl) rfl rfl ?_
  refine kx_iadd (pc := 7) (kx_dd d_Mo_told 4 rfl) ?_
  refine kx_iload_n (pc := 8) (kx_dd d_Mo_told 5 rfl) rfl rfl ?_
  refine kx_iastn (pc := 9) (44 + j) (hm.t 5 rfl) (by decide) (nI_add 44 j) (by omega) (by decide) (kx_dd d_Mo_told 6 rfl) ?_
  refine kx_vret (pc := 10) rfl (kx_dd d_Mo_told 7 rfl) (Nat.le_refl _) (Nat.le_refl _) ?_
  exact ⟨rfl, rfl⟩
theorem RM.kin {b : Nat → Int32} {n i : Nat} {r : RU} {nw : Nat} {T : Nat → Nat} {z w j : Nat} {h : kx_Mem} (hR : RM b n i r (wfl r) nw T z h) (hw : w < 2 ^ 60) (hk : ruK r < 16) (hj : j < nw) (hT : T j = w) : RM b n i (ruKin r w) (wfl (ruKin r w)) nw T z (kx_setI (kx_setI (kx_setI (kx_setI h 92 (64 + ruK r) (nI j)) 93 (64 + ruK r) 0) 105 (ruK r) 0) 91 4 (nI (ruK r + 1))) ∧ kx_Fc FrK h (kx_setI (kx_setI (kx_setI (kx_setI h 92 (64 + ruK r) (nI j)) 93 (64 + ruK r) 0) 105 (ruK r) 0) 91 4 (nI (ruK r + 1))) := by
  have hp := hR.2.2.2.2.2.1
  have hfl := hR.2.2.2.2.2.2.2.1
  have hf0 : kx_Fc (fun a i => (a = 92 ∧ i = 64 + ruK r) ∨ (a = 93 ∧ i = 64 + ruK r) ∨ (a = 105 ∧ i = ruK r) ∨ (a = 91 ∧ i = 4)) h (kx_setI (kx_setI (kx_setI (kx_setI h 92 (64 + ruK r) (nI j)) 93 (64 + ruK r) 0) 105 (ruK r) 0) 91 4 (nI (ruK r + 1))) := (((kx_Fc.set (Or.inl ⟨rfl, rfl⟩)).tr (kx_Fc.set (Or.inr (Or.inl ⟨rfl, rfl⟩)))).tr (kx_Fc.set (Or.inr (Or.inr (Or.inl ⟨rfl, rfl⟩))))).tr (kx_Fc.set (Or.inr (Or.inr (Or.inr ⟨rfl, rfl⟩))))
  refine ⟨hR.put (hf0.mono (fun a i q => by omega)) (hR.2.2.2.2.1.kin hw hk) ?_ (fun k hk2 => ?_), hf0.mono (fun a i q => by unfold FrK; omega)⟩
  · obtain ⟨h1, h2, h3, h4, h5, h6, h7, h8, h9, h10⟩ := hp
    have e : ∀ a k, a ≠ 91 → a ≠ 92 → a ≠ 93 → a ≠ 105 → (kx_setI (kx_setI (kx_setI (kx_setI h 92 (64 + ruK r) (nI j)) 93 (64 + ruK r) 0) 105 (ruK r) 0) 91 4 (nI (ruK r + 1))).1 a k = h.1 a k := fun a k q1 q2 q3 q4 => hf0.2 a k (by omega)
    refine ⟨fun k hk => by rw [e _ _ (by decide) (by decide) (by decide) (by decide)]; exact h1 k hk, fun k hk => by rw [e _ _ (by decide) (by decide) (by decide) (by decide)]; exact h2 k hk, setI_at, fun k hk3 => ?_, by rw [e _ _ (by decide) (by decide) (by decide) (by decide)]; exact h5, fun k hk => by rw [e _ _ (by decide) (by decide) (by decide) (by decide), e _ _ (by decide) (by decide) (by decide) (by decide)]; exact h6 k hk, by rw [e _ _ (by decide) (by decide) (by decide) (by decide)]; exact h7, fun k y hy => by rw [e _ _ (by decide) (by decide) (by decide) (by decide), e _ _ (by decide) (by decide) (by decide) (by decide)]; exact h8 k y hy, by rw [e _ _ (by decide) (by decide) (by decide) (by decide)]; exact h9, fun k y hy => by rw [e _ _ (by decide) (by decide) (by decide) (by decide), e _ _ (by decide) (by decide) (by decide) (by decide), e _ _ (by decide) (by decide) (by decide) (by decide)]; exact h10 k y hy⟩
    have hk' : k < ruK r + 1 := hk3
    show wdI nw T (upF (ruKW r) (ruK r) w k) ((kx_setI (kx_setI (kx_setI (kx_setI h 92 (64 + ruK r) (nI j)) 93 (64 + ruK r) 0) 105 (ruK r) 0) 91 4 (nI (ruK r + 1))).1 92 (64 + k)) ∧ (kx_setI (kx_setI (kx_setI (kx_setI h 92 (64 + ruK r) (nI j)) 93 (64 + ruK r) 0) 105 (ruK r) 0) 91 4 (nI (ruK r + 1))).1 93 (64 + k) = nI (upF (ruWT r) (ruK r) 0 k)
    unfold upF
    by_cases ek : k = ruK r
    · rw [if_pos ek, if_pos ek, ek]
      refine ⟨⟨j, hj, hT, ?_⟩, ?_⟩
      · rw [setI_ne (Or.inl (by decide)), setI_ne (Or.inl (by decide)), setI_ne (Or.inl (by decide))]; exact setI_at
      · rw [setI_ne (Or.inl (by decide)), setI_ne (Or.inl (by decide))]; exact setI_at
    · rw [if_neg ek, if_neg ek, hf0.2 92 _ (by omega), hf0.2 93 _ (by omega)]
      exact h4 k (by omega)
  · have hk' : k < ruK r + 1 := hk2
    by_cases ek : k = ruK r
    · rw [ek, setI_ne (Or.inl (by decide)), setI_at]
      exact (bP_f (by show ¬ 0 < upF (ruWT r) (ruK r) 0 (ruK r); unfold upF; rw [if_pos rfl]; omega)).symm
    · rw [hf0.2 105 k (by omega), hfl k (by omega)]
      exact bP_c (by show 0 < ruWT r k ↔ 0 < upF (ruWT r) (ruK r) 0 k; unfold upF; rw [if_neg ek])
theorem y_readKind {l : Launch} {g : kx_G} {d : Nat} {h : kx_Mem} (b : Nat → Int32) (n i : Nat) (r : RU) (nw : Nat) (T : Nat → Nat) (z : Nat) (hR : RM b n i r (wfl r) nw T z h) (hz9 : z < 1960) : kt_Sp l g m_Mo_readKind [.ref 84] h (d + 3) 0 0 (fun v h' => ∃ q, kdF b n i r = .inr q ∧ v = some (.int (nI q.1)) ∧ q.1 < ruK q.2.1 ∧ ∃ nw' T', waF nw T (tW b n i) = (nw', T') ∧ RM b n q.2.2 q.2.1 (wfl q.2.1) nw' T' (z + bgw (tW b n i)) h' ∧ kx_Fc FrK h h') (fun h' => ∃ f, kdF b n i r = .inl f ∧ ZF f nw T (z + 1) h h') := by
  have hm := hR.1
  have hin := hR.2.2.1
  have hki := tK_le (b := b) (n := n) (i := i)
  obtain ⟨k1, k2, k3, k4⟩ := id hR.2.2.2.1
  have ho := hR.2.2.2.2.1
  have o16 := ho.1
  have hn6 := hR.2.1.1.2.1
  refine kt_enter (lv := [_, _, _]) (by decide +kernel) (Nat.le_of_ble_eq_true rfl) rfl ?_
  refine kt_aload_n (pc := 0) (kx_dd d_Mo_readKind 0 rfl) rfl rfl ?_
  refine kt_getI (pc := 1) fl_Mo_50 (hm.k 0 rfl) rfl (kx_dd d_Mo_readKind 1 rfl) ?_
  refine kt_iconst (pc := 4) (v := 1) (kx_dd d_Mo_readKind 2 rfl) rfl ?_
  refine kt_icmp_eq (pc := 5) (tgt := 14) (kx_dd d_Mo_readKind 3 rfl) rfl (fun c5 => ?_) (fun c5 => ?_)
  · rw [k2, show (1 : Int32) = nI 1 from rfl, nI_eq (by omega) (by decide)] at c5
    have hkl : ∀ k, kiF r (tW b n i) = some k → k < ruK r := fun k z => (fnd_lt z).1
    refine kt_aload_n (pc := 14) (kx_dd d_Mo_readKind 8 rfl) rfl rfl ?_
    refine kt_aload_n (pc := 15) (kx_dd d_Mo_readKind 9 rfl) rfl rfl ?_
    refine kt_getI (pc := 16) fl_Mo_27 (hm.k 0 rfl) rfl (kx_dd d_Mo_readKind 10 rfl) ?_
    refine kt_aload_n (pc := 19) (kx_dd d_Mo_readKind 11 rfl) rfl rfl ?_
    refine kt_getI (pc := 20) fl_Mo_43 (hm.k 0 rfl) rfl (kx_dd d_Mo_readKind 12 rfl) ?_
    refine kt_invV (pc := 23) (a := 84) (as := [_, _]) (kx_dd d_Mo_readKind 13 rfl) ⟨lk_Mo_81, wi_Mo_wordOf, we_Mo_wordOf⟩ w_Mo_wordOf (hm.k 0 rfl) rfl rfl rfl rfl (Nat.le_of_ble_eq_true rfl) ((by rw [k3, k1]; exact y_wordTok (d := d + 2) b n i _ _ nw T z hR hz9 c5)) (Nat.le_refl _) ⟨Nat.le_refl _, Nat.le_refl _⟩ (fun v h' hq => ?_)
    revert h'
    intro h1 hq
    obtain ⟨j9, rfl, hj1, hj2, hwm, hfw⟩ := hq
    have hwl := tW_lt hR.2.2.1 c5
    have hR1 := hR.wa (c := tW b n i) (hR.nw hz9) hwl.1 hwl.2 hwm hfw
    have hF1 : kx_Fc FrD h h1 := kx_Fc.fw hfw
    have hm := hR1.1
    refine kt_istore_ne (pc := 26) (lv' := [_, _, _]) (kx_dd d_Mo_readKind 14 rfl) rfl (Nat.le_of_ble_eq_true rfl) rfl ?_
    refine kt_aload_n (pc := 27) (kx_dd d_Mo_readKind 15 rfl) rfl rfl ?_
    refine kt_iconst (pc := 28) (v := 4) (kx_dd d_Mo_readKind 16 rfl) rfl ?_
    refine kt_iload_n (pc := 29) (kx_dd d_Mo_readKind 17 rfl) rfl rfl ?_
    refine kt_invV (pc := 30) (a := 84) (as := [_, _]) (kx_dd d_Mo_readKind 18 rfl) ⟨lk_Mo_106, wi_Mo_kindOf, we_Mo_kindOf⟩ w_Mo_kindOf (hm.k 0 rfl) rfl rfl rfl rfl (Nat.le_of_ble_eq_true rfl) (y_kindOf (d := d + 2) hm _ _ hR1.2.2.2.2.2.2.1.1 r ho 4 (by decide) hR1.2.2.2.2.2.1 j9 hj1) (Nat.le_refl _) ⟨Nat.le_refl _, Nat.le_refl _⟩ (fun v h' hq => ?_)
    obtain ⟨rfl, hz8⟩ := hq
    rw [hz8]
    clear hz8
    rw [hj2]
    refine kt_istore_ne (pc := 33) (lv' := [_, _, _]) (kx_dd d_Mo_readKind 19 rfl) rfl (Nat.le_of_ble_eq_true rfl) rfl ?_
    refine kt_iload_n (pc := 34) (kx_dd d_Mo_readKind 20 rfl) rfl rfl ?_
    refine kt_iconst (pc := 35) (v := -1) (kx_dd d_Mo_readKind 21 rfl) rfl ?_
    refine kt_icmp_ne (pc := 36) (tgt := 100) (kx_dd d_Mo_readKind 22 rfl) rfl (fun c36 => ?_) (fun c36 => ?_)
    · skip
      refine kt_aload_n (pc := 100) (kx_dd d_Mo_readKind 65 rfl) rfl rfl ?_
      refine kt_invV (pc := 101) (a := 84) (as := []) (kx_dd d_Mo_readKind 66 rfl) ⟨lk_Mo_77, wi_Mo_scan, we_Mo_scan⟩ w_Mo_scan (hm.k 0 rfl) rfl rfl rfl rfl (Nat.le_of_ble_eq_true rfl) (y_scan (d := d + 1) hR1.1 b n (tE b n i) hR1.2.1.1 hR1.2.1.2 (tE_n hR1.2.2.1).1 hR1.2.2.2.1.1) (Nat.le_refl _) ⟨Nat.le_refl _, Nat.le_refl _⟩ (fun v h' hq => ?_)
      revert h'
      intro h2 hq
      obtain ⟨rfl, hts9, hfs9⟩ := hq
      have hR2 := hR1.scan hts9 hfs9
      have hF2 : kx_Fc FrD h1 h2 := kx_Fc.fs hfs9
      have hm := hR2.1
      refine kt_iload_n (pc := 104) (kx_dd d_Mo_readKind 67 rfl) rfl rfl ?_
      refine kt_ofX (kx_iret (pc := 105) rfl (kx_dd d_Mo_readKind 68 rfl) (Nat.le_refl _) (Nat.le_refl _) ?_)
      rw [oI_n (fun k z => by have := hkl k z; omega)] at c36
      obtain ⟨k9, hk9⟩ := Option.ne_none_iff_exists'.mp c36
      have e9 : kdF b n i r = .inr (k9, r, tE b n i) := by
        unfold kdF
        rw [if_pos c5, hk9]
      exact ⟨_, e9, by rw [hk9]; rfl, hkl k9 hk9, _, _, rfl, hR2, (kx_Fc.kw hfw).tr (kx_Fc.ks hfs9)⟩
    · have e91 : h1.1 91 4 = nI (ruK r) := hR1.2.2.2.2.2.1.2.2.1
      refine kt_aload_n (pc := 39) (kx_dd d_Mo_readKind 23 rfl) rfl rfl ?_
      refine kt_getR (pc := 40) (b := 91) fl_Mo_91 (hm.k 0 rfl) rfl (hm.r 6 rfl) (kx_dd d_Mo_readKind 24 rfl) ?_
      refine kt_iconst (pc := 43) (v := 4) (kx_dd d_Mo_readKind 25 rfl) rfl ?_
      refine kt_ialdn (pc := 44) 4 (hm.t 7 rfl) rfl (by decide) (by decide) (kx_dd d_Mo_readKind 26 rfl) ?_
      refine kt_bipush (pc := 45) (v := 16) (kx_dd d_Mo_readKind 27 rfl) rfl ?_
      refine kt_icmp_ne (pc := 47) (tgt := 56) (kx_dd d_Mo_readKind 28 rfl) rfl (fun c47 => ?_) (fun c47 => ?_)
      · refine kt_aload_n (pc := 56) (kx_dd d_Mo_readKind 33 rfl) rfl rfl ?_
        refine kt_getR (pc := 57) (b := 91) fl_Mo_91 (hm.k 0 rfl) rfl (hm.r 6 rfl) (kx_dd d_Mo_readKind 34 rfl) ?_
        refine kt_iconst (pc := 60) (v := 4) (kx_dd d_Mo_readKind 35 rfl) rfl ?_
        refine kt_ialdn (pc := 61) 4 (hm.t 7 rfl) rfl (by decide) (by decide) (kx_dd d_Mo_readKind 36 rfl) ?_
        refine kt_istore_ne (pc := 62) (lv' := [_, _, _]) (kx_dd d_Mo_readKind 37 rfl) rfl (Nat.le_of_ble_eq_true rfl) rfl ?_
        have c36b := c36
        rw [oI_n (fun k z => by have := hkl k z; omega)] at c36b
        have c47b := c47
        rw [e91, show (16 : Int32) = nI 16 from rfl, nI_eq (by omega) (by decide)] at c47b
        rw [e91]
        refine kt_aload_n (pc := 63) (kx_dd d_Mo_readKind 38 rfl) rfl rfl ?_
        refine kt_getR (pc := 64) (b := 92) fl_Mo_103 (hm.k 0 rfl) rfl (hm.r 7 rfl) (kx_dd d_Mo_readKind 39 rfl) ?_
        refine kt_bipush (pc := 67) (v := 64) (kx_dd d_Mo_readKind 40 rfl) rfl ?_
        refine kt_iload_n (pc := 69) (kx_dd d_Mo_readKind 41 rfl) rfl rfl ?_
        refine kt_iadd (pc := 70) (kx_dd d_Mo_readKind 42 rfl) ?_
        refine kt_iload_n (pc := 71) (kx_dd d_Mo_readKind 43 rfl) rfl rfl ?_
        refine kt_iastn (pc := 72) (64 + ruK r) (hm.t 8 rfl) (by decide) (nI_add 64 _) (by omega) (by decide) (kx_dd d_Mo_readKind 44 rfl) ?_
        refine kt_aload_n (pc := 73) (kx_dd d_Mo_readKind 45 rfl) rfl rfl ?_
        refine kt_getR (pc := 74) (b := 93) fl_Mo_109 (hm.k 0 rfl) rfl (hm.r 8 rfl) (kx_dd d_Mo_readKind 46 rfl) ?_
        refine kt_bipush (pc := 77) (v := 64) (kx_dd d_Mo_readKind 47 rfl) rfl ?_
        refine kt_iload_n (pc := 79) (kx_dd d_Mo_readKind 48 rfl) rfl rfl ?_
        refine kt_iadd (pc := 80) (kx_dd d_Mo_readKind 49 rfl) ?_
        refine kt_iconst (pc := 81) (v := 0) (kx_dd d_Mo_readKind 50 rfl) rfl ?_
        refine kt_iastn (pc := 82) (64 + ruK r) (hm.t 9 rfl) (by decide) (nI_add 64 _) (by omega) (by decide) (kx_dd d_Mo_readKind 51 rfl) ?_
        refine kt_aload_n (pc := 83) (kx_dd d_Mo_readKind 52 rfl) rfl rfl ?_
        refine kt_getR (pc := 84) (b := 105) fl_Mo_112 (hm.k 0 rfl) rfl (hm.r 20 rfl) (kx_dd d_Mo_readKind 53 rfl) ?_
        refine kt_iload_n (pc := 87) (kx_dd d_Mo_readKind 54 rfl) rfl rfl ?_
        refine kt_iconst (pc := 88) (v := 0) (kx_dd d_Mo_readKind 55 rfl) rfl ?_
        refine kt_zastn (pc := 89) (ruK r) (hm.t 21 rfl) (by decide) rfl (by omega) (by decide) (kx_dd d_Mo_readKind 56 rfl) ?_
        refine kt_aload_n (pc := 90) (kx_dd d_Mo_readKind 57 rfl) rfl rfl ?_
        refine kt_getR (pc := 91) (b := 91) fl_Mo_91 (hm.k 0 rfl) rfl (hm.r 6 rfl) (kx_dd d_Mo_readKind 58 rfl) ?_
        refine kt_iconst (pc := 94) (v := 4) (kx_dd d_Mo_readKind 59 rfl) rfl ?_
        refine kt_dup2 (pc := 95) (kx_dd d_Mo_readKind 60 rfl) rfl rfl ?_
        refine kt_ialdn (pc := 96) 4 (hm.t 7 rfl) rfl (by decide) (by decide) (kx_dd d_Mo_readKind 61 rfl) ?_
        refine kt_iconst (pc := 97) (v := 1) (kx_dd d_Mo_readKind 62 rfl) rfl ?_
        refine kt_iadd (pc := 98) (kx_dd d_Mo_readKind 63 rfl) ?_
        refine kt_iastn (pc := 99) 4 (hm.t 7 rfl) (by decide) rfl (by decide) (by decide) (kx_dd d_Mo_readKind 64 rfl) ?_
        have eA : (kx_setI (kx_setI (kx_setI (kx_setI h1 92 (64 + ruK r) (nI j9)) 93 (64 + ruK r) 0) 105 (ruK r) (vp_nar .boolean 0)) 91 4 ((kx_setI (kx_setI (kx_setI h1 92 (64 + ruK r) (nI j9)) 93 (64 + ruK r) 0) 105 (ruK r) (vp_nar .boolean 0)).1 91 4 + 1)) = (kx_setI (kx_setI (kx_setI (kx_setI h1 92 (64 + ruK r) (nI j9)) 93 (64 + ruK r) 0) 105 (ruK r) 0) 91 4 (nI (ruK r + 1))) := by
          rw [setI_ne (Or.inl (by decide)), setI_ne (Or.inl (by decide)), setI_ne (Or.inl (by decide)), e91, nI_1]
          rfl
        rw [eA]
        have hk3 := hR1.kin (w := tW b n i) hwl.2 (by omega) hj1 hj2
        have hm := hk3.1.1
        refine kt_aload_n (pc := 100) (kx_dd d_Mo_readKind 65 rfl) rfl rfl ?_
        refine kt_invV (pc := 101) (a := 84) (as := []) (kx_dd d_Mo_readKind 66 rfl) ⟨lk_Mo_77, wi_Mo_scan, we_Mo_scan⟩ w_Mo_scan (hm.k 0 rfl) rfl rfl rfl rfl (Nat.le_of_ble_eq_true rfl) (y_scan (d := d + 1) hk3.1.1 b n (tE b n i) hk3.1.2.1.1 hk3.1.2.1.2 (tE_n hk3.1.2.2.1).1 hk3.1.2.2.2.1.1) (Nat.le_refl _) ⟨Nat.le_refl _, Nat.le_refl _⟩ (fun v h' hq => ?_)
        revert h'
        intro h3 hq
        obtain ⟨rfl, hts9, hfs9⟩ := hq
        have hR3 := hk3.1.scan hts9 hfs9
        have hF3 := kx_Fc.fs hfs9
        have hm := hR3.1
        refine kt_iload_n (pc := 104) (kx_dd d_Mo_readKind 67 rfl) rfl rfl ?_
        refine kt_ofX (kx_iret (pc := 105) rfl (kx_dd d_Mo_readKind 68 rfl) (Nat.le_refl _) (Nat.le_refl _) ?_)
        rw [oI_n (fun k z => by have := hkl k z; omega)] at c36
        rw [e91, show (16 : Int32) = nI 16 from rfl, nI_eq (by omega) (by decide)] at c47
        have e9 : kdF b n i r = .inr (ruK r, ruKin r (tW b n i), tE b n i) := by
          unfold kdF
          rw [if_pos c5, c36]
          exact if_neg c47
        exact ⟨_, e9, rfl, by show ruK r < ruK r + 1; omega, _, _, rfl, hR3, ((kx_Fc.kw hfw).tr hk3.2).tr (kx_Fc.ks hfs9)⟩
      · refine kt_aload_n (pc := 50) (kx_dd d_Mo_readKind 29 rfl) rfl rfl ?_
        refine kt_iconst (pc := 51) (v := 4) (kx_dd d_Mo_readKind 30 rfl) rfl ?_
        refine kt_invV (pc := 52) (a := 84) (as := [_]) (kx_dd d_Mo_readKind 31 rfl) ⟨lk_Mo_73, wi_Mo_wrong, we_Mo_wrong⟩ w_Mo_wrong (hm.k 0 rfl) rfl rfl rfl rfl (Nat.le_of_ble_eq_true rfl) (y_wrong (d := d + 2) hm (nI 4)) (Nat.le_refl _) ⟨Nat.le_refl _, Nat.le_refl _⟩ (fun v h' hq => ?_)
        revert h'
        intro h9 hq
        obtain ⟨rfl, rfl⟩ := hq
        refine kt_athrow (kx_dd d_Mo_readKind 32 rfl) rfl (Nat.le_refl _) (Nat.le_refl _) ?_
        rw [oI_n (fun k z => by have := hkl k z; omega)] at c36
        rw [e91, show (16 : Int32) = nI 16 from rfl, nI_eq (by omega) (by decide)] at c47
        have e9 : kdF b n i r = .inl (4, tP b n i) := by
          unfold kdF
          rw [if_pos c5, c36]
          exact if_pos c47
        exact ⟨_, e9, (hR1.fau 4).up waF_ex (by unfold bgw; split <;> omega) hF1⟩
  · refine kt_aload_n (pc := 8) (kx_dd d_Mo_readKind 4 rfl) rfl rfl ?_
    refine kt_iconst (pc := 9) (v := 1) (kx_dd d_Mo_readKind 5 rfl) rfl ?_
    refine kt_invV (pc := 10) (a := 84) (as := [_]) (kx_dd d_Mo_readKind 6 rfl) ⟨lk_Mo_73, wi_Mo_wrong, we_Mo_wrong⟩ w_Mo_wrong (hm.k 0 rfl) rfl rfl rfl rfl (Nat.le_of_ble_eq_true rfl) (y_wrong (d := d + 2) hm (nI 1)) (Nat.le_refl _) ⟨Nat.le_refl _, Nat.le_refl _⟩ (fun v h' hq => ?_)
    revert h'
    intro h9 hq
    obtain ⟨rfl, rfl⟩ := hq
    refine kt_athrow (kx_dd d_Mo_readKind 7 rfl) rfl (Nat.le_refl _) (Nat.le_refl _) ?_
    rw [k2, show (1 : Int32) = nI 1 from rfl, nI_eq (by omega) (by decide)] at c5
    exact ⟨_, (show kdF b n i r = .inl (1, tP b n i) from if_neg c5), (hR.fau 1).up WEx.rf (by omega) kx_Fc.rf⟩
