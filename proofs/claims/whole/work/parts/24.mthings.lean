/-! the reference: things -/
/-- only ints at some places have changed -/
def kx_Fc (P : Nat → Nat → Prop) (h h' : kx_Mem) : Prop := h'.2 = h.2 ∧ ∀ a j, ¬ P a j → h'.1 a j = h.1 a j
theorem kx_Fc.rf {P : Nat → Nat → Prop} {h : kx_Mem} : kx_Fc P h h := ⟨rfl, fun _ _ _ => rfl⟩
theorem kx_Fc.tr {P : Nat → Nat → Prop} {h h1 h2 : kx_Mem} (a : kx_Fc P h h1) (b : kx_Fc P h1 h2) : kx_Fc P h h2 := ⟨b.1.trans a.1, fun x j hx => (b.2 x j hx).trans (a.2 x j hx)⟩
theorem kx_Fc.mono {P P' : Nat → Nat → Prop} {h h1 : kx_Mem} (a : kx_Fc P h h1) (hP : ∀ a j, P a j → P' a j) : kx_Fc P' h h1 := ⟨a.1, fun x j hx => a.2 x j (fun z => hx (hP x j z))⟩
theorem kx_Fc.set {P : Nat → Nat → Prop} {h : kx_Mem} {a j : Nat} {v : Int32} (ha : P a j) : kx_Fc P h (kx_setI h a j v) := ⟨rfl, fun b i hb => by
  show kx_up h.1 a j v b i = h.1 b i
  unfold kx_up
  split
  next e =>
    split
    next e' => rw [e, e'] at hb; exact absurd ha hb
    next => rfl
  next => rfl⟩
theorem kx_SS.fc {R T : List (Nat × Nat × Nat)} {P : Nat → Nat → Prop} {h h' : kx_Mem} (hs : kx_SS R T h) (hf : kx_Fc P h h') : kx_SS R T h' := by
  unfold kx_SS
  rw [hf.1]
  exact hs
theorem kx_Fr.c {X : List Nat} {P : Nat → Nat → Prop} {h h' : kx_Mem} (hf : kx_Fr X h h') (hX : ∀ a ∈ X, ∀ j, P a j) : kx_Fc P h h' := ⟨hf.1, fun a j ha => by rw [hf.2 a (fun q => ha (hX a q j))]⟩
theorem kx_Fp.c {Q : Nat → Prop} {P : Nat → Nat → Prop} {h h' : kx_Mem} (hf : kx_Fp Q h h') (hX : ∀ a, Q a → ∀ j, P a j) : kx_Fc P h h' := ⟨hf.1, fun a j ha => by rw [hf.2 a (fun q => ha (hX a q j))]⟩
theorem TSm.fc {s : TS} {P : Nat → Nat → Prop} {h h' : kx_Mem} (hp : TSm s h) (hf : kx_Fc P h h') (h0 : ¬ P 84 50) (hX : ∀ a, 118 ≤ a → a ≤ 120 → ∀ j, ¬ P a j) : TSm s h' := by
  refine ⟨(hf.2 84 50 h0).trans hp.1, fun k hk => ?_⟩
  rw [hf.2 118 k (hX 118 (by decide) (by decide) k), hf.2 119 k (hX 119 (by decide) (by decide) k), hf.2 120 k (hX 120 (by decide) (by decide) k)]
  exact hp.2 k hk
theorem nI_z {n : Nat} (h : n < 2 ^ 31) : nI n = 0 ↔ n = 0 := nI_eq (b := 0) h (by decide)
def FT (a j : Nat) : Prop := a = 121 ∨ (a = 84 ∧ j = 57)
theorem TSm.ft {s : TS} {h h' : kx_Mem} (hp : TSm s h) (hf : kx_Fc FT h h') : TSm s h' := hp.fc hf (by simp [FT]) (fun a h1 h2 j => by simp only [FT]; omega)
theorem y_isThing {l : Launch} {g : kx_G} {d : Nat} {h : kx_Mem} (hm : SM h) (n : Nat) (hn : n < 2 ^ 30) (h0 : h.1 84 50 = nI n) (q : Int32) : kx_Sp l g m_Mo_isThing [.ref 84, .int q] h (d + 1) 0 0 (fun v h' => v = some (.int (bP (0 ≤ q ∧ q < h.1 84 50))) ∧ h' = h) := by
  refine kx_enter_e (lv := [_, _]) (by decide +kernel) (Nat.le_of_ble_eq_true rfl) rfl ?_
  refine kx_iload_n (pc := 0) (kx_dd d_Mo_isThing 0 rfl) rfl rfl ?_
  refine kx_i2l (pc := 1) (kx_dd d_Mo_isThing 1 rfl) ?_
  refine kx_lconst (pc := 2) (v := 0) (kx_dd d_Mo_isThing 2 rfl) rfl ?_
  refine kx_aload_n (pc := 3) (kx_dd d_Mo_isThing 3 rfl) rfl rfl ?_
  refine kx_getI (pc := 4) fl_Mo_483 (hm.k 0 rfl) rfl (kx_dd d_Mo_isThing 4 rfl) ?_
  rw [h0]
  refine kx_i2l (pc := 7) (kx_dd d_Mo_isThing 5 rfl) ?_
  refine kx_lconst (pc := 8) (v := 1) (kx_dd d_Mo_isThing 6 rfl) rfl ?_
  refine kx_lsub (pc := 9) (kx_dd d_Mo_isThing 7 rfl) ?_
  refine kx_invS (pc := 10) (as := [_, _, _]) (kx_dd d_Mo_isThing 8 rfl) ⟨lk_Mo_5, wt_Mo_in⟩ w_Mo_in rfl rfl (Nat.le_of_ble_eq_true rfl) (y_in (d := d) _ _ _) (Nat.le_refl _) ⟨Nat.le_refl _, Nat.le_refl _⟩ (fun v h' hq => ?_)
  obtain ⟨rfl, he⟩ := hq
  rw [he]
  clear he
  refine kx_zret (pc := 13) rfl (nar_bP _) (kx_dd d_Mo_isThing 9 rfl) (Nat.le_refl _) (Nat.le_refl _) ?_
  exact ⟨congrArg _ (congrArg _ (bP_c (by rw [w_le0, w_pred hn]))), rfl⟩
theorem y_sort_in {l : Launch} {g : kx_G} {d : Nat} {h0 h9 : kx_Mem} (hm0 : SM h0) (s : TS) (ho : TSok s) (hp0 : TSm s h0) (q k c : Nat) (f1 : Int32) (hk : k < s.1) (hw0 : ¬ s.2.2.2 k = 0) (hc : c < 30) (Q : Option Value → kx_Mem → Prop) (R : Nat → Nat)
  (kont : ∀ i h', (∀ j, j < c + 1 → h'.1 121 j = nI (R j)) → kx_Fc (fun a _ => a = 121) h0 h' → kx_X (l, g, m_Mo_sortLikes, d + 1, 0, 0, Q) 0 0 162 [some (.ref 84), some (.int (nI q)), some (.int f1), some (.int (nI k)), some (.int i)] [] h') :
  ∀ n, n ≤ c → ∀ (a : Nat → Nat) (h : kx_Mem), kx_Fc (fun a _ => a = 121) h0 h → (∀ j, a j ≤ 999999) → (∀ j, j < c + 1 → j ≠ n → h.1 121 j = nI (a j)) → R = insF a (s.2.2.2 k) n → kx_X (l, g, m_Mo_sortLikes, d + 1, 0, 0, Q) 0 0 104 [some (.ref 84), some (.int (nI q)), some (.int f1), some (.int (nI k)), some (.int (nI n))] [] h := by
  have o1 := (ho.2 k hk).2.2
  have o2 := ho.1
  intro n
  induction n with
  | zero =>
    intro hn a h hf ha ha2 hR
    have hm := hm0.fc hf
    have hp := hp0.fc hf (by omega) (by intro a h1 h2 j; omega)
    obtain ⟨q1, q2, q3⟩ := hp.2 k hk
    rw [wI_n hw0] at q3
    refine kx_iload (pc := 104) (kx_dd d_Mo_sortLikes 60 rfl) rfl ?_
    refine kx_if_le (pc := 106) (tgt := 149) (kx_dd d_Mo_sortLikes 61 rfl) rfl (fun c106 => ?_) (fun c106 => ?_)
    · refine kx_aload_n (pc := 149) (kx_dd d_Mo_sortLikes 85 rfl) rfl rfl ?_
      refine kx_getR (pc := 150) (b := 121) fl_Mo_321 (hm.k 0 rfl) rfl (hm.r 36 rfl) (kx_dd d_Mo_sortLikes 86 rfl) ?_
      refine kx_iload (pc := 153) (kx_dd d_Mo_sortLikes 87 rfl) rfl ?_
      refine kx_aload_n (pc := 155) (kx_dd d_Mo_sortLikes 88 rfl) rfl rfl ?_
      refine kx_getR (pc := 156) (b := 120) fl_Mo_318 (hm.k 0 rfl) rfl (hm.r 35 rfl) (kx_dd d_Mo_sortLikes 89 rfl) ?_
      refine kx_iload_n (pc := 159) (kx_dd d_Mo_sortLikes 90 rfl) rfl rfl ?_
      refine kx_ialdn (pc := 160) k (hm.t 36 rfl) rfl (by omega) (by decide) (kx_dd d_Mo_sortLikes 91 rfl) ?_
      refine kx_iastn (pc := 161) 0 (hm.t 37 rfl) (by decide) rfl (by omega) (by decide) (kx_dd d_Mo_sortLikes 92 rfl) ?_
      rw [q3]
      refine kont _ _ (fun j hj => ?_) (hf.tr (kx_Fc.set rfl))
      rw [hR]
      simp only [kx_setI, kx_up, insF, upF, if_true]
      split
      · rfl
      next e => exact ha2 j hj e
    · exact absurd (by decide) c106
  | succ n ih =>
    intro hn a h hf ha ha2 hR
    have hm := hm0.fc hf
    have hp := hp0.fc hf (by omega) (by intro a h1 h2 j; omega)
    obtain ⟨q1, q2, q3⟩ := hp.2 k hk
    rw [wI_n hw0] at q3
    have e0 := ha2 n (by omega) (by omega)
    have e1 := ha n
    refine kx_iload (pc := 104) (kx_dd d_Mo_sortLikes 60 rfl) rfl ?_
    refine kx_if_le (pc := 106) (tgt := 149) (kx_dd d_Mo_sortLikes 61 rfl) rfl (fun c106 => ?_) (fun c106 => ?_)
    · exact absurd c106 (by exact nI_nle (by omega) (by omega))
    · refine kx_aload_n (pc := 109) (kx_dd d_Mo_sortLikes 62 rfl) rfl rfl ?_
      refine kx_getR (pc := 110) (b := 121) fl_Mo_321 (hm.k 0 rfl) rfl (hm.r 36 rfl) (kx_dd d_Mo_sortLikes 63 rfl) ?_
      refine kx_iload (pc := 113) (kx_dd d_Mo_sortLikes 64 rfl) rfl ?_
      refine kx_iconst (pc := 115) (v := 1) (kx_dd d_Mo_sortLikes 65 rfl) rfl ?_
      refine kx_isub (pc := 116) (kx_dd d_Mo_sortLikes 66 rfl) ?_
      refine kx_ialdn (pc := 117) n (hm.t 37 rfl) (nI_pred n) (by omega) (by decide) (kx_dd d_Mo_sortLikes 67 rfl) ?_
      refine kx_aload_n (pc := 118) (kx_dd d_Mo_sortLikes 68 rfl) rfl rfl ?_
      refine kx_getR (pc := 119) (b := 120) fl_Mo_318 (hm.k 0 rfl) rfl (hm.r 35 rfl) (kx_dd d_Mo_sortLikes 69 rfl) ?_
      refine kx_iload_n (pc := 122) (kx_dd d_Mo_sortLikes 70 rfl) rfl rfl ?_
      refine kx_ialdn (pc := 123) k (hm.t 36 rfl) rfl (by omega) (by decide) (kx_dd d_Mo_sortLikes 71 rfl) ?_
      refine kx_icmp_le (pc := 124) (tgt := 149) (kx_dd d_Mo_sortLikes 72 rfl) rfl (fun c124 => ?_) (fun c124 => ?_)
      · refine kx_aload_n (pc := 149) (kx_dd d_Mo_sortLikes 85 rfl) rfl rfl ?_
        refine kx_getR (pc := 150) (b := 121) fl_Mo_321 (hm.k 0 rfl) rfl (hm.r 36 rfl) (kx_dd d_Mo_sortLikes 86 rfl) ?_
        refine kx_iload (pc := 153) (kx_dd d_Mo_sortLikes 87 rfl) rfl ?_
        refine kx_aload_n (pc := 155) (kx_dd d_Mo_sortLikes 88 rfl) rfl rfl ?_
        refine kx_getR (pc := 156) (b := 120) fl_Mo_318 (hm.k 0 rfl) rfl (hm.r 35 rfl) (kx_dd d_Mo_sortLikes 89 rfl) ?_
        refine kx_iload_n (pc := 159) (kx_dd d_Mo_sortLikes 90 rfl) rfl rfl ?_
        refine kx_ialdn (pc := 160) k (hm.t 36 rfl) rfl (by omega) (by decide) (kx_dd d_Mo_sortLikes 91 rfl) ?_
        refine kx_iastn (pc := 161) (n + 1) (hm.t 37 rfl) (by decide) rfl (by omega) (by decide) (kx_dd d_Mo_sortLikes 92 rfl) ?_
        rw [q3]
        rw [e0, q3, nI_leI (by omega) (by omega)] at c124
        refine kont _ _ (fun j hj => ?_) (hf.tr (kx_Fc.set rfl))
        rw [hR]
        simp only [insF, if_neg (show ¬ s.2.2.2 k < a n by omega), upF]
        simp only [kx_setI, kx_up, if_true]
        split
        · rfl
        next e => exact ha2 j hj e
      · refine kx_aload_n (pc := 127) (kx_dd d_Mo_sortLikes 73 rfl) rfl rfl ?_
        refine kx_getR (pc := 128) (b := 121) fl_Mo_321 (hm.k 0 rfl) rfl (hm.r 36 rfl) (kx_dd d_Mo_sortLikes 74 rfl) ?_
        refine kx_iload (pc := 131) (kx_dd d_Mo_sortLikes 75 rfl) rfl ?_
        refine kx_aload_n (pc := 133) (kx_dd d_Mo_sortLikes 76 rfl) rfl rfl ?_
        refine kx_getR (pc := 134) (b := 121) fl_Mo_321 (hm.k 0 rfl) rfl (hm.r 36 rfl) (kx_dd d_Mo_sortLikes 77 rfl) ?_
        refine kx_iload (pc := 137) (kx_dd d_Mo_sortLikes 78 rfl) rfl ?_
        refine kx_iconst (pc := 139) (v := 1) (kx_dd d_Mo_sortLikes 79 rfl) rfl ?_
        refine kx_isub (pc := 140) (kx_dd d_Mo_sortLikes 80 rfl) ?_
        refine kx_ialdn (pc := 141) n (hm.t 37 rfl) (nI_pred n) (by omega) (by decide) (kx_dd d_Mo_sortLikes 81 rfl) ?_
        refine kx_iastn (pc := 142) (n + 1) (hm.t 37 rfl) (by decide) rfl (by omega) (by decide) (kx_dd d_Mo_sortLikes 82 rfl) ?_
        refine kx_iinc_e (pc := 143) (v := nI n) (lv' := [_, _, _, _, _]) (kx_dd d_Mo_sortLikes 83 rfl) rfl (Nat.le_of_ble_eq_true rfl) (nI_dn n) rfl ?_
        refine kx_goto (pc := 146) (tgt := 104) (kx_dd d_Mo_sortLikes 84 rfl) rfl ?_
        rw [e0, q3, nI_leI (by omega) (by omega)] at c124
        rw [e0]
        refine ih (by omega) (upF a (n + 1) (a n)) _ (hf.tr (kx_Fc.set rfl)) (fun j => ?_) (fun j hj hj2 => ?_) ?_
        · unfold upF; split
          · exact e1
          · exact ha j
        · simp only [kx_setI, kx_up, upF, if_true]
          split
          · rfl
          next e => exact ha2 j hj e
        · rw [hR]; simp only [insF, if_pos (show s.2.2.2 k < a n by omega)]
theorem y_sort_loop {l : Launch} {g : kx_G} {d : Nat} {h : kx_Mem} (hm : SM h) (s : TS) (ho : TSok s) (hp : TSm s h) (q : Nat) (hqq : q < s.1) : ∀ n k, k + n = s.1 → ∀ w4 h1, kx_Fc FT h h1 → h1.1 84 57 = nI (likK s (s.2.2.1 q) (fewK 99 s (s.2.2.1 q) s.1) k).1 → (∀ j, j < (likK s (s.2.2.1 q) (fewK 99 s (s.2.2.1 q) s.1) k).1 → h1.1 121 j = nI ((likK s (s.2.2.1 q) (fewK 99 s (s.2.2.1 q) s.1) k).2 j)) → kx_X (l, g, m_Mo_sortLikes, d + 1, 0, 0, (fun v h' => v = none ∧ h'.1 84 57 = nI (likK s (s.2.2.1 q) (fewK 99 s (s.2.2.1 q) s.1) s.1).1 ∧ (∀ j, j < (likK s (s.2.2.1 q) (fewK 99 s (s.2.2.1 q) s.1) s.1).1 → h'.1 121 j = nI ((likK s (s.2.2.1 q) (fewK 99 s (s.2.2.1 q) s.1) s.1).2 j)) ∧ kx_Fc FT h h')) 0 0 57 [some (.ref 84), some (.int (nI q)), some (.int (nI (fewK 99 s (s.2.2.1 q) s.1))), some (.int (nI k)), w4] [] (h1) := by
  intro n
  induction n with
  | zero =>
    intro k hk w4 h1 hf hr0 hr
    have hk0 : k = s.1 := by omega
    subst hk0
    have hm := hm.fc hf
    have hp := hp.ft hf
    refine kx_iload_n (pc := 57) (kx_dd d_Mo_sortLikes 34 rfl) rfl rfl ?_
    refine kx_aload_n (pc := 58) (kx_dd d_Mo_sortLikes 35 rfl) rfl rfl ?_
    refine kx_getI (pc := 59) fl_Mo_483 (hm.k 0 rfl) rfl (kx_dd d_Mo_sortLikes 36 rfl) ?_
    refine kx_icmp_ge (pc := 62) (tgt := 178) (kx_dd d_Mo_sortLikes 37 rfl) rfl (fun c62 => ?_) (fun c62 => ?_)
    · refine kx_vret (pc := 178) rfl (kx_dd d_Mo_sortLikes 101 rfl) (Nat.le_refl _) (Nat.le_refl _) ?_
      exact ⟨rfl, hr0, hr, hf⟩
    · exact absurd (by rw [hp.1]; exact Int32.le_refl _) c62
  | succ n ih =>
    intro k hk w4 h1 hf hr0 hr
    have hm := hm.fc hf
    have hp := hp.ft hf
    obtain ⟨q1, q2, q3⟩ := hp.2 k (by omega)
    obtain ⟨t1, t2, t3⟩ := hp.2 q hqq
    have o1 := ho.2 k (by omega)
    have o1q := ho.2 q hqq
    have o2 := ho.1
    have hx := xor_lt (n := 8) (show s.2.2.1 k < 2 ^ 8 by omega) (show s.2.2.1 q < 2 ^ 8 by omega)
    have of := fewK_le (F := 99) (s := s) (m := s.2.2.1 q) s.1
    have ob := bc_le (s.2.2.1 k ^^^ s.2.2.1 q)
    have ol := likK_le ho (m := (s.2.2.1 q)) (f := (fewK 99 s (s.2.2.1 q) s.1)) k (by omega)
    refine kx_iload_n (pc := 57) (kx_dd d_Mo_sortLikes 34 rfl) rfl rfl ?_
    refine kx_aload_n (pc := 58) (kx_dd d_Mo_sortLikes 35 rfl) rfl rfl ?_
    refine kx_getI (pc := 59) fl_Mo_483 (hm.k 0 rfl) rfl (kx_dd d_Mo_sortLikes 36 rfl) ?_
    refine kx_icmp_ge (pc := 62) (tgt := 178) (kx_dd d_Mo_sortLikes 37 rfl) rfl (fun c62 => ?_) (fun c62 => ?_)
    · exact absurd c62 (by rw [hp.1]; exact nI_ge (by omega) (by omega))
    · refine kx_aload_n (pc := 65) (kx_dd d_Mo_sortLikes 38 rfl) rfl rfl ?_
      refine kx_getR (pc := 66) (b := 120) fl_Mo_318 (hm.k 0 rfl) rfl (hm.r 35 rfl) (kx_dd d_Mo_sortLikes 39 rfl) ?_
      refine kx_iload_n (pc := 69) (kx_dd d_Mo_sortLikes 40 rfl) rfl rfl ?_
      refine kx_ialdn (pc := 70) k (hm.t 36 rfl) rfl (by omega) (by decide) (kx_dd d_Mo_sortLikes 41 rfl) ?_
      refine kx_iconst (pc := 71) (v := -1) (kx_dd d_Mo_sortLikes 42 rfl) rfl ?_
      refine kx_icmp_eq (pc := 72) (tgt := 172) (kx_dd d_Mo_sortLikes 43 rfl) rfl (fun c72 => ?_) (fun c72 => ?_)
      · refine kx_iinc_e (pc := 172) (v := nI (k + 1)) (lv' := [_, _, _, _, _]) (kx_dd d_Mo_sortLikes 99 rfl) rfl (Nat.le_of_ble_eq_true rfl) (nI_1 k) rfl ?_
        refine kx_goto (pc := 175) (tgt := 57) (kx_dd d_Mo_sortLikes 100 rfl) rfl ?_
        rw [q3, wI_1 (by omega)] at c72
        have e1 : likK s (s.2.2.1 q) (fewK 99 s (s.2.2.1 q) s.1) (k + 1) = (likK s (s.2.2.1 q) (fewK 99 s (s.2.2.1 q) s.1) k) := if_pos (Or.inl c72)
        have ih1 := ih (k + 1) (by omega) w4 h1 hf (by rw [e1]; exact hr0) (by rw [e1]; exact hr)
        exact ih1
      · refine kx_aload_n (pc := 75) (kx_dd d_Mo_sortLikes 44 rfl) rfl rfl ?_
        refine kx_getR (pc := 76) (b := 119) fl_Mo_315 (hm.k 0 rfl) rfl (hm.r 34 rfl) (kx_dd d_Mo_sortLikes 45 rfl) ?_
        refine kx_iload_n (pc := 79) (kx_dd d_Mo_sortLikes 46 rfl) rfl rfl ?_
        refine kx_ialdn (pc := 80) k (hm.t 35 rfl) rfl (by omega) (by decide) (kx_dd d_Mo_sortLikes 47 rfl) ?_
        refine kx_aload_n (pc := 81) (kx_dd d_Mo_sortLikes 48 rfl) rfl rfl ?_
        refine kx_getR (pc := 82) (b := 119) fl_Mo_315 (hm.k 0 rfl) rfl (hm.r 34 rfl) (kx_dd d_Mo_sortLikes 49 rfl) ?_
        refine kx_iload_n (pc := 85) (kx_dd d_Mo_sortLikes 50 rfl) rfl rfl ?_
        refine kx_ialdn (pc := 86) q (hm.t 35 rfl) rfl (by omega) (by decide) (kx_dd d_Mo_sortLikes 51 rfl) ?_
        refine kx_ixor (pc := 87) (kx_dd d_Mo_sortLikes 52 rfl) ?_
        rw [q2, t2, nI_xor]
        refine kx_invS (pc := 88) (as := [_]) (kx_dd d_Mo_sortLikes 53 rfl) ⟨lk_Mo_486, wt_Mo_bits⟩ w_Mo_bits rfl rfl (Nat.le_of_ble_eq_true rfl) (y_bits (d := d) (s.2.2.1 k ^^^ s.2.2.1 q) (by omega)) (Nat.le_refl _) ⟨Nat.le_refl _, Nat.le_refl _⟩ (fun v h' hq => ?_)
        obtain ⟨rfl, he⟩ := hq
        rw [he]
        clear he
        refine kx_iload_n (pc := 91) (kx_dd d_Mo_sortLikes 54 rfl) rfl rfl ?_
        refine kx_icmp_eq (pc := 92) (tgt := 98) (kx_dd d_Mo_sortLikes 55 rfl) rfl (fun c92 => ?_) (fun c92 => ?_)
        · refine kx_aload_n (pc := 98) (kx_dd d_Mo_sortLikes 57 rfl) rfl rfl ?_
          refine kx_getI (pc := 99) fl_Mo_494 (hm.k 0 rfl) rfl (kx_dd d_Mo_sortLikes 58 rfl) ?_
          refine kx_istore_e (pc := 102) (lv' := [_, _, _, _, _]) (kx_dd d_Mo_sortLikes 59 rfl) (Nat.le_of_ble_eq_true rfl) rfl ?_
          rw [q3, wI_1 (by omega)] at c72
          rw [nI_eq (by omega) (by omega)] at c92
          rw [hr0]
          have e1 : likK s (s.2.2.1 q) (fewK 99 s (s.2.2.1 q) s.1) (k + 1) = ((likK s (s.2.2.1 q) (fewK 99 s (s.2.2.1 q) s.1) k).1 + 1, insF (likK s (s.2.2.1 q) (fewK 99 s (s.2.2.1 q) s.1) k).2 (s.2.2.2 k) (likK s (s.2.2.1 q) (fewK 99 s (s.2.2.1 q) s.1) k).1) := if_neg (by simp [c72, c92])
          refine y_sort_in (h9 := h1) hm s ho hp q k (likK s (s.2.2.1 q) (fewK 99 s (s.2.2.1 q) s.1) k).1 _ (by omega) c72 (by omega) _ (insF (likK s (s.2.2.1 q) (fewK 99 s (s.2.2.1 q) s.1) k).2 (s.2.2.2 k) (likK s (s.2.2.1 q) (fewK 99 s (s.2.2.1 q) s.1) k).1) (fun i h2 hr2 hf2 => ?_) (likK s (s.2.2.1 q) (fewK 99 s (s.2.2.1 q) s.1) k).1 (Nat.le_refl _) (likK s (s.2.2.1 q) (fewK 99 s (s.2.2.1 q) s.1) k).2 h1 kx_Fc.rf ol.2 (fun j hj hj2 => hr j (by omega)) rfl
          have hm2 := hm.fc hf2
          have hs2 := hf2.2 84 57 (by omega)
          refine kx_aload_n (pc := 162) (kx_dd d_Mo_sortLikes 93 rfl) rfl rfl ?_
          refine kx_dup (pc := 163) (kx_dd d_Mo_sortLikes 94 rfl) rfl ?_
          refine kx_getI (pc := 164) fl_Mo_494 (hm2.k 0 rfl) rfl (kx_dd d_Mo_sortLikes 95 rfl) ?_
          refine kx_iconst (pc := 167) (v := 1) (kx_dd d_Mo_sortLikes 96 rfl) rfl ?_
          refine kx_iadd (pc := 168) (kx_dd d_Mo_sortLikes 97 rfl) ?_
          refine kx_putI (pc := 169) fl_Mo_494 (hm2.k 0 rfl) (by decide) rfl rfl (kx_dd d_Mo_sortLikes 98 rfl) ?_
          refine kx_iinc_e (pc := 172) (v := nI (k + 1)) (lv' := [_, _, _, _, _]) (kx_dd d_Mo_sortLikes 99 rfl) rfl (Nat.le_of_ble_eq_true rfl) (nI_1 k) rfl ?_
          refine kx_goto (pc := 175) (tgt := 57) (kx_dd d_Mo_sortLikes 100 rfl) rfl ?_
          rw [hs2, hr0, nI_1]
          refine ih (k + 1) (by omega) _ _ ((hf.tr (hf2.mono (fun a j e => Or.inl e))).tr (kx_Fc.set (Or.inr ⟨rfl, rfl⟩))) ?_ ?_
          · rw [e1]; simp [kx_setI, kx_up]
          · rw [e1]; intro j hj; rw [← hr2 j hj]; simp [kx_setI, kx_up]
        · refine kx_goto (pc := 95) (tgt := 172) (kx_dd d_Mo_sortLikes 56 rfl) rfl ?_
          refine kx_iinc_e (pc := 172) (v := nI (k + 1)) (lv' := [_, _, _, _, _]) (kx_dd d_Mo_sortLikes 99 rfl) rfl (Nat.le_of_ble_eq_true rfl) (nI_1 k) rfl ?_
          refine kx_goto (pc := 175) (tgt := 57) (kx_dd d_Mo_sortLikes 100 rfl) rfl ?_
          rw [nI_eq (by omega) (by omega)] at c92
          have e1 : likK s (s.2.2.1 q) (fewK 99 s (s.2.2.1 q) s.1) (k + 1) = (likK s (s.2.2.1 q) (fewK 99 s (s.2.2.1 q) s.1) k) := if_pos (Or.inr c92)
          have ih1 := ih (k + 1) (by omega) w4 h1 hf (by rw [e1]; exact hr0) (by rw [e1]; exact hr)
          exact ih1
theorem y_sort_few {l : Launch} {g : kx_G} {d : Nat} {h : kx_Mem} (hm : SM h) (s : TS) (ho : TSok s) (hp : TSm s h) (q : Nat) (hqq : q < s.1) : ∀ n k, k + n = s.1 →  kx_X (l, g, m_Mo_sortLikes, d + 1, 0, 0, (fun v h' => v = none ∧ h'.1 84 57 = nI (likK s (s.2.2.1 q) (fewK 99 s (s.2.2.1 q) s.1) s.1).1 ∧ (∀ j, j < (likK s (s.2.2.1 q) (fewK 99 s (s.2.2.1 q) s.1) s.1).1 → h'.1 121 j = nI ((likK s (s.2.2.1 q) (fewK 99 s (s.2.2.1 q) s.1) s.1).2 j)) ∧ kx_Fc FT h h')) 0 0 5 [some (.ref 84), some (.int (nI q)), some (.int (nI (fewK 99 s (s.2.2.1 q) k))), some (.int (nI k)), none] [] (h) := by
  intro n
  induction n with
  | zero =>
    intro k hk 
    have hk0 : k = s.1 := by omega
    subst hk0
    refine kx_iload_n (pc := 5) (kx_dd d_Mo_sortLikes 4 rfl) rfl rfl ?_
    refine kx_aload_n (pc := 6) (kx_dd d_Mo_sortLikes 5 rfl) rfl rfl ?_
    refine kx_getI (pc := 7) fl_Mo_483 (hm.k 0 rfl) rfl (kx_dd d_Mo_sortLikes 6 rfl) ?_
    refine kx_icmp_ge (pc := 10) (tgt := 50) (kx_dd d_Mo_sortLikes 7 rfl) rfl (fun c10 => ?_) (fun c10 => ?_)
    · refine kx_aload_n (pc := 50) (kx_dd d_Mo_sortLikes 29 rfl) rfl rfl ?_
      refine kx_iconst (pc := 51) (v := 0) (kx_dd d_Mo_sortLikes 30 rfl) rfl ?_
      refine kx_putI (pc := 52) fl_Mo_494 (hm.k 0 rfl) (by decide) rfl rfl (kx_dd d_Mo_sortLikes 31 rfl) ?_
      refine kx_iconst (pc := 55) (v := 0) (kx_dd d_Mo_sortLikes 32 rfl) rfl ?_
      refine kx_istore_ne (pc := 56) (lv' := [_, _, _, _, _]) (kx_dd d_Mo_sortLikes 33 rfl) rfl (Nat.le_of_ble_eq_true rfl) rfl ?_
      have hf9 : kx_Fc FT h (kx_setI h 84 57 0) := kx_Fc.set (Or.inr ⟨rfl, rfl⟩)
      refine kx_mono (fun v h' hq => ⟨hq.1, hq.2.1, hq.2.2.1, hf9.tr hq.2.2.2⟩) (y_sort_loop (h := kx_setI h 84 57 0) (hm.fc hf9) s ho (hp.ft hf9) q hqq s.1 0 (by omega) _ _ kx_Fc.rf ?_ ?_)
      · simp [likK, kx_setI, kx_up, nI_0]
      · intro j hj; simp [likK] at hj
    · exact absurd (by rw [hp.1]; exact Int32.le_refl _) c10
  | succ n ih =>
    intro k hk 
    obtain ⟨q1, q2, q3⟩ := hp.2 k (by omega)
    obtain ⟨t1, t2, t3⟩ := hp.2 q hqq
    have o1 := ho.2 k (by omega)
    have o1q := ho.2 q hqq
    have o2 := ho.1
    have hx := xor_lt (n := 8) (show s.2.2.1 k < 2 ^ 8 by omega) (show s.2.2.1 q < 2 ^ 8 by omega)
    have of := fewK_le (F := 99) (s := s) (m := s.2.2.1 q) k
    have ob := bc_le (s.2.2.1 k ^^^ s.2.2.1 q)
    refine kx_iload_n (pc := 5) (kx_dd d_Mo_sortLikes 4 rfl) rfl rfl ?_
    refine kx_aload_n (pc := 6) (kx_dd d_Mo_sortLikes 5 rfl) rfl rfl ?_
    refine kx_getI (pc := 7) fl_Mo_483 (hm.k 0 rfl) rfl (kx_dd d_Mo_sortLikes 6 rfl) ?_
    refine kx_icmp_ge (pc := 10) (tgt := 50) (kx_dd d_Mo_sortLikes 7 rfl) rfl (fun c10 => ?_) (fun c10 => ?_)
    · exact absurd c10 (by rw [hp.1]; exact nI_ge (by omega) (by omega))
    · refine kx_aload_n (pc := 13) (kx_dd d_Mo_sortLikes 8 rfl) rfl rfl ?_
      refine kx_getR (pc := 14) (b := 120) fl_Mo_318 (hm.k 0 rfl) rfl (hm.r 35 rfl) (kx_dd d_Mo_sortLikes 9 rfl) ?_
      refine kx_iload_n (pc := 17) (kx_dd d_Mo_sortLikes 10 rfl) rfl rfl ?_
      refine kx_ialdn (pc := 18) k (hm.t 36 rfl) rfl (by omega) (by decide) (kx_dd d_Mo_sortLikes 11 rfl) ?_
      refine kx_iconst (pc := 19) (v := -1) (kx_dd d_Mo_sortLikes 12 rfl) rfl ?_
      refine kx_icmp_eq (pc := 20) (tgt := 44) (kx_dd d_Mo_sortLikes 13 rfl) rfl (fun c20 => ?_) (fun c20 => ?_)
      · refine kx_iinc_e (pc := 44) (v := nI (k + 1)) (lv' := [_, _, _, _, _]) (kx_dd d_Mo_sortLikes 27 rfl) rfl (Nat.le_of_ble_eq_true rfl) (nI_1 k) rfl ?_
        refine kx_goto (pc := 47) (tgt := 5) (kx_dd d_Mo_sortLikes 28 rfl) rfl ?_
        rw [q3, wI_1 (by omega)] at c20
        have e1 : fewK 99 s (s.2.2.1 q) (k + 1) = fewK 99 s (s.2.2.1 q) k := if_pos c20
        have ih1 := ih (k + 1) (by omega)
        rw [e1] at ih1
        exact ih1
      · refine kx_iload_n (pc := 23) (kx_dd d_Mo_sortLikes 14 rfl) rfl rfl ?_
        refine kx_aload_n (pc := 24) (kx_dd d_Mo_sortLikes 15 rfl) rfl rfl ?_
        refine kx_getR (pc := 25) (b := 119) fl_Mo_315 (hm.k 0 rfl) rfl (hm.r 34 rfl) (kx_dd d_Mo_sortLikes 16 rfl) ?_
        refine kx_iload_n (pc := 28) (kx_dd d_Mo_sortLikes 17 rfl) rfl rfl ?_
        refine kx_ialdn (pc := 29) k (hm.t 35 rfl) rfl (by omega) (by decide) (kx_dd d_Mo_sortLikes 18 rfl) ?_
        refine kx_aload_n (pc := 30) (kx_dd d_Mo_sortLikes 19 rfl) rfl rfl ?_
        refine kx_getR (pc := 31) (b := 119) fl_Mo_315 (hm.k 0 rfl) rfl (hm.r 34 rfl) (kx_dd d_Mo_sortLikes 20 rfl) ?_
        refine kx_iload_n (pc := 34) (kx_dd d_Mo_sortLikes 21 rfl) rfl rfl ?_
        refine kx_ialdn (pc := 35) q (hm.t 35 rfl) rfl (by omega) (by decide) (kx_dd d_Mo_sortLikes 22 rfl) ?_
        refine kx_ixor (pc := 36) (kx_dd d_Mo_sortLikes 23 rfl) ?_
        rw [q2, t2, nI_xor]
        refine kx_invS (pc := 37) (as := [_]) (kx_dd d_Mo_sortLikes 24 rfl) ⟨lk_Mo_486, wt_Mo_bits⟩ w_Mo_bits rfl rfl (Nat.le_of_ble_eq_true rfl) (y_bits (d := d) (s.2.2.1 k ^^^ s.2.2.1 q) (by omega)) (Nat.le_refl _) ⟨Nat.le_refl _, Nat.le_refl _⟩ (fun v h' hq => ?_)
        obtain ⟨rfl, he⟩ := hq
        rw [he]
        clear he
        refine kx_mmin (pc := 40) mk_Mo_489 (kx_dd d_Mo_sortLikes 25 rfl) (Nat.le_of_ble_eq_true rfl) (Nat.le_of_ble_eq_true rfl) (Nat.le_refl _) (Nat.le_refl _) ?_
        refine kx_istore_ne (pc := 43) (lv' := [_, _, _, _, _]) (kx_dd d_Mo_sortLikes 26 rfl) rfl (Nat.le_of_ble_eq_true rfl) rfl ?_
        refine kx_iinc_e (pc := 44) (v := nI (k + 1)) (lv' := [_, _, _, _, _]) (kx_dd d_Mo_sortLikes 27 rfl) rfl (Nat.le_of_ble_eq_true rfl) (nI_1 k) rfl ?_
        refine kx_goto (pc := 47) (tgt := 5) (kx_dd d_Mo_sortLikes 28 rfl) rfl ?_
        rw [q3, wI_1 (by omega)] at c20
        have e1 : nI (fewK 99 s (s.2.2.1 q) (k + 1)) = (if nI (bc (s.2.2.1 k ^^^ s.2.2.1 q)) < nI (fewK 99 s (s.2.2.1 q) k) then nI (bc (s.2.2.1 k ^^^ s.2.2.1 q)) else nI (fewK 99 s (s.2.2.1 q) k)) := by
          simp only [fewK, if_neg c20]
          by_cases z : bc (s.2.2.1 k ^^^ s.2.2.1 q) < fewK 99 s (s.2.2.1 q) k
          · rw [if_pos z, if_pos (nI_lt z (by omega))]
          · rw [if_neg z, if_neg (nI_nlt (by omega) (by omega))]
        rw [← e1]
        exact ih (k + 1) (by omega)
theorem y_sortLikes {l : Launch} {g : kx_G} {d : Nat} {h : kx_Mem} (hm : SM h) (s : TS) (ho : TSok s) (hp : TSm s h) (q : Nat) (hqq : q < s.1) : kx_Sp l g m_Mo_sortLikes [.ref 84, .int (nI q)] h (d + 1) 0 0 (fun v h' => v = none ∧ h'.1 84 57 = nI (likK s (s.2.2.1 q) (fewK 99 s (s.2.2.1 q) s.1) s.1).1 ∧ (∀ j, j < (likK s (s.2.2.1 q) (fewK 99 s (s.2.2.1 q) s.1) s.1).1 → h'.1 121 j = nI ((likK s (s.2.2.1 q) (fewK 99 s (s.2.2.1 q) s.1) s.1).2 j)) ∧ kx_Fc FT h h') := by
  refine kx_enter_e (lv := [_, _, _, _, _]) (by decide +kernel) (Nat.le_of_ble_eq_true rfl) rfl ?_
  refine kx_bipush (pc := 0) (v := 99) (kx_dd d_Mo_sortLikes 0 rfl) rfl ?_
  refine kx_istore_ne (pc := 2) (lv' := [_, _, _, _, _]) (kx_dd d_Mo_sortLikes 1 rfl) rfl (Nat.le_of_ble_eq_true rfl) rfl ?_
  refine kx_iconst (pc := 3) (v := 0) (kx_dd d_Mo_sortLikes 2 rfl) rfl ?_
  refine kx_istore_ne (pc := 4) (lv' := [_, _, _, _, _]) (kx_dd d_Mo_sortLikes 3 rfl) rfl (Nat.le_of_ble_eq_true rfl) rfl ?_
  exact y_sort_few hm s ho hp q hqq s.1 0 (by omega)
theorem likK_z {s : TS} {m f : Nat} : ∀ k, (likK s m f k).1 = 0 → ∀ j, (likK s m f k).2 j = 0
  | 0, _, _ => rfl
  | k + 1, h, j => by
    unfold likK at h ⊢
    split at h
    next e => rw [if_pos e]; exact likK_z k h j
    next => simp at h
theorem y_worthOf {l : Launch} {g : kx_G} {d : Nat} {h : kx_Mem} (hm : SM h) (s : TS) (ho : TSok s) (hp : TSm s h) (q : Nat) (hqq : q < s.1) : kx_Sp l g m_Mo_worthOf [.ref 84, .int (nI q)] h (d + 2) 0 0 (fun v h' => v = some (.int (nI (worF s q))) ∧ kx_Fc FT h h') := by
  have o0 := ho.1
  obtain ⟨t1, t2, t3⟩ := hp.2 q hqq
  have o1 := ho.2 q hqq
  have ok := likK_le ho (m := (s.2.2.1 q)) (f := (fewK 99 s (s.2.2.1 q) s.1)) s.1 (Nat.le_refl _)
  refine kx_enter_e (lv := [_, _]) (by decide +kernel) (Nat.le_of_ble_eq_true rfl) rfl ?_
  refine kx_aload_n (pc := 0) (kx_dd d_Mo_worthOf 0 rfl) rfl rfl ?_
  refine kx_getR (pc := 1) (b := 120) fl_Mo_318 (hm.k 0 rfl) rfl (hm.r 35 rfl) (kx_dd d_Mo_worthOf 1 rfl) ?_
  refine kx_iload_n (pc := 4) (kx_dd d_Mo_worthOf 2 rfl) rfl rfl ?_
  refine kx_ialdn (pc := 5) q (hm.t 36 rfl) rfl (by omega) (by decide) (kx_dd d_Mo_worthOf 3 rfl) ?_
  refine kx_iconst (pc := 6) (v := -1) (kx_dd d_Mo_worthOf 4 rfl) rfl ?_
  refine kx_icmp_eq (pc := 7) (tgt := 17) (kx_dd d_Mo_worthOf 5 rfl) rfl (fun c7 => ?_) (fun c7 => ?_)
  · refine kx_aload_n (pc := 17) (kx_dd d_Mo_worthOf 11 rfl) rfl rfl ?_
    refine kx_iload_n (pc := 18) (kx_dd d_Mo_worthOf 12 rfl) rfl rfl ?_
    refine kx_invV (pc := 19) (a := 84) (as := [_]) (kx_dd d_Mo_worthOf 13 rfl) ⟨lk_Mo_497, wi_Mo_sortLikes, we_Mo_sortLikes⟩ w_Mo_sortLikes (hm.k 0 rfl) rfl rfl rfl rfl (Nat.le_of_ble_eq_true rfl) (y_sortLikes (d := d) hm s ho hp q hqq) (Nat.le_refl _) ⟨Nat.le_refl _, Nat.le_refl _⟩ (fun v h' hq => ?_)
    obtain ⟨rfl, hr0, hr, hf⟩ := hq
    have hm := hm.fc hf
    rw [t3, wI_1 (by omega)] at c7
    refine kx_aload_n (pc := 22) (kx_dd d_Mo_worthOf 14 rfl) rfl rfl ?_
    refine kx_getI (pc := 23) fl_Mo_494 (hm.k 0 rfl) rfl (kx_dd d_Mo_worthOf 15 rfl) ?_
    refine kx_if_ne (pc := 26) (tgt := 33) (kx_dd d_Mo_worthOf 16 rfl) rfl (fun c26 => ?_) (fun c26 => ?_)
    · have hc0 : ¬ (likK s (s.2.2.1 q) (fewK 99 s (s.2.2.1 q) s.1) s.1).1 = 0 := fun e => c26 (by rw [hr0, e]; rfl)
      refine kx_aload_n (pc := 33) (kx_dd d_Mo_worthOf 19 rfl) rfl rfl ?_
      refine kx_getR (pc := 34) (b := 121) fl_Mo_321 (hm.k 0 rfl) rfl (hm.r 36 rfl) (kx_dd d_Mo_worthOf 20 rfl) ?_
      refine kx_aload_n (pc := 37) (kx_dd d_Mo_worthOf 21 rfl) rfl rfl ?_
      refine kx_getI (pc := 38) fl_Mo_494 (hm.k 0 rfl) rfl (kx_dd d_Mo_worthOf 22 rfl) ?_
      refine kx_iconst (pc := 41) (v := 1) (kx_dd d_Mo_worthOf 23 rfl) rfl ?_
      refine kx_isub (pc := 42) (kx_dd d_Mo_worthOf 24 rfl) ?_
      refine kx_iconst (pc := 43) (v := 2) (kx_dd d_Mo_worthOf 25 rfl) rfl ?_
      refine kx_idiv (pc := 44) (kx_dd d_Mo_worthOf 26 rfl) (by decide) ?_
      refine kx_ialdn (pc := 45) (((likK s (s.2.2.1 q) (fewK 99 s (s.2.2.1 q) s.1) s.1).1 - 1) / 2) (hm.t 37 rfl) (by rw [hr0, nI_m1' (by omega)]; exact pk_div (d := 2) (by omega) (by decide) (by decide)) (by omega) (by decide) (kx_dd d_Mo_worthOf 27 rfl) ?_
      refine kx_iret (pc := 46) rfl (kx_dd d_Mo_worthOf 28 rfl) (Nat.le_refl _) (Nat.le_refl _) ?_
      rw [hr0, nI_z (by omega)] at c26
      refine ⟨?_, hf⟩
      unfold worF
      unfold likF
      rw [if_pos c7]
      simp only
      rw [if_neg (show ¬ (likK s (s.2.2.1 q) (fewK 99 s (s.2.2.1 q) s.1) s.1).1 < 1 by omega)]
      rw [hr _ (by omega)]
    · refine kx_iconst (pc := 29) (v := 0) (kx_dd d_Mo_worthOf 17 rfl) rfl ?_
      refine kx_goto (pc := 30) (tgt := 46) (kx_dd d_Mo_worthOf 18 rfl) rfl ?_
      refine kx_iret (pc := 46) rfl (kx_dd d_Mo_worthOf 28 rfl) (Nat.le_refl _) (Nat.le_refl _) ?_
      rw [hr0, nI_z (by omega)] at c26
      have e9 : ∀ j, (likK s (s.2.2.1 q) (fewK 99 s (s.2.2.1 q) s.1) s.1).2 j = 0 := likK_z (s := s) (m := (s.2.2.1 q)) (f := (fewK 99 s (s.2.2.1 q) s.1)) s.1 c26
      refine ⟨?_, hf⟩
      unfold worF
      unfold likF
      rw [if_pos c7]
      simp only
      rw [if_pos (show (likK s (s.2.2.1 q) (fewK 99 s (s.2.2.1 q) s.1) s.1).1 < 1 by omega), e9]; rfl
  · refine kx_aload_n (pc := 10) (kx_dd d_Mo_worthOf 6 rfl) rfl rfl ?_
    refine kx_getR (pc := 11) (b := 120) fl_Mo_318 (hm.k 0 rfl) rfl (hm.r 35 rfl) (kx_dd d_Mo_worthOf 7 rfl) ?_
    refine kx_iload_n (pc := 14) (kx_dd d_Mo_worthOf 8 rfl) rfl rfl ?_
    refine kx_ialdn (pc := 15) q (hm.t 36 rfl) rfl (by omega) (by decide) (kx_dd d_Mo_worthOf 9 rfl) ?_
    refine kx_iret (pc := 16) rfl (kx_dd d_Mo_worthOf 10 rfl) (Nat.le_refl _) (Nat.le_refl _) ?_
    have z : ¬ s.2.2.2 q = 0 := fun e => c7 (by rw [t3, e]; rfl)
    refine ⟨?_, kx_Fc.rf⟩
    unfold worF
    unfold likF
    rw [if_neg z, t3, wI_n z]
theorem y_spanLeast {l : Launch} {g : kx_G} {d : Nat} {h : kx_Mem} (hm : SM h) (s : TS) (ho : TSok s) (hp : TSm s h) (q : Nat) (hqq : q < s.1) : kx_Sp l g m_Mo_spanOf [.ref 84, .int (nI q), .int 1] h (d + 2) 0 0 (fun v h' => v = some (.int (nI ((likF s q).2 0))) ∧ kx_Fc FT h h') := by
  have o0 := ho.1
  obtain ⟨t1, t2, t3⟩ := hp.2 q hqq
  have o1 := ho.2 q hqq
  have ok := likK_le ho (m := (s.2.2.1 q)) (f := (fewK 99 s (s.2.2.1 q) s.1)) s.1 (Nat.le_refl _)
  refine kx_enter_e (lv := [_, _, _]) (by decide +kernel) (Nat.le_of_ble_eq_true rfl) rfl ?_
  refine kx_aload_n (pc := 0) (kx_dd d_Mo_spanOf 0 rfl) rfl rfl ?_
  refine kx_getR (pc := 1) (b := 120) fl_Mo_318 (hm.k 0 rfl) rfl (hm.r 35 rfl) (kx_dd d_Mo_spanOf 1 rfl) ?_
  refine kx_iload_n (pc := 4) (kx_dd d_Mo_spanOf 2 rfl) rfl rfl ?_
  refine kx_ialdn (pc := 5) q (hm.t 36 rfl) rfl (by omega) (by decide) (kx_dd d_Mo_spanOf 3 rfl) ?_
  refine kx_iconst (pc := 6) (v := -1) (kx_dd d_Mo_spanOf 4 rfl) rfl ?_
  refine kx_icmp_eq (pc := 7) (tgt := 17) (kx_dd d_Mo_spanOf 5 rfl) rfl (fun c7 => ?_) (fun c7 => ?_)
  · refine kx_aload_n (pc := 17) (kx_dd d_Mo_spanOf 11 rfl) rfl rfl ?_
    refine kx_iload_n (pc := 18) (kx_dd d_Mo_spanOf 12 rfl) rfl rfl ?_
    refine kx_invV (pc := 19) (a := 84) (as := [_]) (kx_dd d_Mo_spanOf 13 rfl) ⟨lk_Mo_497, wi_Mo_sortLikes, we_Mo_sortLikes⟩ w_Mo_sortLikes (hm.k 0 rfl) rfl rfl rfl rfl (Nat.le_of_ble_eq_true rfl) (y_sortLikes (d := d) hm s ho hp q hqq) (Nat.le_refl _) ⟨Nat.le_refl _, Nat.le_refl _⟩ (fun v h' hq => ?_)
    obtain ⟨rfl, hr0, hr, hf⟩ := hq
    have hm := hm.fc hf
    rw [t3, wI_1 (by omega)] at c7
    refine kx_aload_n (pc := 22) (kx_dd d_Mo_spanOf 14 rfl) rfl rfl ?_
    refine kx_getI (pc := 23) fl_Mo_494 (hm.k 0 rfl) rfl (kx_dd d_Mo_spanOf 15 rfl) ?_
    refine kx_if_ne (pc := 26) (tgt := 33) (kx_dd d_Mo_spanOf 16 rfl) rfl (fun c26 => ?_) (fun c26 => ?_)
    · have hc0 : ¬ (likK s (s.2.2.1 q) (fewK 99 s (s.2.2.1 q) s.1) s.1).1 = 0 := fun e => c26 (by rw [hr0, e]; rfl)
      refine kx_aload_n (pc := 33) (kx_dd d_Mo_spanOf 19 rfl) rfl rfl ?_
      refine kx_getR (pc := 34) (b := 121) fl_Mo_321 (hm.k 0 rfl) rfl (hm.r 36 rfl) (kx_dd d_Mo_spanOf 20 rfl) ?_
      refine kx_iload_n (pc := 37) (kx_dd d_Mo_spanOf 21 rfl) rfl rfl ?_
      refine kx_if_eq (pc := 38) (tgt := 45) (kx_dd d_Mo_spanOf 22 rfl) rfl (fun c38 => absurd c38 (by decide)) (fun _ => ?_)
      refine kx_iconst (pc := 41) (v := 0) (kx_dd d_Mo_spanOf 23 rfl) rfl ?_
      refine kx_goto (pc := 42) (tgt := 51) (kx_dd d_Mo_spanOf 24 rfl) rfl ?_
      refine kx_ialdn (pc := 51) 0 (hm.t 37 rfl) rfl (by omega) (by decide) (kx_dd d_Mo_spanOf 29 rfl) ?_
      refine kx_iret (pc := 52) rfl (kx_dd d_Mo_spanOf 30 rfl) (Nat.le_refl _) (Nat.le_refl _) ?_
      rw [hr0, nI_z (by omega)] at c26
      refine ⟨?_, hf⟩
      unfold likF
      rw [if_pos c7]
      simp only
      skip
      rw [hr _ (by omega)]
    · refine kx_iconst (pc := 29) (v := 0) (kx_dd d_Mo_spanOf 17 rfl) rfl ?_
      refine kx_goto (pc := 30) (tgt := 52) (kx_dd d_Mo_spanOf 18 rfl) rfl ?_
      refine kx_iret (pc := 52) rfl (kx_dd d_Mo_spanOf 30 rfl) (Nat.le_refl _) (Nat.le_refl _) ?_
      rw [hr0, nI_z (by omega)] at c26
      have e9 : ∀ j, (likK s (s.2.2.1 q) (fewK 99 s (s.2.2.1 q) s.1) s.1).2 j = 0 := likK_z (s := s) (m := (s.2.2.1 q)) (f := (fewK 99 s (s.2.2.1 q) s.1)) s.1 c26
      refine ⟨?_, hf⟩
      unfold likF
      rw [if_pos c7]
      simp only
      rw [e9]; rfl
  · refine kx_aload_n (pc := 10) (kx_dd d_Mo_spanOf 6 rfl) rfl rfl ?_
    refine kx_getR (pc := 11) (b := 120) fl_Mo_318 (hm.k 0 rfl) rfl (hm.r 35 rfl) (kx_dd d_Mo_spanOf 7 rfl) ?_
    refine kx_iload_n (pc := 14) (kx_dd d_Mo_spanOf 8 rfl) rfl rfl ?_
    refine kx_ialdn (pc := 15) q (hm.t 36 rfl) rfl (by omega) (by decide) (kx_dd d_Mo_spanOf 9 rfl) ?_
    refine kx_iret (pc := 16) rfl (kx_dd d_Mo_spanOf 10 rfl) (Nat.le_refl _) (Nat.le_refl _) ?_
    have z : ¬ s.2.2.2 q = 0 := fun e => c7 (by rw [t3, e]; rfl)
    refine ⟨?_, kx_Fc.rf⟩
    unfold likF
    rw [if_neg z, t3, wI_n z]
theorem y_spanMost {l : Launch} {g : kx_G} {d : Nat} {h : kx_Mem} (hm : SM h) (s : TS) (ho : TSok s) (hp : TSm s h) (q : Nat) (hqq : q < s.1) : kx_Sp l g m_Mo_spanOf [.ref 84, .int (nI q), .int 0] h (d + 2) 0 0 (fun v h' => v = some (.int (nI ((likF s q).2 ((likF s q).1 - 1)))) ∧ kx_Fc FT h h') := by
  have o0 := ho.1
  obtain ⟨t1, t2, t3⟩ := hp.2 q hqq
  have o1 := ho.2 q hqq
  have ok := likK_le ho (m := (s.2.2.1 q)) (f := (fewK 99 s (s.2.2.1 q) s.1)) s.1 (Nat.le_refl _)
  refine kx_enter_e (lv := [_, _, _]) (by decide +kernel) (Nat.le_of_ble_eq_true rfl) rfl ?_
  refine kx_aload_n (pc := 0) (kx_dd d_Mo_spanOf 0 rfl) rfl rfl ?_
  refine kx_getR (pc := 1) (b := 120) fl_Mo_318 (hm.k 0 rfl) rfl (hm.r 35 rfl) (kx_dd d_Mo_spanOf 1 rfl) ?_
  refine kx_iload_n (pc := 4) (kx_dd d_Mo_spanOf 2 rfl) rfl rfl ?_
  refine kx_ialdn (pc := 5) q (hm.t 36 rfl) rfl (by omega) (by decide) (kx_dd d_Mo_spanOf 3 rfl) ?_
  refine kx_iconst (pc := 6) (v := -1) (kx_dd d_Mo_spanOf 4 rfl) rfl ?_
  refine kx_icmp_eq (pc := 7) (tgt := 17) (kx_dd d_Mo_spanOf 5 rfl) rfl (fun c7 => ?_) (fun c7 => ?_)
  · refine kx_aload_n (pc := 17) (kx_dd d_Mo_spanOf 11 rfl) rfl rfl ?_
    refine kx_iload_n (pc := 18) (kx_dd d_Mo_spanOf 12 rfl) rfl rfl ?_
    refine kx_invV (pc := 19) (a := 84) (as := [_]) (kx_dd d_Mo_spanOf 13 rfl) ⟨lk_Mo_497, wi_Mo_sortLikes, we_Mo_sortLikes⟩ w_Mo_sortLikes (hm.k 0 rfl) rfl rfl rfl rfl (Nat.le_of_ble_eq_true rfl) (y_sortLikes (d := d) hm s ho hp q hqq) (Nat.le_refl _) ⟨Nat.le_refl _, Nat.le_refl _⟩ (fun v h' hq => ?_)
    obtain ⟨rfl, hr0, hr, hf⟩ := hq
    have hm := hm.fc hf
    rw [t3, wI_1 (by omega)] at c7
    refine kx_aload_n (pc := 22) (kx_dd d_Mo_spanOf 14 rfl) rfl rfl ?_
    refine kx_getI (pc := 23) fl_Mo_494 (hm.k 0 rfl) rfl (kx_dd d_Mo_spanOf 15 rfl) ?_
    refine kx_if_ne (pc := 26) (tgt := 33) (kx_dd d_Mo_spanOf 16 rfl) rfl (fun c26 => ?_) (fun c26 => ?_)
    · have hc0 : ¬ (likK s (s.2.2.1 q) (fewK 99 s (s.2.2.1 q) s.1) s.1).1 = 0 := fun e => c26 (by rw [hr0, e]; rfl)
      refine kx_aload_n (pc := 33) (kx_dd d_Mo_spanOf 19 rfl) rfl rfl ?_
      refine kx_getR (pc := 34) (b := 121) fl_Mo_321 (hm.k 0 rfl) rfl (hm.r 36 rfl) (kx_dd d_Mo_spanOf 20 rfl) ?_
      refine kx_iload_n (pc := 37) (kx_dd d_Mo_spanOf 21 rfl) rfl rfl ?_
      refine kx_if_eq (pc := 38) (tgt := 45) (kx_dd d_Mo_spanOf 22 rfl) rfl (fun _ => ?_) (fun c38 => absurd c38 (by decide))
      refine kx_aload_n (pc := 45) (kx_dd d_Mo_spanOf 25 rfl) rfl rfl ?_
      refine kx_getI (pc := 46) fl_Mo_494 (hm.k 0 rfl) rfl (kx_dd d_Mo_spanOf 26 rfl) ?_
      refine kx_iconst (pc := 49) (v := 1) (kx_dd d_Mo_spanOf 27 rfl) rfl ?_
      refine kx_isub (pc := 50) (kx_dd d_Mo_spanOf 28 rfl) ?_
      refine kx_ialdn (pc := 51) ((likK s (s.2.2.1 q) (fewK 99 s (s.2.2.1 q) s.1) s.1).1 - 1) (hm.t 37 rfl) (by rw [hr0, nI_m1' (by omega)]) (by omega) (by decide) (kx_dd d_Mo_spanOf 29 rfl) ?_
      refine kx_iret (pc := 52) rfl (kx_dd d_Mo_spanOf 30 rfl) (Nat.le_refl _) (Nat.le_refl _) ?_
      rw [hr0, nI_z (by omega)] at c26
      refine ⟨?_, hf⟩
      unfold likF
      rw [if_pos c7]
      simp only
      rw [if_neg (show ¬ (likK s (s.2.2.1 q) (fewK 99 s (s.2.2.1 q) s.1) s.1).1 < 1 by omega)]
      rw [hr _ (by omega)]
    · refine kx_iconst (pc := 29) (v := 0) (kx_dd d_Mo_spanOf 17 rfl) rfl ?_
      refine kx_goto (pc := 30) (tgt := 52) (kx_dd d_Mo_spanOf 18 rfl) rfl ?_
      refine kx_iret (pc := 52) rfl (kx_dd d_Mo_spanOf 30 rfl) (Nat.le_refl _) (Nat.le_refl _) ?_
      rw [hr0, nI_z (by omega)] at c26
      have e9 : ∀ j, (likK s (s.2.2.1 q) (fewK 99 s (s.2.2.1 q) s.1) s.1).2 j = 0 := likK_z (s := s) (m := (s.2.2.1 q)) (f := (fewK 99 s (s.2.2.1 q) s.1)) s.1 c26
      refine ⟨?_, hf⟩
      unfold likF
      rw [if_pos c7]
      simp only
      rw [e9]; rfl
  · refine kx_aload_n (pc := 10) (kx_dd d_Mo_spanOf 6 rfl) rfl rfl ?_
    refine kx_getR (pc := 11) (b := 120) fl_Mo_318 (hm.k 0 rfl) rfl (hm.r 35 rfl) (kx_dd d_Mo_spanOf 7 rfl) ?_
    refine kx_iload_n (pc := 14) (kx_dd d_Mo_spanOf 8 rfl) rfl rfl ?_
    refine kx_ialdn (pc := 15) q (hm.t 36 rfl) rfl (by omega) (by decide) (kx_dd d_Mo_spanOf 9 rfl) ?_
    refine kx_iret (pc := 16) rfl (kx_dd d_Mo_spanOf 10 rfl) (Nat.le_refl _) (Nat.le_refl _) ?_
    have z : ¬ s.2.2.2 q = 0 := fun e => c7 (by rw [t3, e]; rfl)
    refine ⟨?_, kx_Fc.rf⟩
    unfold likF
    rw [if_neg z, t3, wI_n z]
theorem y_lost {l : Launch} {g : kx_G} {d : Nat} {h : kx_Mem} (hm : SM h) (s : TS) (ho : TSok s) (hp : TSm s h) (q : Nat) (hqq : q < s.1) (w : Int32) : kx_Sp l g m_Mo_lost [.ref 84, .int (nI q), .int w] h (d + 3) 0 0 (fun v h' => v = some (.int (detT s q w)) ∧ kx_Fc FT h h') := by
  have o0 := ho.1
  obtain ⟨t1, t2, t3⟩ := hp.2 q hqq
  have o1 := ho.2 q hqq
  refine kx_enter_e (lv := [_, _, _]) (by decide +kernel) (Nat.le_of_ble_eq_true rfl) rfl ?_
  refine kx_aload_n (pc := 0) (kx_dd d_Mo_lost 0 rfl) rfl rfl ?_
  refine kx_iload_n (pc := 1) (kx_dd d_Mo_lost 1 rfl) rfl rfl ?_
  refine kx_invV (pc := 2) (a := 84) (as := [_]) (kx_dd d_Mo_lost 2 rfl) ⟨lk_Mo_500, wi_Mo_isThing, we_Mo_isThing⟩ w_Mo_isThing (hm.k 0 rfl) rfl rfl rfl rfl (Nat.le_of_ble_eq_true rfl) (y_isThing (d := d + 1) hm s.1 (by omega) hp.1 (nI q)) (Nat.le_refl _) ⟨Nat.le_refl _, Nat.le_refl _⟩ (fun v h' hq => ?_)
  obtain ⟨rfl, he⟩ := hq
  rw [he, bP_t ⟨nI_pos' (by omega), by rw [hp.1]; exact nI_lt (by omega) (by omega)⟩]
  clear he
  refine kx_if_ne (pc := 5) (tgt := 10) (kx_dd d_Mo_lost 3 rfl) rfl (fun _ => ?_) (fun c5 => absurd c5 (by decide))
  refine kx_iload_n (pc := 10) (kx_dd d_Mo_lost 6 rfl) rfl rfl ?_
  by_cases e11_0 : w = 0
  · refine kx_tableIn (pc := 11) (tgt := 48) (kx_dd d_Mo_lost 7 rfl) (by rw [e11_0] <;> decide) (by rw [e11_0] <;> decide) (by rw [e11_0] <;> rfl) rfl ?_
    refine kx_aload_n (pc := 48) (kx_dd d_Mo_lost 8 rfl) rfl rfl ?_
    refine kx_getR (pc := 49) (b := 118) fl_Mo_312 (hm.k 0 rfl) rfl (hm.r 33 rfl) (kx_dd d_Mo_lost 9 rfl) ?_
    refine kx_iload_n (pc := 52) (kx_dd d_Mo_lost 10 rfl) rfl rfl ?_
    refine kx_ialdn (pc := 53) q (hm.t 34 rfl) rfl (by omega) (by decide) (kx_dd d_Mo_lost 11 rfl) ?_
    refine kx_iret (pc := 54) rfl (kx_dd d_Mo_lost 12 rfl) (Nat.le_refl _) (Nat.le_refl _) ?_
    refine ⟨?_, kx_Fc.rf⟩
    unfold detT
    rw [if_pos e11_0]
    rw [t1]
  · skip
    by_cases e11_1 : w = 1
    · refine kx_tableIn (pc := 11) (tgt := 55) (kx_dd d_Mo_lost 7 rfl) (by rw [e11_1] <;> decide) (by rw [e11_1] <;> decide) (by rw [e11_1] <;> rfl) rfl ?_
      refine kx_aload_n (pc := 55) (kx_dd d_Mo_lost 13 rfl) rfl rfl ?_
      refine kx_getR (pc := 56) (b := 119) fl_Mo_315 (hm.k 0 rfl) rfl (hm.r 34 rfl) (kx_dd d_Mo_lost 14 rfl) ?_
      refine kx_iload_n (pc := 59) (kx_dd d_Mo_lost 15 rfl) rfl rfl ?_
      refine kx_ialdn (pc := 60) q (hm.t 35 rfl) rfl (by omega) (by decide) (kx_dd d_Mo_lost 16 rfl) ?_
      refine kx_iret (pc := 61) rfl (kx_dd d_Mo_lost 17 rfl) (Nat.le_refl _) (Nat.le_refl _) ?_
      refine ⟨?_, kx_Fc.rf⟩
      unfold detT
      rw [if_neg e11_0, if_pos e11_1]
      rw [t2]
    · skip
      by_cases e11_2 : w = 2
      · refine kx_tableIn (pc := 11) (tgt := 62) (kx_dd d_Mo_lost 7 rfl) (by rw [e11_2] <;> decide) (by rw [e11_2] <;> decide) (by rw [e11_2] <;> rfl) rfl ?_
        refine kx_aload_n (pc := 62) (kx_dd d_Mo_lost 18 rfl) rfl rfl ?_
        refine kx_iload_n (pc := 63) (kx_dd d_Mo_lost 19 rfl) rfl rfl ?_
        refine kx_invV (pc := 64) (a := 84) (as := [_]) (kx_dd d_Mo_lost 20 rfl) ⟨lk_Mo_503, wi_Mo_worthOf, we_Mo_worthOf⟩ w_Mo_worthOf (hm.k 0 rfl) rfl rfl rfl rfl (Nat.le_of_ble_eq_true rfl) (y_worthOf (d := d) hm s ho hp q hqq) (Nat.le_refl _) ⟨Nat.le_refl _, Nat.le_refl _⟩ (fun v h' hq => ?_)
        obtain ⟨rfl, hq9⟩ := hq
        refine kx_iret (pc := 67) rfl (kx_dd d_Mo_lost 21 rfl) (Nat.le_refl _) (Nat.le_refl _) ?_
        refine ⟨?_, hq9⟩
        unfold detT
        rw [if_neg e11_0, if_neg e11_1, if_pos e11_2]
      · skip
        by_cases e11_3 : w = 3
        · refine kx_tableIn (pc := 11) (tgt := 68) (kx_dd d_Mo_lost 7 rfl) (by rw [e11_3] <;> decide) (by rw [e11_3] <;> decide) (by rw [e11_3] <;> rfl) rfl ?_
          refine kx_aload_n (pc := 68) (kx_dd d_Mo_lost 22 rfl) rfl rfl ?_
          refine kx_getR (pc := 69) (b := 120) fl_Mo_318 (hm.k 0 rfl) rfl (hm.r 35 rfl) (kx_dd d_Mo_lost 23 rfl) ?_
          refine kx_iload_n (pc := 72) (kx_dd d_Mo_lost 24 rfl) rfl rfl ?_
          refine kx_ialdn (pc := 73) q (hm.t 36 rfl) rfl (by omega) (by decide) (kx_dd d_Mo_lost 25 rfl) ?_
          refine kx_iconst (pc := 74) (v := -1) (kx_dd d_Mo_lost 26 rfl) rfl ?_
          refine kx_icmp_eq (pc := 75) (tgt := 82) (kx_dd d_Mo_lost 27 rfl) rfl (fun c75 => ?_) (fun c75 => ?_)
          · refine kx_iconst (pc := 82) (v := 0) (kx_dd d_Mo_lost 30 rfl) rfl ?_
            refine kx_iret (pc := 83) rfl (kx_dd d_Mo_lost 31 rfl) (Nat.le_refl _) (Nat.le_refl _) ?_
            rw [t3, wI_1 (by omega)] at c75
            refine ⟨?_, kx_Fc.rf⟩
            unfold detT
            rw [if_neg e11_0, if_neg e11_1, if_neg e11_2, if_pos e11_3]
            rw [if_pos c75]
          · refine kx_iconst (pc := 78) (v := 1) (kx_dd d_Mo_lost 28 rfl) rfl ?_
            refine kx_goto (pc := 79) (tgt := 83) (kx_dd d_Mo_lost 29 rfl) rfl ?_
            refine kx_iret (pc := 83) rfl (kx_dd d_Mo_lost 31 rfl) (Nat.le_refl _) (Nat.le_refl _) ?_
            rw [t3, wI_1 (by omega)] at c75
            refine ⟨?_, kx_Fc.rf⟩
            unfold detT
            rw [if_neg e11_0, if_neg e11_1, if_neg e11_2, if_pos e11_3]
            rw [if_neg c75]
        · skip
          by_cases e11_4 : w = 4
          · refine kx_tableIn (pc := 11) (tgt := 84) (kx_dd d_Mo_lost 7 rfl) (by rw [e11_4] <;> decide) (by rw [e11_4] <;> decide) (by rw [e11_4] <;> rfl) rfl ?_
            refine kx_aload_n (pc := 84) (kx_dd d_Mo_lost 32 rfl) rfl rfl ?_
            refine kx_iload_n (pc := 85) (kx_dd d_Mo_lost 33 rfl) rfl rfl ?_
            refine kx_iconst (pc := 86) (v := 1) (kx_dd d_Mo_lost 34 rfl) rfl ?_
            refine kx_invV (pc := 87) (a := 84) (as := [_, _]) (kx_dd d_Mo_lost 35 rfl) ⟨lk_Mo_506, wi_Mo_spanOf, we_Mo_spanOf⟩ w_Mo_spanOf (hm.k 0 rfl) rfl rfl rfl rfl (Nat.le_of_ble_eq_true rfl) (y_spanLeast (d := d) hm s ho hp q hqq) (Nat.le_refl _) ⟨Nat.le_refl _, Nat.le_refl _⟩ (fun v h' hq => ?_)
            obtain ⟨rfl, hq9⟩ := hq
            refine kx_iret (pc := 90) rfl (kx_dd d_Mo_lost 36 rfl) (Nat.le_refl _) (Nat.le_refl _) ?_
            refine ⟨?_, hq9⟩
            unfold detT
            rw [if_neg e11_0, if_neg e11_1, if_neg e11_2, if_neg e11_3, if_pos e11_4]
          · skip
            by_cases e11_5 : w = 5
            · refine kx_tableIn (pc := 11) (tgt := 91) (kx_dd d_Mo_lost 7 rfl) (by rw [e11_5] <;> decide) (by rw [e11_5] <;> decide) (by rw [e11_5] <;> rfl) rfl ?_
              refine kx_aload_n (pc := 91) (kx_dd d_Mo_lost 37 rfl) rfl rfl ?_
              refine kx_iload_n (pc := 92) (kx_dd d_Mo_lost 38 rfl) rfl rfl ?_
              refine kx_iconst (pc := 93) (v := 0) (kx_dd d_Mo_lost 39 rfl) rfl ?_
              refine kx_invV (pc := 94) (a := 84) (as := [_, _]) (kx_dd d_Mo_lost 40 rfl) ⟨lk_Mo_506, wi_Mo_spanOf, we_Mo_spanOf⟩ w_Mo_spanOf (hm.k 0 rfl) rfl rfl rfl rfl (Nat.le_of_ble_eq_true rfl) (y_spanMost (d := d) hm s ho hp q hqq) (Nat.le_refl _) ⟨Nat.le_refl _, Nat.le_refl _⟩ (fun v h' hq => ?_)
              obtain ⟨rfl, hq9⟩ := hq
              refine kx_iret (pc := 97) rfl (kx_dd d_Mo_lost 41 rfl) (Nat.le_refl _) (Nat.le_refl _) ?_
              refine ⟨?_, hq9⟩
              unfold detT
              rw [if_neg e11_0, if_neg e11_1, if_neg e11_2, if_neg e11_3, if_neg e11_4, if_pos e11_5]
            · skip
              refine kx_tableOut (pc := 11) (tgt := 98) (kx_dd d_Mo_lost 7 rfl) (by have y0 := lv_neT (a := 0) e11_0 (by decide); have y1 := lv_neT (a := 1) e11_1 (by decide); have y2 := lv_neT (a := 2) e11_2 (by decide); have y3 := lv_neT (a := 3) e11_3 (by decide); have y4 := lv_neT (a := 4) e11_4 (by decide); have y5 := lv_neT (a := 5) e11_5 (by decide); omega) rfl ?_
              refine kx_iconst (pc := 98) (v := -1) (kx_dd d_Mo_lost 42 rfl) rfl ?_
              refine kx_iret (pc := 99) rfl (kx_dd d_Mo_lost 43 rfl) (Nat.le_refl _) (Nat.le_refl _) ?_
              refine ⟨?_, kx_Fc.rf⟩
              unfold detT
              rw [if_neg e11_0, if_neg e11_1, if_neg e11_2, if_neg e11_3, if_neg e11_4, if_neg e11_5]
theorem y_lostN {l : Launch} {g : kx_G} {d : Nat} {h : kx_Mem} (hm : SM h) (s : TS) (ho : TSok s) (hp : TSm s h) (t : Int32) (hn : ¬ (0 ≤ t ∧ t < nI s.1)) (w : Int32) : kx_Sp l g m_Mo_lost [.ref 84, .int t, .int w] h (d + 2) 0 0 (fun v h' => v = some (.int (-1)) ∧ h' = h) := by
  have o0 := ho.1
  refine kx_enter_e (lv := [_, _, _]) (by decide +kernel) (Nat.le_of_ble_eq_true rfl) rfl ?_
  refine kx_aload_n (pc := 0) (kx_dd d_Mo_lost 0 rfl) rfl rfl ?_
  refine kx_iload_n (pc := 1) (kx_dd d_Mo_lost 1 rfl) rfl rfl ?_
  refine kx_invV (pc := 2) (a := 84) (as := [_]) (kx_dd d_Mo_lost 2 rfl) ⟨lk_Mo_500, wi_Mo_isThing, we_Mo_isThing⟩ w_Mo_isThing (hm.k 0 rfl) rfl rfl rfl rfl (Nat.le_of_ble_eq_true rfl) (y_isThing (d := d) hm s.1 (by omega) hp.1 t) (Nat.le_refl _) ⟨Nat.le_refl _, Nat.le_refl _⟩ (fun v h' hq => ?_)
  obtain ⟨rfl, he⟩ := hq
  rw [he, bP_f (by rw [hp.1]; exact hn)]
  clear he
  refine kx_if_ne (pc := 5) (tgt := 10) (kx_dd d_Mo_lost 3 rfl) rfl (fun c5 => absurd c5 (by decide)) (fun _ => ?_)
  refine kx_iconst (pc := 8) (v := -1) (kx_dd d_Mo_lost 4 rfl) rfl ?_
  refine kx_iret (pc := 9) rfl (kx_dd d_Mo_lost 5 rfl) (Nat.le_refl _) (Nat.le_refl _) ?_
  exact ⟨rfl, rfl⟩
