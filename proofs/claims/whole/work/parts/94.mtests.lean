/-! test cases: the reference: choose, tests, test -/
def TBm (B : TB) (h : kx_Mem) : Prop := (B.1 ≤ 64 ∧ B.2.1 ≤ 3) ∧ h.1 84 86 = nI B.1 ∧ h.1 84 85 = nI B.2.1 ∧ ∀ p, p < B.2.1 → h.1 147 p = B.2.2 p
def FcM (k a j : Nat) : Prop := (a = 84 ∧ 85 ≤ j ∧ j ≤ 86) ∨ a = 147 ∨ (a = 148 ∧ k ≤ j)
theorem FcM_s {k a j : Nat} (h : FcM (k + 1) a j) : FcM k a j := by unfold FcM at *; omega
theorem DKm.fx {D : DK} {n : Nat} {T : Nat → Nat} {P : Nat → Nat → Prop} {h h' : kx_Mem} (hp : DKm D n T h) (hf : ∀ a j, ¬ P a j → h'.1 a j = h.1 a j) (hP : ∀ a j, (a = 84 ∧ ((33 ≤ j ∧ j ≤ 34) ∨ (50 ≤ j ∧ j ≤ 52))) ∨ (107 ≤ a ∧ a ≤ 112) ∨ (118 ≤ a ∧ a ≤ 120) ∨ (122 ≤ a ∧ a ≤ 143) → ¬ P a j) : DKm D n T h' := by
  have e : ∀ a j, (a = 84 ∧ ((33 ≤ j ∧ j ≤ 34) ∨ (50 ≤ j ∧ j ≤ 52))) ∨ (107 ≤ a ∧ a ≤ 112) ∨ (118 ≤ a ∧ a ≤ 120) ∨ (122 ≤ a ∧ a ≤ 143) → h'.1 a j = h.1 a j := fun a j q => hf a j (hP a j q)
  obtain ⟨⟨p1, p2, p3⟩, ⟨t1, t2⟩, ⟨c1, c2⟩, ⟨f1, f2⟩⟩ := hp
  refine ⟨⟨by rw [e 84 33 (by omega)]; exact p1, by rw [e 84 34 (by omega)]; exact p2, fun k hk => ?_⟩, ⟨by rw [e 84 50 (by omega)]; exact t1, fun k hk => ?_⟩, ⟨by rw [e 84 51 (by omega)]; exact c1, fun k hk => ?_⟩, ⟨by rw [e 84 52 (by omega)]; exact f1, fun k hk => ?_⟩⟩
  · rw [e 107 k (by omega), e 108 k (by omega), e 109 k (by omega), e 110 k (by omega), e 111 k (by omega), e 112 k (by omega)]
    exact p3 k hk
  · rw [e 118 k (by omega), e 119 k (by omega), e 120 k (by omega)]
    exact t2 k hk
  · obtain ⟨x1, x2, x3⟩ := c2 k hk
    exact ⟨fun j q1 q2 q3 => by rw [e (122 + j) k (by omega)]; exact x1 j q1 q2 q3, by rw [e 128 k (by omega)]; exact x2, by rw [e 127 k (by omega)]; exact x3⟩
  · rw [e 139 k (by omega), e 140 k (by omega), e 141 k (by omega), e 142 k (by omega), e 143 k (by omega)]
    exact f2 k hk
theorem DKm.c {D : DK} {n k : Nat} {T : Nat → Nat} {h h' : kx_Mem} (hp : DKm D n T h) (hf : kx_Fc (FcM k) h h') : DKm D n T h' := hp.fx hf.2 (fun a j z => by unfold FcM; omega)
theorem TBm.s {B : TB} {h : kx_Mem} {k : Nat} {x : Int32} (hB : TBm B h) : TBm B (kx_setI h 148 k x) := ⟨hB.1, by rw [setI_ne (Or.inl (by decide))]; exact hB.2.1, by rw [setI_ne (Or.inl (by decide))]; exact hB.2.2.1, fun p hp => by rw [setI_ne (Or.inl (by decide))]; exact hB.2.2.2 p hp⟩
/-- the rows of likes, as the reference has them -/
def LKm (D : DK) (q : Nat) (h : kx_Mem) : Prop := ∀ c, c < D.2.2.1.1 → h.2.1 146 c = lN (lkN D q c)
theorem y_cp_loop {l : Launch} {g : kx_G} {d : Nat} (N : Nat) (hN : N ≤ 3) (st : Nat) (tr : Nat → Int32) (h0 : kx_Mem) (x2 x3 : Int32) (st9 : Int64) : ∀ f i, i + f = N → ∀ h, SM h → kx_Fc (FcM N) h0 h → h.1 84 86 = nI (bc st) → h.1 84 85 = nI N → (∀ p, p < N → h.1 148 p = tr p) → (∀ p, p < i → h.1 147 p = tr p) → kx_X (l, g, m_Mo_choose, d, 0, 0, (fun v h' => v = none ∧ TBm (bc st, N, tr) h' ∧ kx_Fc (FcM N) h0 h')) 0 0 35 [some (.ref 84), some (.int (nI N)), some (.int x2), some (.int x3), some (.long st9), none, some (.int (nI i))] [] h := by
  intro f
  induction f with
  | zero =>
    intro i hi h hm hf h86 h85 ht hd
    have e : i = N := by omega
    subst e
    have bl := bc_le st
    refine kx_iload (pc := 35) (kx_dd d_Mo_choose 18 rfl) rfl ?_
    refine kx_iload_n (pc := 37) (kx_dd d_Mo_choose 19 rfl) rfl rfl ?_
    refine kx_icmp_ge (pc := 38) (tgt := 61) (kx_dd d_Mo_choose 20 rfl) rfl (fun c38 => ?_) (fun c38 => ?_)
    · refine kx_vret (pc := 61) rfl (kx_dd d_Mo_choose 31 rfl) (Nat.le_refl _) (Nat.le_refl _) ?_
      exact ⟨rfl, ⟨⟨bl, hN⟩, h86, h85, hd⟩, hf⟩
    · exact absurd (Int32.le_refl _) c38
  | succ f ih =>
    intro i hi h hm hf h86 h85 ht hd
    refine kx_iload (pc := 35) (kx_dd d_Mo_choose 18 rfl) rfl ?_
    refine kx_iload_n (pc := 37) (kx_dd d_Mo_choose 19 rfl) rfl rfl ?_
    refine kx_icmp_ge (pc := 38) (tgt := 61) (kx_dd d_Mo_choose 20 rfl) rfl (fun c38 => ?_) (fun c38 => ?_)
    · exact absurd c38 (nI_ge (by omega) (by omega))
    · refine kx_aload_n (pc := 41) (kx_dd d_Mo_choose 21 rfl) rfl rfl ?_
      refine kx_getR (pc := 42) (b := 147) fl_Mo_400 (hm.k 0 rfl) rfl (hm.r 62 rfl) (kx_dd d_Mo_choose 22 rfl) ?_
      refine kx_iload (pc := 45) (kx_dd d_Mo_choose 23 rfl) rfl ?_
      refine kx_aload_n (pc := 47) (kx_dd d_Mo_choose 24 rfl) rfl rfl ?_
      refine kx_getR (pc := 48) (b := 148) fl_Mo_403 (hm.k 0 rfl) rfl (hm.r 63 rfl) (kx_dd d_Mo_choose 25 rfl) ?_
      refine kx_iload (pc := 51) (kx_dd d_Mo_choose 26 rfl) rfl ?_
      refine kx_ialdn (pc := 53) i (hm.t 64 rfl) rfl (by omega) (by decide) (kx_dd d_Mo_choose 27 rfl) ?_
      rw [ht i (by omega)]
      refine kx_iastn (pc := 54) i (hm.t 63 rfl) (by decide) rfl (by omega) (by decide) (kx_dd d_Mo_choose 28 rfl) ?_
      refine kx_iinc_e (pc := 55) (v := nI (i + 1)) (lv' := [_, _, _, _, _, _, _]) (kx_dd d_Mo_choose 29 rfl) rfl (Nat.le_of_ble_eq_true rfl) (nI_1 i) rfl ?_
      refine kx_goto (pc := 58) (tgt := 35) (kx_dd d_Mo_choose 30 rfl) rfl ?_
      refine ih (i + 1) (by omega) _ hm (hf.tr (kx_Fc.set (by unfold FcM; omega))) (by rw [setI_ne (Or.inl (by decide))]; exact h86) (by rw [setI_ne (Or.inl (by decide))]; exact h85) (fun p hp => by rw [setI_ne (Or.inl (by decide))]; exact ht p hp) (fun p hp => ?_)
      by_cases e : p = i
      · rw [e]; exact setI_at
      · rw [setI_ne (Or.inr e)]; exact hd p (by omega)
theorem y_ch_loop {l : Launch} {g : kx_G} {d : Nat} (nw : Nat) (T : Nat → Nat) (hwt : WTok nw T) (D : DK) (ho : DKok D) (q : Nat) (N : Nat) (hN : N ≤ 3) (f k : Nat) (hk : k + (f + 1) = N) (h0 : kx_Mem) (hm0 : SM h0) (hp0 : DKm D nw T h0) (hL0 : LKm D q h0) (fr st : Nat) (hst : st < 2 ^ 60) (tr : Nat → Int32) (ht0 : ∀ p, p < k → h0.1 148 p = tr p) (B : TB) (rec : ∀ (h : kx_Mem) (fr st : Nat) (tr : Nat → Int32) (B : TB), SM h → DKm D nw T h → LKm D q h → (∀ p, p < k + 1 → h.1 148 p = tr p) → TBm B h → st < 2 ^ 60 → fr ≤ D.2.2.1.1 → kx_Sp l g m_Mo_choose [.ref 84, .int (nI N), .int (nI (k + 1)), .int (nI fr), .long (lN st)] h (d + f + 1) 0 0 (fun v h' => v = none ∧ TBm (chF (opD D) (lkN D q) D.2.2.1.1 N f (k + 1) fr st tr B) h' ∧ kx_Fc (FcM (k + 1)) h h')) : ∀ g9 m, fr + m + g9 = D.2.2.1.1 → ∀ h, kx_Fc (FcM k) h0 h → TBm (chL (chSt (opD D) (lkN D q) D.2.2.1.1 N f k st tr) fr m B) h → kx_X (l, g, m_Mo_choose, d + (f + 1) + 1, 0, 0, (fun v h' => v = none ∧ TBm (chF (opD D) (lkN D q) D.2.2.1.1 N (f + 1) k fr st tr B) h' ∧ kx_Fc (FcM k) h0 h')) 0 0 65 [some (.ref 84), some (.int (nI N)), some (.int (nI k)), some (.int (nI fr)), some (.long (lN st)), none, some (.int (nI (fr + m)))] [] h := by
  intro g9
  induction g9 with
  | zero =>
    intro m hmm h hf hB
    have hm : SM h := hm0.fc hf
    have hp : DKm D nw T h := hp0.c hf
    have o1 := ho.2.2.1.1
    have e51 : h.1 84 51 = nI D.2.2.1.1 := hp.2.2.1.1
    have hL : LKm D q h := fun c hc => by rw [hf.1]; exact hL0 c hc
    have ht : ∀ p, p < k → h.1 148 p = tr p := fun p hp9 => by rw [hf.2 148 p (by unfold FcM; omega)]; exact ht0 p hp9
    have e : m = D.2.2.1.1 - fr := by omega
    refine kx_iload (pc := 65) (kx_dd d_Mo_choose 34 rfl) rfl ?_
    refine kx_aload_n (pc := 67) (kx_dd d_Mo_choose 35 rfl) rfl rfl ?_
    refine kx_getI (pc := 68) fl_Mo_510 (hm.k 0 rfl) rfl (kx_dd d_Mo_choose 36 rfl) ?_
    refine kx_icmp_ge (pc := 71) (tgt := 123) (kx_dd d_Mo_choose 37 rfl) rfl (fun c71 => ?_) (fun c71 => ?_)
    · refine kx_vret (pc := 123) rfl (kx_dd d_Mo_choose 66 rfl) (Nat.le_refl _) (Nat.le_refl _) ?_
      exact ⟨rfl, by rw [chF_s, ← e]; exact hB, hf⟩
    · exact absurd (by rw [e51]; exact (nI_leI (by omega) (by omega)).mpr (by omega)) c71
  | succ g9 ih =>
    intro m hmm h hf hB
    have hm : SM h := hm0.fc hf
    have hp : DKm D nw T h := hp0.c hf
    have o1 := ho.2.2.1.1
    have e51 : h.1 84 51 = nI D.2.2.1.1 := hp.2.2.1.1
    have hL : LKm D q h := fun c hc => by rw [hf.1]; exact hL0 c hc
    have ht : ∀ p, p < k → h.1 148 p = tr p := fun p hp9 => by rw [hf.2 148 p (by unfold FcM; omega)]; exact ht0 p hp9
    have hc : fr + m < D.2.2.1.1 := by omega
    have e8 : h.1 130 (fr + m) = nI (cN D.2.2.1 (fr + m) 8) := ((hp.2.2.1.2 (fr + m) hc).1 8 (by decide) (by decide) (by decide)).trans ((ho.2.2.1.2 (fr + m) hc).1 8 (by decide) (by decide) (by decide) (by decide))
    have b8 : cN D.2.2.1 (fr + m) 8 ≤ 3 := (ho.2.2.1.2 (fr + m) hc).2.2.2.2.2.2.2.2.2.1
    refine kx_iload (pc := 65) (kx_dd d_Mo_choose 34 rfl) rfl ?_
    refine kx_aload_n (pc := 67) (kx_dd d_Mo_choose 35 rfl) rfl rfl ?_
    refine kx_getI (pc := 68) fl_Mo_510 (hm.k 0 rfl) rfl (kx_dd d_Mo_choose 36 rfl) ?_
    refine kx_icmp_ge (pc := 71) (tgt := 123) (kx_dd d_Mo_choose 37 rfl) rfl (fun c71 => ?_) (fun c71 => ?_)
    · exact absurd c71 (by rw [e51]; exact nI_ge (by omega) (by omega))
    · refine kx_aload_n (pc := 74) (kx_dd d_Mo_choose 38 rfl) rfl rfl ?_
      refine kx_getR (pc := 75) (b := 130) fl_Mo_348 (hm.k 0 rfl) rfl (hm.r 45 rfl) (kx_dd d_Mo_choose 39 rfl) ?_
      refine kx_iload (pc := 78) (kx_dd d_Mo_choose 40 rfl) rfl ?_
      refine kx_ialdn (pc := 80) (fr + m) (hm.t 46 rfl) rfl (by omega) (by decide) (kx_dd d_Mo_choose 41 rfl) ?_
      refine kx_if_eq (pc := 81) (tgt := 87) (kx_dd d_Mo_choose 42 rfl) rfl (fun c81 => ?_) (fun c81 => ?_)
      · rw [e8, nI_z (by omega)] at c81
        have hf9 : kx_Fc (FcM k) h (kx_setI h 148 k (nI (fr + m))) := kx_Fc.set (by unfold FcM; omega)
        refine kx_aload_n (pc := 87) (kx_dd d_Mo_choose 44 rfl) rfl rfl ?_
        refine kx_getR (pc := 88) (b := 148) fl_Mo_403 (hm.k 0 rfl) rfl (hm.r 63 rfl) (kx_dd d_Mo_choose 45 rfl) ?_
        refine kx_iload_n (pc := 91) (kx_dd d_Mo_choose 46 rfl) rfl rfl ?_
        refine kx_iload (pc := 92) (kx_dd d_Mo_choose 47 rfl) rfl ?_
        refine kx_iastn (pc := 94) k (hm.t 64 rfl) (by decide) rfl (by omega) (by decide) (kx_dd d_Mo_choose 48 rfl) ?_
        refine kx_aload_n (pc := 95) (kx_dd d_Mo_choose 49 rfl) rfl rfl ?_
        refine kx_iload_n (pc := 96) (kx_dd d_Mo_choose 50 rfl) rfl rfl ?_
        refine kx_iload_n (pc := 97) (kx_dd d_Mo_choose 51 rfl) rfl rfl ?_
        refine kx_iconst (pc := 98) (v := 1) (kx_dd d_Mo_choose 52 rfl) rfl ?_
        refine kx_iadd (pc := 99) (kx_dd d_Mo_choose 53 rfl) ?_
        refine kx_iload (pc := 100) (kx_dd d_Mo_choose 54 rfl) rfl ?_
        refine kx_iconst (pc := 102) (v := 1) (kx_dd d_Mo_choose 55 rfl) rfl ?_
        refine kx_iadd (pc := 103) (kx_dd d_Mo_choose 56 rfl) ?_
        refine kx_lload (pc := 104) (kx_dd d_Mo_choose 57 rfl) rfl ?_
        refine kx_aload_n (pc := 106) (kx_dd d_Mo_choose 58 rfl) rfl rfl ?_
        refine kx_getR (pc := 107) (b := 146) fl_Mo_396 (hm.k 0 rfl) rfl (hm.r 61 rfl) (kx_dd d_Mo_choose 59 rfl) ?_
        refine kx_iload (pc := 110) (kx_dd d_Mo_choose 60 rfl) rfl ?_
        refine kx_laldn (pc := 112) (fr + m) (hm.t 62 rfl) rfl (by omega) (by decide) (kx_dd d_Mo_choose 61 rfl) ?_
        refine kx_lor (pc := 113) (kx_dd d_Mo_choose 62 rfl) ?_
        rw [nI_1, nI_1, show (kx_setI h 148 k (nI (fr + m))).2.1 146 (fr + m) = lN (lkN D q (fr + m)) from hL _ hc, lN_or]
        have htr : ∀ p, p < k + 1 → (kx_setI h 148 k (nI (fr + m))).1 148 p = upF tr k (nI (fr + m)) p := fun p hp9 => by
          unfold upF
          by_cases e : p = k
          · rw [if_pos e, e, setI_at]
          · rw [if_neg e, setI_ne (Or.inr e)]; exact ht p (by omega)
        refine kx_invV (pc := 114) (a := 84) (as := [_, _, _, _]) (kx_dd d_Mo_choose 63 rfl) ⟨lk_Mo_598, wi_Mo_choose, we_Mo_choose⟩ w_Mo_choose (hm.k 0 rfl) rfl rfl rfl rfl (Nat.le_of_ble_eq_true rfl) (rec (kx_setI h 148 k (nI (fr + m))) (fr + m + 1) (st ||| lkN D q (fr + m)) (upF tr k (nI (fr + m))) _ hm (hp.c hf9) hL htr hB.s (or60 hst (lkN_lt ho)) (by omega)) (Nat.le_refl _) ⟨Nat.le_refl _, Nat.le_refl _⟩ (fun v h' hq => ?_)
        revert h'
        intro h1 hq
        obtain ⟨rfl, hB1, hf1⟩ := hq
        refine kx_iinc_e (pc := 117) (v := nI (fr + (m + 1))) (lv' := [_, _, _, _, _, _, _]) (kx_dd d_Mo_choose 64 rfl) rfl (Nat.le_of_ble_eq_true rfl) (nI_1 _) rfl ?_
        refine kx_goto (pc := 120) (tgt := 65) (kx_dd d_Mo_choose 65 rfl) rfl ?_
        refine ih (m + 1) (by omega) h1 ((hf.tr hf9).tr (hf1.mono (fun a j z => FcM_s z))) ?_
        show TBm ((chSt (opD D) (lkN D q) D.2.2.1.1 N f k st tr) (fr + m) (chL (chSt (opD D) (lkN D q) D.2.2.1.1 N f k st tr) fr m B)) h1
        rw [chSt_t (show opD D (fr + m) from c81)]
        exact hB1
      · refine kx_goto (pc := 84) (tgt := 117) (kx_dd d_Mo_choose 43 rfl) rfl ?_
        refine kx_iinc_e (pc := 117) (v := nI (fr + (m + 1))) (lv' := [_, _, _, _, _, _, _]) (kx_dd d_Mo_choose 64 rfl) rfl (Nat.le_of_ble_eq_true rfl) (nI_1 _) rfl ?_
        refine kx_goto (pc := 120) (tgt := 65) (kx_dd d_Mo_choose 65 rfl) rfl ?_
        rw [e8, nI_z (by omega)] at c81
        refine ih (m + 1) (by omega) h hf ?_
        show TBm ((chSt (opD D) (lkN D q) D.2.2.1.1 N f k st tr) (fr + m) (chL (chSt (opD D) (lkN D q) D.2.2.1.1 N f k st tr) fr m B)) h
        rw [chSt_f (show ¬ opD D (fr + m) from c81)]
        exact hB
theorem y_choose {l : Launch} {g : kx_G} {d : Nat} (nw : Nat) (T : Nat → Nat) (hwt : WTok nw T) (D : DK) (ho : DKok D) (q : Nat) (N : Nat) (hN : N ≤ 3) : ∀ f k, k + f = N → ∀ (h : kx_Mem) (fr st : Nat) (tr : Nat → Int32) (B : TB), SM h → DKm D nw T h → LKm D q h → (∀ p, p < k → h.1 148 p = tr p) → TBm B h → st < 2 ^ 60 → fr ≤ D.2.2.1.1 → kx_Sp l g m_Mo_choose [.ref 84, .int (nI N), .int (nI k), .int (nI fr), .long (lN st)] h (d + f + 1) 0 0 (fun v h' => v = none ∧ TBm (chF (opD D) (lkN D q) D.2.2.1.1 N f k fr st tr B) h' ∧ kx_Fc (FcM k) h h') := by
  intro f
  induction f with
  | zero =>
    intro k hk h fr st tr B hm hp hL ht hB hst hfr
    have e : k = N := by omega
    subst e
    have bl := bc_le st
    have b1 := hB.1.1
    refine kx_enter_e (lv := [_, _, _, _, _, _, _]) (by decide +kernel) (Nat.le_of_ble_eq_true rfl) rfl ?_
    refine kx_iload_n (pc := 0) (kx_dd d_Mo_choose 0 rfl) rfl rfl ?_
    refine kx_iload_n (pc := 1) (kx_dd d_Mo_choose 1 rfl) rfl rfl ?_
    refine kx_icmp_ne (pc := 2) (tgt := 62) (kx_dd d_Mo_choose 2 rfl) rfl (fun c2 => ?_) (fun c2 => ?_)
    · exact absurd rfl c2
    · refine kx_lload (pc := 5) (kx_dd d_Mo_choose 3 rfl) rfl ?_
      refine kx_invS (pc := 7) (as := [_]) (kx_dd d_Mo_choose 4 rfl) ⟨lk_Mo_588, wt_Mo_bitsOf⟩ w_Mo_bitsOf rfl rfl (Nat.le_of_ble_eq_true rfl) (y_bitsOf (d := d) st (by omega)) (Nat.le_refl _) ⟨Nat.le_refl _, Nat.le_refl _⟩ (fun v h' hq => ?_)
      obtain ⟨rfl, he⟩ := hq
      rw [he]
      clear he
      refine kx_aload_n (pc := 10) (kx_dd d_Mo_choose 5 rfl) rfl rfl ?_
      refine kx_getI (pc := 11) fl_Mo_592 (hm.k 0 rfl) rfl (kx_dd d_Mo_choose 6 rfl) ?_
      refine kx_icmp_gt (pc := 14) (tgt := 18) (kx_dd d_Mo_choose 7 rfl) rfl (fun c14 => ?_) (fun c14 => ?_)
      · refine kx_aload_n (pc := 18) (kx_dd d_Mo_choose 9 rfl) rfl rfl ?_
        refine kx_lload (pc := 19) (kx_dd d_Mo_choose 10 rfl) rfl ?_
        refine kx_invS (pc := 21) (as := [_]) (kx_dd d_Mo_choose 11 rfl) ⟨lk_Mo_588, wt_Mo_bitsOf⟩ w_Mo_bitsOf rfl rfl (Nat.le_of_ble_eq_true rfl) (y_bitsOf (d := d) st (by omega)) (Nat.le_refl _) ⟨Nat.le_refl _, Nat.le_refl _⟩ (fun v h' hq => ?_)
        obtain ⟨rfl, he⟩ := hq
        rw [he]
        clear he
        refine kx_putI (pc := 24) fl_Mo_592 (hm.k 0 rfl) (by decide) rfl rfl (kx_dd d_Mo_choose 12 rfl) ?_
        refine kx_aload_n (pc := 27) (kx_dd d_Mo_choose 13 rfl) rfl rfl ?_
        refine kx_iload_n (pc := 28) (kx_dd d_Mo_choose 14 rfl) rfl rfl ?_
        refine kx_putI (pc := 29) fl_Mo_595 (hm.k 0 rfl) (by decide) rfl rfl (kx_dd d_Mo_choose 15 rfl) ?_
        refine kx_iconst (pc := 32) (v := 0) (kx_dd d_Mo_choose 16 rfl) rfl ?_
        refine kx_istore_e (pc := 33) (lv' := [_, _, _, _, _, _, _]) (kx_dd d_Mo_choose 17 rfl) (Nat.le_of_ble_eq_true rfl) rfl ?_
        rw [hB.2.1, nI_ltI (by omega) (by omega)] at c14
        refine kx_mono (fun v h' z => ?_) (y_cp_loop (d := d + 0 + 1) k hN st tr h _ _ _ k 0 (by omega) (kx_setI (kx_setI h 84 86 (nI (bc st))) 84 85 (nI k)) hm ((kx_Fc.set (by unfold FcM; omega)).tr (kx_Fc.set (by unfold FcM; omega))) (by rw [setI_ne (Or.inr (by decide)), setI_at]) setI_at (fun p hp9 => by rw [setI_ne (Or.inl (by decide)), setI_ne (Or.inl (by decide))]; exact ht p hp9) (fun p hp9 => absurd hp9 (Nat.not_lt_zero p)))
        refine ⟨z.1, ?_, z.2.2⟩
        rw [chF_0, show offF B st k tr = (bc st, k, tr) from if_pos c14]
        exact z.2.1
      · refine kx_vret (pc := 17) rfl (kx_dd d_Mo_choose 8 rfl) (Nat.le_refl _) (Nat.le_refl _) ?_
        rw [hB.2.1, nI_ltI (by omega) (by omega)] at c14
        exact ⟨rfl, by rw [chF_0, offF_n (by omega)]; exact hB, kx_Fc.rf⟩
  | succ f ih =>
    intro k hk h fr st tr B hm hp hL ht hB hst hfr
    refine kx_enter_e (lv := [_, _, _, _, _, _, _]) (by decide +kernel) (Nat.le_of_ble_eq_true rfl) rfl ?_
    refine kx_iload_n (pc := 0) (kx_dd d_Mo_choose 0 rfl) rfl rfl ?_
    refine kx_iload_n (pc := 1) (kx_dd d_Mo_choose 1 rfl) rfl rfl ?_
    refine kx_icmp_ne (pc := 2) (tgt := 62) (kx_dd d_Mo_choose 2 rfl) rfl (fun c2 => ?_) (fun c2 => ?_)
    · refine kx_iload_n (pc := 62) (kx_dd d_Mo_choose 32 rfl) rfl rfl ?_
      refine kx_istore_e (pc := 63) (lv' := [_, _, _, _, _, _, _]) (kx_dd d_Mo_choose 33 rfl) (Nat.le_of_ble_eq_true rfl) rfl ?_
      exact y_ch_loop nw T hwt D ho q N hN f k hk h hm hp hL fr st hst tr ht B (fun h fr st tr B a1 a2 a3 a4 a5 a6 a7 => ih (k + 1) (by omega) h fr st tr B a1 a2 a3 a4 a5 a6 a7) (D.2.2.1.1 - fr) 0 (by omega) h kx_Fc.rf hB
    · exact absurd ((nI_eq (by omega) (by omega)).mp c2) (by omega)
theorem y_lk_in {l : Launch} {g : kx_G} {d : Nat} (h0 : kx_Mem) (hm0 : SM h0) (nw : Nat) (T : Nat → Nat) (hwt : WTok nw T) (D : DK) (ho : DKok D) (hp0 : DKm D nw T h0) (r : RU) (u : Nat) (hu : u < 4) (hse : RSet r) (hrp0 : RUm r u nw T h0) (hif0 : h0.1 84 31 = nI u) (Q : Option Value → kx_Mem → Prop) (x1 : Int32) (c : Nat) (hc : c < D.2.2.1.1) (kont : ∀ h w3, kx_Fg (fun _ _ => False) (fun b _ => b = 146) h0 h → (∀ i, i < c + 1 → h.2.1 146 i = lN (lkN D (rsN r 8) i)) → kx_X (l, g, m_Mo_tests, d + 3, 0, 0, Q) 0 0 17 [some (.ref 84), some (.int x1), some (.int (nI (c + 1))), w3] [] h) : ∀ f e, e + f = D.2.2.1.1 → ∀ h, kx_Fg (fun _ _ => False) (fun b _ => b = 146) h0 h → (∀ i, i < c → h.2.1 146 i = lN (lkN D (rsN r 8) i)) → h.2.1 146 c = lN (pvK (likB D (rsN r 8) c) e) → kx_X (l, g, m_Mo_tests, d + 3, 0, 0, Q) 0 0 34 [some (.ref 84), some (.int x1), some (.int (nI c)), some (.int (nI e))] [] h := by
  intro f
  induction f with
  | zero =>
    intro e he h hf hI hc9
    have e9 : e = D.2.2.1.1 := by omega
    subst e9
    have hm : SM h := hm0.fg hf
    have e0 : h.1 = h0.1 := by funext a j; exact hf.1 a j id
    have hp : DKm D nw T h := hp0.fx (P := fun _ _ => False) hf.1 (fun _ _ _ z => z)
    have hrp : RUm r u nw T h := by unfold RUm; rw [e0]; exact hrp0
    have hif : h.1 84 31 = nI u := by rw [e0]; exact hif0
    have o1 := ho.2.2.1.1
    have e51 : h.1 84 51 = nI D.2.2.1.1 := hp.2.2.1.1
    refine kx_iload_n (pc := 34) (kx_dd d_Mo_tests 21 rfl) rfl rfl ?_
    refine kx_aload_n (pc := 35) (kx_dd d_Mo_tests 22 rfl) rfl rfl ?_
    refine kx_getI (pc := 36) fl_Mo_510 (hm.k 0 rfl) rfl (kx_dd d_Mo_tests 23 rfl) ?_
    refine kx_icmp_ge (pc := 39) (tgt := 78) (kx_dd d_Mo_tests 24 rfl) rfl (fun c39 => ?_) (fun c39 => ?_)
    · refine kx_iinc_e (pc := 78) (v := nI (c + 1)) (lv' := [_, _, _, _]) (kx_dd d_Mo_tests 47 rfl) rfl (Nat.le_of_ble_eq_true rfl) (nI_1 c) rfl ?_
      refine kx_goto (pc := 81) (tgt := 17) (kx_dd d_Mo_tests 48 rfl) rfl ?_
      refine kont h _ hf (fun i hi => ?_)
      rcases Nat.lt_succ_iff_lt_or_eq.mp hi with z | z
      · exact hI i z
      · rw [z]; exact hc9
    · exact absurd (by rw [e51]; exact Int32.le_refl _) c39
  | succ f ih =>
    intro e he h hf hI hc9
    have hm : SM h := hm0.fg hf
    have e0 : h.1 = h0.1 := by funext a j; exact hf.1 a j id
    have hp : DKm D nw T h := hp0.fx (P := fun _ _ => False) hf.1 (fun _ _ _ z => z)
    have hrp : RUm r u nw T h := by unfold RUm; rw [e0]; exact hrp0
    have hif : h.1 84 31 = nI u := by rw [e0]; exact hif0
    have o1 := ho.2.2.1.1
    have e51 : h.1 84 51 = nI D.2.2.1.1 := hp.2.2.1.1
    have hel : e < D.2.2.1.1 := by omega
    have e8 : h.1 130 e = nI (cN D.2.2.1 e 8) := ((hp.2.2.1.2 e hel).1 8 (by decide) (by decide) (by decide)).trans ((ho.2.2.1.2 e hel).1 8 (by decide) (by decide) (by decide) (by decide))
    have b8 : cN D.2.2.1 e 8 ≤ 3 := (ho.2.2.1.2 e hel).2.2.2.2.2.2.2.2.2.1
    refine kx_iload_n (pc := 34) (kx_dd d_Mo_tests 21 rfl) rfl rfl ?_
    refine kx_aload_n (pc := 35) (kx_dd d_Mo_tests 22 rfl) rfl rfl ?_
    refine kx_getI (pc := 36) fl_Mo_510 (hm.k 0 rfl) rfl (kx_dd d_Mo_tests 23 rfl) ?_
    refine kx_icmp_ge (pc := 39) (tgt := 78) (kx_dd d_Mo_tests 24 rfl) rfl (fun c39 => ?_) (fun c39 => ?_)
    · exact absurd c39 (by rw [e51]; exact nI_ge (by omega) (by omega))
    · refine kx_aload_n (pc := 42) (kx_dd d_Mo_tests 25 rfl) rfl rfl ?_
      refine kx_getR (pc := 43) (b := 130) fl_Mo_348 (hm.k 0 rfl) rfl (hm.r 45 rfl) (kx_dd d_Mo_tests 26 rfl) ?_
      refine kx_iload_n (pc := 46) (kx_dd d_Mo_tests 27 rfl) rfl rfl ?_
      refine kx_ialdn (pc := 47) e (hm.t 46 rfl) rfl (by omega) (by decide) (kx_dd d_Mo_tests 28 rfl) ?_
      refine kx_if_ne (pc := 48) (tgt := 72) (kx_dd d_Mo_tests 29 rfl) rfl (fun c48 => ?_) (fun c48 => ?_)
      · refine kx_iinc_e (pc := 72) (v := nI (e + 1)) (lv' := [_, _, _, _]) (kx_dd d_Mo_tests 45 rfl) rfl (Nat.le_of_ble_eq_true rfl) (nI_1 e) rfl ?_
        refine kx_goto (pc := 75) (tgt := 34) (kx_dd d_Mo_tests 46 rfl) rfl ?_
        rw [e8, nI_z (by omega)] at c48
        have e7 : pvK (likB D (rsN r 8) c) (e + 1) = pvK (likB D (rsN r 8) c) e := if_neg (by unfold likB; simp only [decide_eq_true_iff]; exact fun z => c48 z.1)
        exact ih (e + 1) (by omega) h hf hI (by rw [e7]; exact hc9)
      · refine kx_aload_n (pc := 51) (kx_dd d_Mo_tests 30 rfl) rfl rfl ?_
        refine kx_iload_n (pc := 52) (kx_dd d_Mo_tests 31 rfl) rfl rfl ?_
        refine kx_iload_n (pc := 53) (kx_dd d_Mo_tests 32 rfl) rfl rfl ?_
        refine kx_invV (pc := 54) (a := 84) (as := [_, _]) (kx_dd d_Mo_tests 33 rfl) ⟨lk_Mo_585, wi_Mo_areLike, we_Mo_areLike⟩ w_Mo_areLike (hm.k 0 rfl) rfl rfl rfl rfl (Nat.le_of_ble_eq_true rfl) (y_areLike (d := d + 1) hm nw T hwt D ho hp r u hu hse hrp hif c e hc hel) (Nat.le_refl _) ⟨Nat.le_refl _, Nat.le_refl _⟩ (fun v h' hq => ?_)
        obtain ⟨rfl, he⟩ := hq
        rw [he]
        clear he
        refine kx_if_eq (pc := 57) (tgt := 72) (kx_dd d_Mo_tests 34 rfl) rfl (fun c57 => ?_) (fun c57 => ?_)
        · refine kx_iinc_e (pc := 72) (v := nI (e + 1)) (lv' := [_, _, _, _]) (kx_dd d_Mo_tests 45 rfl) rfl (Nat.le_of_ble_eq_true rfl) (nI_1 e) rfl ?_
          refine kx_goto (pc := 75) (tgt := 34) (kx_dd d_Mo_tests 46 rfl) rfl ?_
          have e7 : pvK (likB D (rsN r 8) c) (e + 1) = pvK (likB D (rsN r 8) c) e := if_neg (by unfold likB; simp only [decide_eq_true_iff]; exact fun z => bP_0.mp c57 z.2)
          exact ih (e + 1) (by omega) h hf hI (by rw [e7]; exact hc9)
        · refine kx_aload_n (pc := 60) (kx_dd d_Mo_tests 35 rfl) rfl rfl ?_
          refine kx_getR (pc := 61) (b := 146) fl_Mo_396 (hm.k 0 rfl) rfl (hm.r 61 rfl) (kx_dd d_Mo_tests 36 rfl) ?_
          refine kx_iload_n (pc := 64) (kx_dd d_Mo_tests 37 rfl) rfl rfl ?_
          refine kx_dup2 (pc := 65) (kx_dd d_Mo_tests 38 rfl) rfl rfl ?_
          refine kx_laldn (pc := 66) c (hm.t 62 rfl) rfl (by omega) (by decide) (kx_dd d_Mo_tests 39 rfl) ?_
          rw [hc9]
          refine kx_lconst (pc := 67) (v := 1) (kx_dd d_Mo_tests 40 rfl) rfl ?_
          refine kx_iload_n (pc := 68) (kx_dd d_Mo_tests 41 rfl) rfl rfl ?_
          refine kx_lshl (pc := 69) (kx_dd d_Mo_tests 42 rfl) ?_
          rw [lN_pow (by omega)]
          refine kx_lor (pc := 70) (kx_dd d_Mo_tests 43 rfl) ?_
          rw [lN_or]
          refine kx_lastn (pc := 71) c (hm.t 62 rfl) (by decide) rfl (by omega) (by decide) (kx_dd d_Mo_tests 44 rfl) ?_
          refine kx_iinc_e (pc := 72) (v := nI (e + 1)) (lv' := [_, _, _, _]) (kx_dd d_Mo_tests 45 rfl) rfl (Nat.le_of_ble_eq_true rfl) (nI_1 e) rfl ?_
          refine kx_goto (pc := 75) (tgt := 34) (kx_dd d_Mo_tests 46 rfl) rfl ?_
          rw [e8, nI_z (by omega)] at c48
          have e7 : pvK (likB D (rsN r 8) c) (e + 1) = pvK (likB D (rsN r 8) c) e ||| 2 ^ e := if_pos (by unfold likB; simp only [decide_eq_true_iff]; exact ⟨c48, (bP_ti _).mp c57⟩)
          exact ih (e + 1) (by omega) _ (hf.tr (kx_Fg.setL rfl)) (fun i hi => by rw [setL_ne (Or.inr (by omega))]; exact hI i hi) (by rw [e7, setL_at])
theorem y_lk_out {l : Launch} {g : kx_G} {d : Nat} (h0 : kx_Mem) (hm0 : SM h0) (nw : Nat) (T : Nat → Nat) (hwt : WTok nw T) (D : DK) (ho : DKok D) (hp0 : DKm D nw T h0) (r : RU) (u : Nat) (hu : u < 4) (hse : RSet r) (hrp0 : RUm r u nw T h0) (hif0 : h0.1 84 31 = nI u) (Q : Option Value → kx_Mem → Prop) (x1 : Int32) (kont : ∀ h w3, kx_Fg (fun _ _ => False) (fun b _ => b = 146) h0 h → LKm D (rsN r 8) h → kx_X (l, g, m_Mo_tests, d + 3, 0, 0, Q) 0 0 84 [some (.ref 84), some (.int x1), some (.int (nI D.2.2.1.1)), w3] [] h) : ∀ f c, c + f = D.2.2.1.1 → ∀ h w3, kx_Fg (fun _ _ => False) (fun b _ => b = 146) h0 h → (∀ i, i < c → h.2.1 146 i = lN (lkN D (rsN r 8) i)) → kx_X (l, g, m_Mo_tests, d + 3, 0, 0, Q) 0 0 17 [some (.ref 84), some (.int x1), some (.int (nI c)), w3] [] h := by
  intro f
  induction f with
  | zero =>
    intro c hc h w3 hf hI
    have e9 : c = D.2.2.1.1 := by omega
    subst e9
    have hm : SM h := hm0.fg hf
    have e0 : h.1 = h0.1 := by funext a j; exact hf.1 a j id
    have hp : DKm D nw T h := hp0.fx (P := fun _ _ => False) hf.1 (fun _ _ _ z => z)
    have hrp : RUm r u nw T h := by unfold RUm; rw [e0]; exact hrp0
    have hif : h.1 84 31 = nI u := by rw [e0]; exact hif0
    have o1 := ho.2.2.1.1
    have e51 : h.1 84 51 = nI D.2.2.1.1 := hp.2.2.1.1
    refine kx_iload_n (pc := 17) (kx_dd d_Mo_tests 10 rfl) rfl rfl ?_
    refine kx_aload_n (pc := 18) (kx_dd d_Mo_tests 11 rfl) rfl rfl ?_
    refine kx_getI (pc := 19) fl_Mo_510 (hm.k 0 rfl) rfl (kx_dd d_Mo_tests 12 rfl) ?_
    refine kx_icmp_ge (pc := 22) (tgt := 84) (kx_dd d_Mo_tests 13 rfl) rfl (fun c22 => ?_) (fun c22 => ?_)
    · exact kont h _ hf hI
    · exact absurd (by rw [e51]; exact Int32.le_refl _) c22
  | succ f ih =>
    intro c hc h w3 hf hI
    have hm : SM h := hm0.fg hf
    have e0 : h.1 = h0.1 := by funext a j; exact hf.1 a j id
    have hp : DKm D nw T h := hp0.fx (P := fun _ _ => False) hf.1 (fun _ _ _ z => z)
    have hrp : RUm r u nw T h := by unfold RUm; rw [e0]; exact hrp0
    have hif : h.1 84 31 = nI u := by rw [e0]; exact hif0
    have o1 := ho.2.2.1.1
    have e51 : h.1 84 51 = nI D.2.2.1.1 := hp.2.2.1.1
    refine kx_iload_n (pc := 17) (kx_dd d_Mo_tests 10 rfl) rfl rfl ?_
    refine kx_aload_n (pc := 18) (kx_dd d_Mo_tests 11 rfl) rfl rfl ?_
    refine kx_getI (pc := 19) fl_Mo_510 (hm.k 0 rfl) rfl (kx_dd d_Mo_tests 12 rfl) ?_
    refine kx_icmp_ge (pc := 22) (tgt := 84) (kx_dd d_Mo_tests 13 rfl) rfl (fun c22 => ?_) (fun c22 => ?_)
    · exact absurd c22 (by rw [e51]; exact nI_ge (by omega) (by omega))
    · refine kx_aload_n (pc := 25) (kx_dd d_Mo_tests 14 rfl) rfl rfl ?_
      refine kx_getR (pc := 26) (b := 146) fl_Mo_396 (hm.k 0 rfl) rfl (hm.r 61 rfl) (kx_dd d_Mo_tests 15 rfl) ?_
      refine kx_iload_n (pc := 29) (kx_dd d_Mo_tests 16 rfl) rfl rfl ?_
      refine kx_lconst (pc := 30) (v := 0) (kx_dd d_Mo_tests 17 rfl) rfl ?_
      refine kx_lastn (pc := 31) c (hm.t 62 rfl) (by decide) rfl (by omega) (by decide) (kx_dd d_Mo_tests 18 rfl) ?_
      refine kx_iconst (pc := 32) (v := 0) (kx_dd d_Mo_tests 19 rfl) rfl ?_
      refine kx_istore_ne (pc := 33) (lv' := [_, _, _, _]) (kx_dd d_Mo_tests 20 rfl) rfl (Nat.le_of_ble_eq_true rfl) rfl ?_
      refine y_lk_in h0 hm0 nw T hwt D ho hp0 r u hu hse hrp0 hif0 Q x1 c (by omega) (fun h w3 a1 a2 => ih (c + 1) (by omega) h w3 a1 a2) D.2.2.1.1 0 (by omega) _ (hf.tr (kx_Fg.setL rfl)) (fun i hi => by rw [setL_ne (Or.inr (by omega))]; exact hI i hi) ?_
      rw [setL_at]
      rfl
theorem y_sz_loop {l : Launch} {g : kx_G} {d : Nat} (h0 : kx_Mem) (hm0 : SM h0) (nw : Nat) (T : Nat → Nat) (hwt : WTok nw T) (D : DK) (ho : DKok D) (hp0 : DKm D nw T h0) (q : Nat) (hL0 : LKm D q h0) (N : Nat) (hN : N ≤ 3) : ∀ f m, m + f = N → ∀ h w3, kx_Fc (FcM 0) h0 h → TBm (tstF D q m) h → kx_X (l, g, m_Mo_tests, d + 5, 0, 0, (fun v h' => v = some (.int (nI (tstF D q N).1)) ∧ TBm (tstF D q N) h' ∧ kx_Fc (FcM 0) h0 h')) 0 0 96 [some (.ref 84), some (.int (nI N)), some (.int (nI (m + 1))), w3] [] h := by
  intro f
  induction f with
  | zero =>
    intro m hm9 h w3 hf hB
    have e9 : m = N := by omega
    subst e9
    have hm : SM h := hm0.fc hf
    have hp : DKm D nw T h := hp0.c hf
    have hL : LKm D q h := fun c hc => by rw [hf.1]; exact hL0 c hc
    refine kx_iload_n (pc := 96) (kx_dd d_Mo_tests 57 rfl) rfl rfl ?_
    refine kx_iload_n (pc := 97) (kx_dd d_Mo_tests 58 rfl) rfl rfl ?_
    refine kx_icmp_gt (pc := 98) (tgt := 115) (kx_dd d_Mo_tests 59 rfl) rfl (fun c98 => ?_) (fun c98 => ?_)
    · refine kx_aload_n (pc := 115) (kx_dd d_Mo_tests 68 rfl) rfl rfl ?_
      refine kx_getI (pc := 116) fl_Mo_592 (hm.k 0 rfl) rfl (kx_dd d_Mo_tests 69 rfl) ?_
      refine kx_iret (pc := 119) rfl (kx_dd d_Mo_tests 70 rfl) (Nat.le_refl _) (Nat.le_refl _) ?_
      exact ⟨by rw [hB.2.1], hB, hf⟩
    · exact absurd (nI_lt (by omega) (by omega)) c98
  | succ f ih =>
    intro m hm9 h w3 hf hB
    have hm : SM h := hm0.fc hf
    have hp : DKm D nw T h := hp0.c hf
    have hL : LKm D q h := fun c hc => by rw [hf.1]; exact hL0 c hc
    refine kx_iload_n (pc := 96) (kx_dd d_Mo_tests 57 rfl) rfl rfl ?_
    refine kx_iload_n (pc := 97) (kx_dd d_Mo_tests 58 rfl) rfl rfl ?_
    refine kx_icmp_gt (pc := 98) (tgt := 115) (kx_dd d_Mo_tests 59 rfl) rfl (fun c98 => ?_) (fun c98 => ?_)
    · exact absurd c98 (nI_nlt (by omega) (by omega))
    · refine kx_aload_n (pc := 101) (kx_dd d_Mo_tests 60 rfl) rfl rfl ?_
      refine kx_iload_n (pc := 102) (kx_dd d_Mo_tests 61 rfl) rfl rfl ?_
      refine kx_iconst (pc := 103) (v := 0) (kx_dd d_Mo_tests 62 rfl) rfl ?_
      refine kx_iconst (pc := 104) (v := 0) (kx_dd d_Mo_tests 63 rfl) rfl ?_
      refine kx_lconst (pc := 105) (v := 0) (kx_dd d_Mo_tests 64 rfl) rfl ?_
      refine kx_invV (pc := 106) (a := 84) (as := [_, _, _, _]) (kx_dd d_Mo_tests 65 rfl) ⟨lk_Mo_598, wi_Mo_choose, we_Mo_choose⟩ w_Mo_choose (hm.k 0 rfl) rfl rfl rfl rfl (Nat.le_of_ble_eq_true rfl) (y_choose (d := d + (2 - m)) nw T hwt D ho q (m + 1) (by omega) (m + 1) 0 (by omega) h 0 0 tr0 _ hm hp hL (fun p hp9 => absurd hp9 (Nat.not_lt_zero p)) hB (by decide) (Nat.zero_le _)) (by show d + (2 - m) + (m + 1) + 1 + 1 ≤ d + 5; omega) ⟨Nat.le_refl _, Nat.le_refl _⟩ (fun v h' hq => ?_)
      revert h'
      intro h1 hq
      obtain ⟨rfl, hB1, hf1⟩ := hq
      refine kx_iinc_e (pc := 109) (v := nI (m + 1 + 1)) (lv' := [_, _, _, _]) (kx_dd d_Mo_tests 66 rfl) rfl (Nat.le_of_ble_eq_true rfl) (nI_1 _) rfl ?_
      refine kx_goto (pc := 112) (tgt := 96) (kx_dd d_Mo_tests 67 rfl) rfl ?_
      exact ih (m + 1) (by omega) h1 _ (hf.tr hf1) hB1
theorem y_tests {l : Launch} {g : kx_G} {d : Nat} {h : kx_Mem} (hm : SM h) (nw : Nat) (T : Nat → Nat) (hwt : WTok nw T) (D : DK) (ho : DKok D) (hp : DKm D nw T h) (r : RU) (u : Nat) (hu : u < 4) (hse : RSet r) (hrp : RUm r u nw T h) (hif : h.1 84 31 = nI u) (a : Int32) : kx_Sp l g m_Mo_tests [.ref 84, .int a] h (d + 5) 0 0 (fun v h' => TsQ D (rsN r 8) TBm (kx_Fg (FcM 0) (fun b _ => b = 146)) a h v h') := by
  refine kx_enter_e (lv := [_, _, _, _]) (by decide +kernel) (Nat.le_of_ble_eq_true rfl) rfl ?_
  refine kx_iload_n (pc := 0) (kx_dd d_Mo_tests 0 rfl) rfl rfl ?_
  refine kx_i2l (pc := 1) (kx_dd d_Mo_tests 1 rfl) ?_
  refine kx_lconst (pc := 2) (v := 1) (kx_dd d_Mo_tests 2 rfl) rfl ?_
  refine kx_ldc2 (pc := 3) kl_Mo_234 (kx_dd d_Mo_tests 3 rfl) ?_
  refine kx_invS (pc := 6) (as := [_, _, _]) (kx_dd d_Mo_tests 4 rfl) ⟨lk_Mo_5, wt_Mo_in⟩ w_Mo_in rfl rfl (Nat.le_of_ble_eq_true rfl) (y_in (d := d + 4) _ _ _) (Nat.le_refl _) ⟨Nat.le_refl _, Nat.le_refl _⟩ (fun v h' hq => ?_)
  obtain ⟨rfl, he⟩ := hq
  rw [he]
  clear he
  rw [show (1 : Int64) = (1 : Int32).toInt64 by decide, show (3 : Int64) = (3 : Int32).toInt64 by decide, w_le, w_le]
  refine kx_if_ne (pc := 9) (tgt := 15) (kx_dd d_Mo_tests 5 rfl) rfl (fun c9 => ?_) (fun c9 => ?_)
  · obtain ⟨k9, k1, k3, rfl⟩ := val13 ((bP_ti _).mp c9)
    refine kx_iconst (pc := 15) (v := 0) (kx_dd d_Mo_tests 8 rfl) rfl ?_
    refine kx_istore_ne (pc := 16) (lv' := [_, _, _, _]) (kx_dd d_Mo_tests 9 rfl) rfl (Nat.le_of_ble_eq_true rfl) rfl ?_
    refine y_lk_out (d := d + 2) h hm nw T hwt D ho hp r u hu hse hrp hif _ _ (fun h3 w3 hf3 hL3 => ?_) D.2.2.1.1 0 (by omega) h _ kx_Fg.rf (fun i hi => absurd hi (Nat.not_lt_zero i))
    have hm : SM h3 := hm.fg hf3
    refine kx_aload_n (pc := 84) (kx_dd d_Mo_tests 49 rfl) rfl rfl ?_
    refine kx_iconst (pc := 85) (v := 0) (kx_dd d_Mo_tests 50 rfl) rfl ?_
    refine kx_putI (pc := 86) fl_Mo_592 (hm.k 0 rfl) (by decide) rfl rfl (kx_dd d_Mo_tests 51 rfl) ?_
    refine kx_aload_n (pc := 89) (kx_dd d_Mo_tests 52 rfl) rfl rfl ?_
    refine kx_iconst (pc := 90) (v := 0) (kx_dd d_Mo_tests 53 rfl) rfl ?_
    refine kx_putI (pc := 91) fl_Mo_595 (hm.k 0 rfl) (by decide) rfl rfl (kx_dd d_Mo_tests 54 rfl) ?_
    refine kx_iconst (pc := 94) (v := 1) (kx_dd d_Mo_tests 55 rfl) rfl ?_
    refine kx_istore_ne (pc := 95) (lv' := [_, _, _, _]) (kx_dd d_Mo_tests 56 rfl) rfl (Nat.le_of_ble_eq_true rfl) rfl ?_
    have hf4 : kx_Fc (FcM 0) h3 (kx_setI (kx_setI h3 84 86 0) 84 85 0) := (kx_Fc.set (by unfold FcM; omega)).tr (kx_Fc.set (by unfold FcM; omega))
    have hm4 : SM (kx_setI (kx_setI h3 84 86 0) 84 85 0) := hm.fc hf4
    have hp4 : DKm D nw T (kx_setI (kx_setI h3 84 86 0) 84 85 0) := (hp.fx (P := fun _ _ => False) hf3.1 (fun _ _ _ z => z)).c hf4
    have hB4 : TBm (tstF D (rsN r 8) 0) (kx_setI (kx_setI h3 84 86 0) 84 85 0) := ⟨⟨Nat.zero_le _, Nat.zero_le _⟩, by rw [setI_ne (Or.inr (by decide)), setI_at]; rfl, by rw [setI_at]; rfl, fun p hp9 => absurd hp9 (Nat.not_lt_zero p)⟩
    have hL4 : LKm D (rsN r 8) (kx_setI (kx_setI h3 84 86 0) 84 85 0) := hL3
    generalize (kx_setI (kx_setI h3 84 86 0) 84 85 0) = h4 at hf4 hm4 hp4 hB4 hL4 ⊢
    refine kx_mono (fun v h' z => ?_) (y_sz_loop h4 hm4 nw T hwt D ho hp4 (rsN r 8) hL4 k9 k3 k9 0 (by omega) h4 _ kx_Fc.rf hB4)
    exact Or.inr ⟨k9, k1, k3, rfl, z.1, z.2.1, (hf3.mono (fun _ _ z => z.elim) (fun _ _ z => z)).tr ((hf4.tr z.2.2).g)⟩
  · refine kx_bipush (pc := 12) (v := -2) (kx_dd d_Mo_tests 6 rfl) rfl ?_
    refine kx_iret (pc := 14) rfl (kx_dd d_Mo_tests 7 rfl) (Nat.le_refl _) (Nat.le_refl _) ?_
    exact Or.inl ⟨bP_0.mp c9, rfl, rfl⟩
theorem y_test {l : Launch} {g : kx_G} {d : Nat} {h : kx_Mem} (hm : SM h) (B : TB) (hB : TBm B h) (a : Int32) : kx_Sp l g m_Mo_test [.ref 84, .int a] h (d + 1) 0 0 (fun v h' => v = some (.int (if 0 ≤ a ∧ a < nI B.2.1 then B.2.2 a.toNatClampNeg else -1)) ∧ h' = h) := by
  have b1 := hB.1.2
  refine kx_enter_e (lv := [_, _]) (by decide +kernel) (Nat.le_of_ble_eq_true rfl) rfl ?_
  refine kx_iload_n (pc := 0) (kx_dd d_Mo_test 0 rfl) rfl rfl ?_
  refine kx_i2l (pc := 1) (kx_dd d_Mo_test 1 rfl) ?_
  refine kx_lconst (pc := 2) (v := 0) (kx_dd d_Mo_test 2 rfl) rfl ?_
  refine kx_aload_n (pc := 3) (kx_dd d_Mo_test 3 rfl) rfl rfl ?_
  refine kx_getI (pc := 4) fl_Mo_595 (hm.k 0 rfl) rfl (kx_dd d_Mo_test 4 rfl) ?_
  refine kx_i2l (pc := 7) (kx_dd d_Mo_test 5 rfl) ?_
  refine kx_lconst (pc := 8) (v := 1) (kx_dd d_Mo_test 6 rfl) rfl ?_
  refine kx_lsub (pc := 9) (kx_dd d_Mo_test 7 rfl) ?_
  refine kx_invS (pc := 10) (as := [_, _, _]) (kx_dd d_Mo_test 8 rfl) ⟨lk_Mo_5, wt_Mo_in⟩ w_Mo_in rfl rfl (Nat.le_of_ble_eq_true rfl) (y_in (d := d) _ _ _) (Nat.le_refl _) ⟨Nat.le_refl _, Nat.le_refl _⟩ (fun v h' hq => ?_)
  obtain ⟨rfl, he⟩ := hq
  rw [he]
  clear he
  refine kx_if_eq (pc := 13) (tgt := 25) (kx_dd d_Mo_test 9 rfl) rfl (fun c13 => ?_) (fun c13 => ?_)
  · refine kx_iconst (pc := 25) (v := -1) (kx_dd d_Mo_test 15 rfl) rfl ?_
    refine kx_iret (pc := 26) rfl (kx_dd d_Mo_test 16 rfl) (Nat.le_refl _) (Nat.le_refl _) ?_
    have c13 := bP_0.mp c13
    rw [hB.2.2.1, w_le0, w_pred (by omega)] at c13
    exact ⟨by rw [if_neg c13], rfl⟩
  · have c13 := (bP_ti _).mp c13
    rw [hB.2.2.1, w_le0, w_pred (by omega)] at c13
    obtain ⟨k9, hk9, rfl⟩ := valP (n := B.2.1) (by omega) c13
    refine kx_aload_n (pc := 16) (kx_dd d_Mo_test 10 rfl) rfl rfl ?_
    refine kx_getR (pc := 17) (b := 147) fl_Mo_400 (hm.k 0 rfl) rfl (hm.r 62 rfl) (kx_dd d_Mo_test 11 rfl) ?_
    refine kx_iload_n (pc := 20) (kx_dd d_Mo_test 12 rfl) rfl rfl ?_
    refine kx_ialdn (pc := 21) k9 (hm.t 63 rfl) rfl (by omega) (by decide) (kx_dd d_Mo_test 13 rfl) ?_
    rw [hB.2.2.2 k9 hk9]
    refine kx_goto (pc := 22) (tgt := 26) (kx_dd d_Mo_test 14 rfl) rfl ?_
    refine kx_iret (pc := 26) rfl (kx_dd d_Mo_test 16 rfl) (Nat.le_refl _) (Nat.le_refl _) ?_
    exact ⟨by rw [if_pos c13, nI_clamp (by omega)], rfl⟩
