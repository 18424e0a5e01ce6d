/-! test cases: the class: pairs, triples, choose; tests, test -/
noncomputable def chSt (O : Nat → Prop) (lk : Nat → Nat) (n N f k st : Nat) (tr : Nat → Int32) : Nat → TB → TB := fun c B => @ite TB (O c) (Classical.propDecidable _) (chF O lk n N f (k + 1) (c + 1) (st ||| lk c) (upF tr k (nI c)) B) B
theorem chF_s {O : Nat → Prop} {lk : Nat → Nat} {n N f k fr st : Nat} {tr : Nat → Int32} {B : TB} : chF O lk n N (f + 1) k fr st tr B = chL (chSt O lk n N f k st tr) fr (n - fr) B := rfl
theorem chF_0 {O : Nat → Prop} {lk : Nat → Nat} {n N k fr st : Nat} {tr : Nat → Int32} {B : TB} : chF O lk n N 0 k fr st tr B = offF B st N tr := rfl
theorem chSt_t {O : Nat → Prop} {lk : Nat → Nat} {n N f k st c : Nat} {tr : Nat → Int32} {B : TB} (h : O c) : chSt O lk n N f k st tr c B = chF O lk n N f (k + 1) (c + 1) (st ||| lk c) (upF tr k (nI c)) B := if_pos h
theorem chSt_f {O : Nat → Prop} {lk : Nat → Nat} {n N f k st c : Nat} {tr : Nat → Int32} {B : TB} (h : ¬ O c) : chSt O lk n N f k st tr c B = B := if_neg h
theorem chL_0 {s : Nat → TB → TB} {fr : Nat} {B : TB} : chL s fr 0 B = B := rfl
theorem chL_id {s : Nat → TB → TB} {fr : Nat} {B : TB} : ∀ m, (∀ c, fr ≤ c → c < fr + m → s c B = B) → chL s fr m B = B
  | 0, _ => rfl
  | m + 1, h => by
    show s (fr + m) (chL s fr m B) = B
    rw [chL_id m (fun c q1 q2 => h c q1 (by omega))]
    exact h _ (by omega) (by omega)
theorem sumB_or {a b : Nat} : ∀ f, sumB (a ||| b) f ≤ sumB a f + sumB b f
  | 0 => Nat.le_refl _
  | f + 1 => by
    have ih := sumB_or (a := a) (b := b) f
    have hb : bitN (a ||| b) f ≤ bitN a f + bitN b f := by
      rw [bitN_t, bitN_t, bitN_t, Nat.testBit_or]
      cases a.testBit f <;> cases b.testBit f <;> decide
    unfold sumB
    omega
theorem bc_or {a b : Nat} : bc (a ||| b) ≤ bc a + bc b := by
  unfold bc
  rw [bcF_sum, bcF_sum, bcF_sum]
  exact sumB_or 64
theorem s1_eq {D : DK} {q i : Nat} {B : TB} : offF B (lkC D q i) 1 (upF tr0 0 (nI i)) = chSt (opD D) (lkN D q) D.2.2.1.1 1 0 0 0 tr0 i B := by
  by_cases h : opD D i
  · rw [chSt_t h, lkC_t h, chF_0, Nat.zero_or]
  · rw [chSt_f h, lkC_f h]
    exact offF_n (Nat.zero_le _)
theorem s1_wd {D : DK} {q : Nat} {B : TB} : ∀ m, B.1 ≤ (chL (chSt (opD D) (lkN D q) D.2.2.1.1 1 0 0 0 tr0) 0 m B).1 ∧ ∀ k, k < m → opD D k → bc (lkN D q k) ≤ (chL (chSt (opD D) (lkN D q) D.2.2.1.1 1 0 0 0 tr0) 0 m B).1
  | 0 => ⟨Nat.le_refl _, fun k hk => absurd hk (Nat.not_lt_zero k)⟩
  | m + 1 => by
    obtain ⟨h1, h2⟩ := s1_wd (D := D) (q := q) (B := B) m
    have e : chL (chSt (opD D) (lkN D q) D.2.2.1.1 1 0 0 0 tr0) 0 (m + 1) B = chSt (opD D) (lkN D q) D.2.2.1.1 1 0 0 0 tr0 (0 + m) (chL (chSt (opD D) (lkN D q) D.2.2.1.1 1 0 0 0 tr0) 0 m B) := rfl
    rw [e, Nat.zero_add, ← s1_eq]
    have h3 := offF_le (B := chL (chSt (opD D) (lkN D q) D.2.2.1.1 1 0 0 0 tr0) 0 m B) (cv := lkC D q m) (m := 1) (tr := upF tr0 0 (nI m))
    refine ⟨Nat.le_trans h1 h3.1, fun k hk ho => ?_⟩
    rcases Nat.lt_succ_iff_lt_or_eq.mp hk with z | z
    · exact Nat.le_trans (h2 k z ho) h3.1
    · subst z
      rw [← lkC_t (q := q) ho]
      exact h3.2
theorem TBc.fo {B : TB} {h h' : kx_Mem} {P : Nat → Nat → Prop} (hB : TBc B h) (hf : kx_Fc P h h') (hP : ∀ a j, FoP a j → ¬ P a j) : TBc B h' := ⟨hB.1, by rw [hf.2 42 3 (hP _ _ (by unfold FoP; omega))]; exact hB.2.1, by rw [hf.2 42 2 (hP _ _ (by unfold FoP; omega))]; exact hB.2.2.1, fun p hp => by rw [hf.2 44 p (hP _ _ (by unfold FoP; omega))]; exact hB.2.2.2 p hp⟩
theorem x_th_loop {l : Launch} {g : kx_G} {d : Nat} (h0 : kx_Mem) (hs0 : SC h0) (D : DK) (ho : DKok D) (q : Nat) (h4 : h0.1 42 4 = nI D.2.2.1.1) (hL : LKp D (fun a => lkC D q a) h0) (i j : Nat) (hi : i < D.2.2.1.1) (hj : j < D.2.2.1.1) (B : TB) : ∀ f m, j + 1 + m + f = D.2.2.1.1 → ∀ h, kx_Fc FoP h0 h → TBc (chL (chSt (opD D) (lkN D q) D.2.2.1.1 3 0 2 ((0 ||| lkN D q i) ||| lkN D q j) (upF (upF tr0 0 (nI i)) 1 (nI j))) (j + 1) m B) h → kx_X (l, g, m_Te_offerThirds, d + 2, 0, 0, (fun v h' => v = none ∧ TBc (chF (opD D) (lkN D q) D.2.2.1.1 3 1 2 (j + 1) ((0 ||| lkN D q i) ||| lkN D q j) (upF (upF tr0 0 (nI i)) 1 (nI j)) B) h' ∧ kx_Fc FoP h0 h')) 0 0 36 [some (.ref 42), some (.int (nI i)), some (.int (nI j)), some (.long (lN ((0 ||| lkN D q i) ||| lkN D q j))), none, some (.int (nI (j + 1 + m)))] [] h := by
  intro f
  induction f with
  | zero =>
    intro m hm h hf hB
    have hs : SC h := hs0.fc hf
    have o1 := ho.2.2.1.1
    have h4h : h.1 42 4 = nI D.2.2.1.1 := by rw [hf.2 42 4 (by unfold FoP; omega)]; exact h4
    have hLh : ∀ a, a < D.2.2.1.1 → h.2.1 43 a = lN (lkC D q a) := fun a ha => by rw [hf.1]; exact hL a ha
    have e : m = D.2.2.1.1 - (j + 1) := by omega
    refine kx_iload (pc := 36) (kx_dd d_Te_offerThirds 23 rfl) rfl ?_
    refine kx_aload_n (pc := 38) (kx_dd d_Te_offerThirds 24 rfl) rfl rfl ?_
    refine kx_getI (pc := 39) fl_Te_32 (hs.k 42 rfl) rfl (kx_dd d_Te_offerThirds 25 rfl) ?_
    refine kx_icmp_ge (pc := 42) (tgt := 81) (kx_dd d_Te_offerThirds 26 rfl) rfl (fun c42 => ?_) (fun c42 => ?_)
    · refine kx_vret (pc := 81) rfl (kx_dd d_Te_offerThirds 48 rfl) (Nat.le_refl _) (Nat.le_refl _) ?_
      exact ⟨rfl, by rw [chF_s, ← e]; exact hB, hf⟩
    · exact absurd (by rw [h4h]; exact (nI_leI (by omega) (by omega)).mpr (by omega)) c42
  | succ f ih =>
    intro m hm h hf hB
    have hs : SC h := hs0.fc hf
    have o1 := ho.2.2.1.1
    have h4h : h.1 42 4 = nI D.2.2.1.1 := by rw [hf.2 42 4 (by unfold FoP; omega)]; exact h4
    have hLh : ∀ a, a < D.2.2.1.1 → h.2.1 43 a = lN (lkC D q a) := fun a ha => by rw [hf.1]; exact hL a ha
    have hk : j + 1 + m < D.2.2.1.1 := by omega
    have hcl := lkC_lt ho (q := q) (c := j + 1 + m)
    have hst : ((0 ||| lkN D q i) ||| lkN D q j) < 2 ^ 60 := or60 (or60 (by decide) (lkN_lt ho)) (lkN_lt ho)
    refine kx_iload (pc := 36) (kx_dd d_Te_offerThirds 23 rfl) rfl ?_
    refine kx_aload_n (pc := 38) (kx_dd d_Te_offerThirds 24 rfl) rfl rfl ?_
    refine kx_getI (pc := 39) fl_Te_32 (hs.k 42 rfl) rfl (kx_dd d_Te_offerThirds 25 rfl) ?_
    refine kx_icmp_ge (pc := 42) (tgt := 81) (kx_dd d_Te_offerThirds 26 rfl) rfl (fun c42 => ?_) (fun c42 => ?_)
    · exact absurd c42 (by rw [h4h]; exact nI_ge (by omega) (by omega))
    · refine kx_aload_n (pc := 45) (kx_dd d_Te_offerThirds 27 rfl) rfl rfl ?_
      refine kx_getR (pc := 46) (b := 43) fl_Te_11 (hs.k 42 rfl) rfl (hs.r 45 rfl) (kx_dd d_Te_offerThirds 28 rfl) ?_
      refine kx_iload (pc := 49) (kx_dd d_Te_offerThirds 29 rfl) rfl ?_
      refine kx_laldn (pc := 51) (j + 1 + m) (hs.t 43 rfl) rfl (by omega) (by decide) (kx_dd d_Te_offerThirds 30 rfl) ?_
      refine kx_lconst (pc := 52) (v := 0) (kx_dd d_Te_offerThirds 31 rfl) rfl ?_
      refine kx_lcmp (pc := 53) (kx_dd d_Te_offerThirds 32 rfl) ?_
      refine kx_if_eq (pc := 54) (tgt := 75) (kx_dd d_Te_offerThirds 33 rfl) rfl (fun c54 => ?_) (fun c54 => ?_)
      · refine kx_iinc_e (pc := 75) (v := nI (j + 1 + (m + 1))) (lv' := [_, _, _, _, _, _]) (kx_dd d_Te_offerThirds 46 rfl) rfl (Nat.le_of_ble_eq_true rfl) (nI_1 _) rfl ?_
        refine kx_goto (pc := 78) (tgt := 36) (kx_dd d_Te_offerThirds 47 rfl) rfl ?_
        rw [hLh _ hk, lkC_z ho hk] at c54
        refine ih (m + 1) (by omega) h hf ?_
        show TBc ((chSt (opD D) (lkN D q) D.2.2.1.1 3 0 2 ((0 ||| lkN D q i) ||| lkN D q j) (upF (upF tr0 0 (nI i)) 1 (nI j))) (j + 1 + m) (chL (chSt (opD D) (lkN D q) D.2.2.1.1 3 0 2 ((0 ||| lkN D q i) ||| lkN D q j) (upF (upF tr0 0 (nI i)) 1 (nI j))) (j + 1) m B)) h
        rw [chSt_f c54]
        exact hB
      · refine kx_aload_n (pc := 57) (kx_dd d_Te_offerThirds 34 rfl) rfl rfl ?_
        refine kx_lload_n (pc := 58) (kx_dd d_Te_offerThirds 35 rfl) rfl rfl ?_
        refine kx_aload_n (pc := 59) (kx_dd d_Te_offerThirds 36 rfl) rfl rfl ?_
        refine kx_getR (pc := 60) (b := 43) fl_Te_11 (hs.k 42 rfl) rfl (hs.r 45 rfl) (kx_dd d_Te_offerThirds 37 rfl) ?_
        refine kx_iload (pc := 63) (kx_dd d_Te_offerThirds 38 rfl) rfl ?_
        refine kx_laldn (pc := 65) (j + 1 + m) (hs.t 43 rfl) rfl (by omega) (by decide) (kx_dd d_Te_offerThirds 39 rfl) ?_
        rw [hLh _ hk]
        refine kx_lor (pc := 66) (kx_dd d_Te_offerThirds 40 rfl) ?_
        rw [lN_or]
        refine kx_iconst (pc := 67) (v := 3) (kx_dd d_Te_offerThirds 41 rfl) rfl ?_
        refine kx_iload_n (pc := 68) (kx_dd d_Te_offerThirds 42 rfl) rfl rfl ?_
        refine kx_iload_n (pc := 69) (kx_dd d_Te_offerThirds 43 rfl) rfl rfl ?_
        refine kx_iload (pc := 70) (kx_dd d_Te_offerThirds 44 rfl) rfl ?_
        refine kx_invV (pc := 72) (a := 42) (as := [_, _, _, _, _]) (kx_dd d_Te_offerThirds 45 rfl) ⟨lk_Te_35, wi_Te_offer, we_Te_offer⟩ w_Te_offer (hs.k 42 rfl) rfl rfl rfl rfl (Nat.le_of_ble_eq_true rfl) (x_Te_offer (d := d) hs _ hB (((0 ||| lkN D q i) ||| lkN D q j) ||| lkC D q (j + 1 + m)) 3 (or60 hst hcl) (by decide) (upF (upF (upF tr0 0 (nI i)) 1 (nI j)) 2 (nI (j + 1 + m))) _ _ _ (fun _ => rfl) (fun _ => rfl) (fun _ => rfl)) (Nat.le_refl _) ⟨Nat.le_refl _, Nat.le_refl _⟩ (fun v h' hq => ?_)
        revert h'
        intro h1 hq
        obtain ⟨rfl, hB1, hf1⟩ := hq
        refine kx_iinc_e (pc := 75) (v := nI (j + 1 + (m + 1))) (lv' := [_, _, _, _, _, _]) (kx_dd d_Te_offerThirds 46 rfl) rfl (Nat.le_of_ble_eq_true rfl) (nI_1 _) rfl ?_
        refine kx_goto (pc := 78) (tgt := 36) (kx_dd d_Te_offerThirds 47 rfl) rfl ?_
        rw [hLh _ hk, lkC_z ho hk, Classical.not_not] at c54
        refine ih (m + 1) (by omega) h1 (hf.tr hf1) ?_
        show TBc ((chSt (opD D) (lkN D q) D.2.2.1.1 3 0 2 ((0 ||| lkN D q i) ||| lkN D q j) (upF (upF tr0 0 (nI i)) 1 (nI j))) (j + 1 + m) (chL (chSt (opD D) (lkN D q) D.2.2.1.1 3 0 2 ((0 ||| lkN D q i) ||| lkN D q j) (upF (upF tr0 0 (nI i)) 1 (nI j))) (j + 1) m B)) h1
        rw [chSt_t c54, chF_0]
        rw [lkC_t c54] at hB1
        exact hB1
theorem x_Te_offerThirds {l : Launch} {g : kx_G} {d : Nat} {h : kx_Mem} (hs0 : SC h) (D : DK) (ho : DKok D) (q : Nat) (h4 : h.1 42 4 = nI D.2.2.1.1) (hL : LKp D (fun a => lkC D q a) h) (i j : Nat) (hi : i < D.2.2.1.1) (hj : j < D.2.2.1.1) (oi : opD D i) (oj : opD D j) (B : TB) (hB : TBc B h) (wd : Nat) (h5 : h.1 42 5 = nI wd) (hw64 : wd ≤ 64) (hwd : ∀ k, k < D.2.2.1.1 → opD D k → bc (lkN D q k) ≤ wd) : kx_Sp l g m_Te_offerThirds [.ref 42, .int (nI i), .int (nI j)] h (d + 2) 0 0 (fun v h' => v = none ∧ TBc (chF (opD D) (lkN D q) D.2.2.1.1 3 1 2 (j + 1) ((0 ||| lkN D q i) ||| lkN D q j) (upF (upF tr0 0 (nI i)) 1 (nI j)) B) h' ∧ kx_Fc FoP h h') := by
  have hs := hs0
  have o1 := ho.2.2.1.1
  have hst : ((0 ||| lkN D q i) ||| lkN D q j) < 2 ^ 60 := or60 (or60 (by decide) (lkN_lt ho)) (lkN_lt ho)
  have bl := bc_le ((0 ||| lkN D q i) ||| lkN D q j)
  have b1 := hB.1.1
  refine kx_enter_e (lv := [_, _, _, _, _, _]) (by decide +kernel) (Nat.le_of_ble_eq_true rfl) rfl ?_
  refine kx_aload_n (pc := 0) (kx_dd d_Te_offerThirds 0 rfl) rfl rfl ?_
  refine kx_getR (pc := 1) (b := 43) fl_Te_11 (hs.k 42 rfl) rfl (hs.r 45 rfl) (kx_dd d_Te_offerThirds 1 rfl) ?_
  refine kx_iload_n (pc := 4) (kx_dd d_Te_offerThirds 2 rfl) rfl rfl ?_
  refine kx_laldn (pc := 5) i (hs.t 43 rfl) rfl (by omega) (by decide) (kx_dd d_Te_offerThirds 3 rfl) ?_
  rw [show h.2.1 43 i = lN (lkC D q i) from hL i hi, lkC_t oi]
  refine kx_aload_n (pc := 6) (kx_dd d_Te_offerThirds 4 rfl) rfl rfl ?_
  refine kx_getR (pc := 7) (b := 43) fl_Te_11 (hs.k 42 rfl) rfl (hs.r 45 rfl) (kx_dd d_Te_offerThirds 5 rfl) ?_
  refine kx_iload_n (pc := 10) (kx_dd d_Te_offerThirds 6 rfl) rfl rfl ?_
  refine kx_laldn (pc := 11) j (hs.t 43 rfl) rfl (by omega) (by decide) (kx_dd d_Te_offerThirds 7 rfl) ?_
  rw [show h.2.1 43 j = lN (lkC D q j) from hL j hj, lkC_t oj]
  refine kx_lor (pc := 12) (kx_dd d_Te_offerThirds 8 rfl) ?_
  rw [lN_or, show lkN D q i ||| lkN D q j = ((0 ||| lkN D q i) ||| lkN D q j) from by rw [Nat.zero_or]]
  refine kx_lstore_ne (pc := 13) (lv' := [_, _, _, _, _, _]) (kx_dd d_Te_offerThirds 9 rfl) rfl (Nat.le_of_ble_eq_true rfl) rfl ?_
  refine kx_lload_n (pc := 14) (kx_dd d_Te_offerThirds 10 rfl) rfl rfl ?_
  refine kx_invS (pc := 15) (as := [_]) (kx_dd d_Te_offerThirds 11 rfl) ⟨lk_Te_85, wt_Lo_bitCount⟩ w_Lo_bitCount rfl rfl (Nat.le_of_ble_eq_true rfl) (x_Lo_bitCount (d := d + 1) ((0 ||| lkN D q i) ||| lkN D q j) (by omega)) (Nat.le_refl _) ⟨Nat.le_refl _, Nat.le_refl _⟩ (fun v h' hq => ?_)
  obtain ⟨rfl, he⟩ := hq
  rw [he]
  clear he
  refine kx_aload_n (pc := 18) (kx_dd d_Te_offerThirds 12 rfl) rfl rfl ?_
  refine kx_getI (pc := 19) fl_Te_39 (hs.k 42 rfl) rfl (kx_dd d_Te_offerThirds 13 rfl) ?_
  refine kx_iadd (pc := 22) (kx_dd d_Te_offerThirds 14 rfl) ?_
  refine kx_aload_n (pc := 23) (kx_dd d_Te_offerThirds 15 rfl) rfl rfl ?_
  refine kx_getI (pc := 24) fl_Te_29 (hs.k 42 rfl) rfl (kx_dd d_Te_offerThirds 16 rfl) ?_
  refine kx_icmp_gt (pc := 27) (tgt := 31) (kx_dd d_Te_offerThirds 17 rfl) rfl (fun c27 => ?_) (fun c27 => ?_)
  · refine kx_iload_n (pc := 31) (kx_dd d_Te_offerThirds 19 rfl) rfl rfl ?_
    refine kx_iconst (pc := 32) (v := 1) (kx_dd d_Te_offerThirds 20 rfl) rfl ?_
    refine kx_iadd (pc := 33) (kx_dd d_Te_offerThirds 21 rfl) ?_
    refine kx_istore_e (pc := 34) (lv' := [_, _, _, _, _, _]) (kx_dd d_Te_offerThirds 22 rfl) (Nat.le_of_ble_eq_true rfl) rfl ?_
    rw [nI_1]
    exact x_th_loop h hs0 D ho q h4 hL i j hi hj B (D.2.2.1.1 - (j + 1)) 0 (by omega) h kx_Fc.rf hB
  · refine kx_vret (pc := 30) rfl (kx_dd d_Te_offerThirds 18 rfl) (Nat.le_refl _) (Nat.le_refl _) ?_
    rw [hB.2.1, h5, nI_add, nI_ltI (by omega) (by omega)] at c27
    refine ⟨rfl, ?_, kx_Fc.rf⟩
    rw [chF_s, chL_id _ (fun c q1 q2 => ?_)]
    · exact hB
    · by_cases e : opD D c
      · rw [chSt_t e, chF_0]
        exact offF_n (Nat.le_trans bc_or (by have := hwd c (by omega) e; omega))
      · exact chSt_f e
theorem x_pr_in {l : Launch} {g : kx_G} {d : Nat} (h0 : kx_Mem) (hs0 : SC h0) (D : DK) (ho : DKok D) (q : Nat) (h4 : h0.1 42 4 = nI D.2.2.1.1) (hL : LKp D (fun a => lkC D q a) h0) (Q : Option Value → kx_Mem → Prop) (i : Nat) (hi : i < D.2.2.1.1) (B : TB) (kont : ∀ h w2, kx_Fc FoP h0 h → TBc ((chSt (opD D) (lkN D q) D.2.2.1.1 2 1 0 0 tr0) i B) h → kx_X (l, g, m_Te_offerPairs, d + 2, 0, 0, Q) 0 0 2 [some (.ref 42), some (.int (nI (i + 1))), w2] [] h) : ∀ f m, i + 1 + m + f = D.2.2.1.1 → ∀ h, kx_Fc FoP h0 h → TBc (@ite TB (opD D i) (Classical.propDecidable _) (chL (chSt (opD D) (lkN D q) D.2.2.1.1 2 0 1 (0 ||| lkN D q i) (upF tr0 0 (nI i))) (i + 1) m B) B) h → kx_X (l, g, m_Te_offerPairs, d + 2, 0, 0, Q) 0 0 14 [some (.ref 42), some (.int (nI i)), some (.int (nI (i + 1 + m)))] [] h := by
  intro f
  induction f with
  | zero =>
    intro m hm h hf hB
    have hs : SC h := hs0.fc hf
    have o1 := ho.2.2.1.1
    have h4h : h.1 42 4 = nI D.2.2.1.1 := by rw [hf.2 42 4 (by unfold FoP; omega)]; exact h4
    have hLh : ∀ a, a < D.2.2.1.1 → h.2.1 43 a = lN (lkC D q a) := fun a ha => by rw [hf.1]; exact hL a ha
    have e : m = D.2.2.1.1 - (i + 1) := by omega
    subst e
    refine kx_iload_n (pc := 14) (kx_dd d_Te_offerPairs 10 rfl) rfl rfl ?_
    refine kx_aload_n (pc := 15) (kx_dd d_Te_offerPairs 11 rfl) rfl rfl ?_
    refine kx_getI (pc := 16) fl_Te_32 (hs.k 42 rfl) rfl (kx_dd d_Te_offerPairs 12 rfl) ?_
    refine kx_icmp_ge (pc := 19) (tgt := 71) (kx_dd d_Te_offerPairs 13 rfl) rfl (fun c19 => ?_) (fun c19 => ?_)
    · refine kx_iinc_e (pc := 71) (v := nI (i + 1)) (lv' := [_, _, _]) (kx_dd d_Te_offerPairs 45 rfl) rfl (Nat.le_of_ble_eq_true rfl) (nI_1 i) rfl ?_
      refine kx_goto (pc := 74) (tgt := 2) (kx_dd d_Te_offerPairs 46 rfl) rfl ?_
      exact kont _ _ hf hB
    · exact absurd (by rw [h4h]; exact (nI_leI (by omega) (by omega)).mpr (by omega)) c19
  | succ f ih =>
    intro m hm h hf hB
    have hs : SC h := hs0.fc hf
    have o1 := ho.2.2.1.1
    have h4h : h.1 42 4 = nI D.2.2.1.1 := by rw [hf.2 42 4 (by unfold FoP; omega)]; exact h4
    have hLh : ∀ a, a < D.2.2.1.1 → h.2.1 43 a = lN (lkC D q a) := fun a ha => by rw [hf.1]; exact hL a ha
    have hk : i + 1 + m < D.2.2.1.1 := by omega
    have hcl := lkC_lt ho (q := q) (c := i + 1 + m)
    have hst : (0 ||| lkN D q i) < 2 ^ 60 := or60 (by decide) (lkN_lt ho)
    refine kx_iload_n (pc := 14) (kx_dd d_Te_offerPairs 10 rfl) rfl rfl ?_
    refine kx_aload_n (pc := 15) (kx_dd d_Te_offerPairs 11 rfl) rfl rfl ?_
    refine kx_getI (pc := 16) fl_Te_32 (hs.k 42 rfl) rfl (kx_dd d_Te_offerPairs 12 rfl) ?_
    refine kx_icmp_ge (pc := 19) (tgt := 71) (kx_dd d_Te_offerPairs 13 rfl) rfl (fun c19 => ?_) (fun c19 => ?_)
    · exact absurd c19 (by rw [h4h]; exact nI_ge (by omega) (by omega))
    · refine kx_aload_n (pc := 22) (kx_dd d_Te_offerPairs 14 rfl) rfl rfl ?_
      refine kx_getR (pc := 23) (b := 43) fl_Te_11 (hs.k 42 rfl) rfl (hs.r 45 rfl) (kx_dd d_Te_offerPairs 15 rfl) ?_
      refine kx_iload_n (pc := 26) (kx_dd d_Te_offerPairs 16 rfl) rfl rfl ?_
      refine kx_laldn (pc := 27) i (hs.t 43 rfl) rfl (by omega) (by decide) (kx_dd d_Te_offerPairs 17 rfl) ?_
      refine kx_lconst (pc := 28) (v := 0) (kx_dd d_Te_offerPairs 18 rfl) rfl ?_
      refine kx_lcmp (pc := 29) (kx_dd d_Te_offerPairs 19 rfl) ?_
      refine kx_if_eq (pc := 30) (tgt := 65) (kx_dd d_Te_offerPairs 20 rfl) rfl (fun c30 => ?_) (fun c30 => ?_)
      · refine kx_iinc_e (pc := 65) (v := nI (i + 1 + (m + 1))) (lv' := [_, _, _]) (kx_dd d_Te_offerPairs 43 rfl) rfl (Nat.le_of_ble_eq_true rfl) (nI_1 _) rfl ?_
        refine kx_goto (pc := 68) (tgt := 14) (kx_dd d_Te_offerPairs 44 rfl) rfl ?_
        rw [hLh _ hi, lkC_z ho hi] at c30
        refine ih (m + 1) (by omega) h hf ?_
        rw [if_neg c30] at hB ⊢
        exact hB
      · refine kx_aload_n (pc := 33) (kx_dd d_Te_offerPairs 21 rfl) rfl rfl ?_
        refine kx_getR (pc := 34) (b := 43) fl_Te_11 (hs.k 42 rfl) rfl (hs.r 45 rfl) (kx_dd d_Te_offerPairs 22 rfl) ?_
        refine kx_iload_n (pc := 37) (kx_dd d_Te_offerPairs 23 rfl) rfl rfl ?_
        refine kx_laldn (pc := 38) (i + 1 + m) (hs.t 43 rfl) rfl (by omega) (by decide) (kx_dd d_Te_offerPairs 24 rfl) ?_
        refine kx_lconst (pc := 39) (v := 0) (kx_dd d_Te_offerPairs 25 rfl) rfl ?_
        refine kx_lcmp (pc := 40) (kx_dd d_Te_offerPairs 26 rfl) ?_
        refine kx_if_eq (pc := 41) (tgt := 65) (kx_dd d_Te_offerPairs 27 rfl) rfl (fun c41 => ?_) (fun c41 => ?_)
        · refine kx_iinc_e (pc := 65) (v := nI (i + 1 + (m + 1))) (lv' := [_, _, _]) (kx_dd d_Te_offerPairs 43 rfl) rfl (Nat.le_of_ble_eq_true rfl) (nI_1 _) rfl ?_
          refine kx_goto (pc := 68) (tgt := 14) (kx_dd d_Te_offerPairs 44 rfl) rfl ?_
          rw [hLh _ hi, lkC_z ho hi, Classical.not_not] at c30
          rw [hLh _ hk, lkC_z ho hk] at c41
          refine ih (m + 1) (by omega) h hf ?_
          show TBc (@ite TB (opD D i) (Classical.propDecidable _) ((chSt (opD D) (lkN D q) D.2.2.1.1 2 0 1 (0 ||| lkN D q i) (upF tr0 0 (nI i))) (i + 1 + m) (chL (chSt (opD D) (lkN D q) D.2.2.1.1 2 0 1 (0 ||| lkN D q i) (upF tr0 0 (nI i))) (i + 1) m B)) B) h
          rw [chSt_f c41]
          exact hB
        · rw [hLh _ hi, lkC_z ho hi, Classical.not_not] at c30
          rw [hLh _ hk, lkC_z ho hk, Classical.not_not] at c41
          rw [if_pos c30] at hB
          refine kx_aload_n (pc := 44) (kx_dd d_Te_offerPairs 28 rfl) rfl rfl ?_
          refine kx_aload_n (pc := 45) (kx_dd d_Te_offerPairs 29 rfl) rfl rfl ?_
          refine kx_getR (pc := 46) (b := 43) fl_Te_11 (hs.k 42 rfl) rfl (hs.r 45 rfl) (kx_dd d_Te_offerPairs 30 rfl) ?_
          refine kx_iload_n (pc := 49) (kx_dd d_Te_offerPairs 31 rfl) rfl rfl ?_
          refine kx_laldn (pc := 50) i (hs.t 43 rfl) rfl (by omega) (by decide) (kx_dd d_Te_offerPairs 32 rfl) ?_
          rw [hLh _ hi, lkC_t c30]
          refine kx_aload_n (pc := 51) (kx_dd d_Te_offerPairs 33 rfl) rfl rfl ?_
          refine kx_getR (pc := 52) (b := 43) fl_Te_11 (hs.k 42 rfl) rfl (hs.r 45 rfl) (kx_dd d_Te_offerPairs 34 rfl) ?_
          refine kx_iload_n (pc := 55) (kx_dd d_Te_offerPairs 35 rfl) rfl rfl ?_
          refine kx_laldn (pc := 56) (i + 1 + m) (hs.t 43 rfl) rfl (by omega) (by decide) (kx_dd d_Te_offerPairs 36 rfl) ?_
          rw [hLh _ hk, lkC_t c41]
          refine kx_lor (pc := 57) (kx_dd d_Te_offerPairs 37 rfl) ?_
          rw [lN_or, show lkN D q i ||| lkN D q (i + 1 + m) = (0 ||| lkN D q i) ||| lkN D q (i + 1 + m) from by rw [Nat.zero_or]]
          refine kx_iconst (pc := 58) (v := 2) (kx_dd d_Te_offerPairs 38 rfl) rfl ?_
          refine kx_iload_n (pc := 59) (kx_dd d_Te_offerPairs 39 rfl) rfl rfl ?_
          refine kx_iload_n (pc := 60) (kx_dd d_Te_offerPairs 40 rfl) rfl rfl ?_
          refine kx_iconst (pc := 61) (v := -1) (kx_dd d_Te_offerPairs 41 rfl) rfl ?_
          refine kx_invV (pc := 62) (a := 42) (as := [_, _, _, _, _]) (kx_dd d_Te_offerPairs 42 rfl) ⟨lk_Te_35, wi_Te_offer, we_Te_offer⟩ w_Te_offer (hs.k 42 rfl) rfl rfl rfl rfl (Nat.le_of_ble_eq_true rfl) (x_Te_offer (d := d) hs _ hB ((0 ||| lkN D q i) ||| lkN D q (i + 1 + m)) 2 (or60 hst (lkN_lt ho)) (by decide) (upF (upF tr0 0 (nI i)) 1 (nI (i + 1 + m))) _ _ _ (fun _ => rfl) (fun _ => rfl) (fun z => absurd z (by decide))) (Nat.le_refl _) ⟨Nat.le_refl _, Nat.le_refl _⟩ (fun v h' hq => ?_)
          revert h'
          intro h1 hq
          obtain ⟨rfl, hB1, hf1⟩ := hq
          refine kx_iinc_e (pc := 65) (v := nI (i + 1 + (m + 1))) (lv' := [_, _, _]) (kx_dd d_Te_offerPairs 43 rfl) rfl (Nat.le_of_ble_eq_true rfl) (nI_1 _) rfl ?_
          refine kx_goto (pc := 68) (tgt := 14) (kx_dd d_Te_offerPairs 44 rfl) rfl ?_
          refine ih (m + 1) (by omega) h1 (hf.tr hf1) ?_
          show TBc (@ite TB (opD D i) (Classical.propDecidable _) ((chSt (opD D) (lkN D q) D.2.2.1.1 2 0 1 (0 ||| lkN D q i) (upF tr0 0 (nI i))) (i + 1 + m) (chL (chSt (opD D) (lkN D q) D.2.2.1.1 2 0 1 (0 ||| lkN D q i) (upF tr0 0 (nI i))) (i + 1) m B)) B) h1
          rw [if_pos c30, chSt_t c41, chF_0]
          exact hB1
theorem x_pr_out {l : Launch} {g : kx_G} {d : Nat} (h0 : kx_Mem) (hs0 : SC h0) (D : DK) (ho : DKok D) (q : Nat) (h4 : h0.1 42 4 = nI D.2.2.1.1) (hL : LKp D (fun a => lkC D q a) h0) (B : TB) : ∀ f i, i + f = D.2.2.1.1 → ∀ h w2, kx_Fc FoP h0 h → TBc (chL (chSt (opD D) (lkN D q) D.2.2.1.1 2 1 0 0 tr0) 0 i B) h → kx_X (l, g, m_Te_offerPairs, d + 2, 0, 0, (fun v h' => v = none ∧ TBc (chF (opD D) (lkN D q) D.2.2.1.1 2 2 0 0 0 tr0 B) h' ∧ kx_Fc FoP h0 h')) 0 0 2 [some (.ref 42), some (.int (nI i)), w2] [] h := by
  intro f
  induction f with
  | zero =>
    intro i hi h w2 hf hB
    have e : i = D.2.2.1.1 := by omega
    subst e
    have hs : SC h := hs0.fc hf
    have o1 := ho.2.2.1.1
    have h4h : h.1 42 4 = nI D.2.2.1.1 := by rw [hf.2 42 4 (by unfold FoP; omega)]; exact h4
    have hLh : ∀ a, a < D.2.2.1.1 → h.2.1 43 a = lN (lkC D q a) := fun a ha => by rw [hf.1]; exact hL a ha
    refine kx_iload_n (pc := 2) (kx_dd d_Te_offerPairs 2 rfl) rfl rfl ?_
    refine kx_aload_n (pc := 3) (kx_dd d_Te_offerPairs 3 rfl) rfl rfl ?_
    refine kx_getI (pc := 4) fl_Te_32 (hs.k 42 rfl) rfl (kx_dd d_Te_offerPairs 4 rfl) ?_
    refine kx_icmp_ge (pc := 7) (tgt := 77) (kx_dd d_Te_offerPairs 5 rfl) rfl (fun c7 => ?_) (fun c7 => ?_)
    · refine kx_vret (pc := 77) rfl (kx_dd d_Te_offerPairs 47 rfl) (Nat.le_refl _) (Nat.le_refl _) ?_
      exact ⟨rfl, by rw [chF_s, Nat.sub_zero]; exact hB, hf⟩
    · exact absurd (by rw [h4h]; exact Int32.le_refl _) c7
  | succ f ih =>
    intro i hi h w2 hf hB
    have hs : SC h := hs0.fc hf
    have o1 := ho.2.2.1.1
    have h4h : h.1 42 4 = nI D.2.2.1.1 := by rw [hf.2 42 4 (by unfold FoP; omega)]; exact h4
    have hLh : ∀ a, a < D.2.2.1.1 → h.2.1 43 a = lN (lkC D q a) := fun a ha => by rw [hf.1]; exact hL a ha
    refine kx_iload_n (pc := 2) (kx_dd d_Te_offerPairs 2 rfl) rfl rfl ?_
    refine kx_aload_n (pc := 3) (kx_dd d_Te_offerPairs 3 rfl) rfl rfl ?_
    refine kx_getI (pc := 4) fl_Te_32 (hs.k 42 rfl) rfl (kx_dd d_Te_offerPairs 4 rfl) ?_
    refine kx_icmp_ge (pc := 7) (tgt := 77) (kx_dd d_Te_offerPairs 5 rfl) rfl (fun c7 => ?_) (fun c7 => ?_)
    · exact absurd c7 (by rw [h4h]; exact nI_ge (by omega) (by omega))
    · refine kx_iload_n (pc := 10) (kx_dd d_Te_offerPairs 6 rfl) rfl rfl ?_
      refine kx_iconst (pc := 11) (v := 1) (kx_dd d_Te_offerPairs 7 rfl) rfl ?_
      refine kx_iadd (pc := 12) (kx_dd d_Te_offerPairs 8 rfl) ?_
      refine kx_istore_ne (pc := 13) (lv' := [_, _, _]) (kx_dd d_Te_offerPairs 9 rfl) rfl (Nat.le_of_ble_eq_true rfl) rfl ?_
      rw [nI_1]
      refine x_pr_in h0 hs0 D ho q h4 hL _ i (by omega) (chL (chSt (opD D) (lkN D q) D.2.2.1.1 2 1 0 0 tr0) 0 i B) (fun h w2 a1 a2 => ih (i + 1) (by omega) h w2 a1 (by show TBc ((chSt (opD D) (lkN D q) D.2.2.1.1 2 1 0 0 tr0) (0 + i) (chL (chSt (opD D) (lkN D q) D.2.2.1.1 2 1 0 0 tr0) 0 i B)) h; rw [Nat.zero_add]; exact a2)) (D.2.2.1.1 - (i + 1)) 0 (by omega) h hf ?_
      rw [chL_0, ite_self]
      exact hB
theorem x_Te_offerPairs {l : Launch} {g : kx_G} {d : Nat} {h : kx_Mem} (hs0 : SC h) (D : DK) (ho : DKok D) (q : Nat) (h4 : h.1 42 4 = nI D.2.2.1.1) (hL : LKp D (fun a => lkC D q a) h) (B : TB) (hB : TBc B h) : kx_Sp l g m_Te_offerPairs [.ref 42] h (d + 2) 0 0 (fun v h' => v = none ∧ TBc (chF (opD D) (lkN D q) D.2.2.1.1 2 2 0 0 0 tr0 B) h' ∧ kx_Fc FoP h h') := by
  refine kx_enter_e (lv := [_, _, _]) (by decide +kernel) (Nat.le_of_ble_eq_true rfl) rfl ?_
  refine kx_iconst (pc := 0) (v := 0) (kx_dd d_Te_offerPairs 0 rfl) rfl ?_
  refine kx_istore_ne (pc := 1) (lv' := [_, _, _]) (kx_dd d_Te_offerPairs 1 rfl) rfl (Nat.le_of_ble_eq_true rfl) rfl ?_
  exact x_pr_out h hs0 D ho q h4 hL B D.2.2.1.1 0 (by omega) h _ kx_Fc.rf hB
theorem x_tr_in {l : Launch} {g : kx_G} {d : Nat} (h0 : kx_Mem) (hs0 : SC h0) (D : DK) (ho : DKok D) (q : Nat) (h4 : h0.1 42 4 = nI D.2.2.1.1) (hL : LKp D (fun a => lkC D q a) h0) (wd : Nat) (h5 : h0.1 42 5 = nI wd) (hw64 : wd ≤ 64) (hwd : ∀ k, k < D.2.2.1.1 → opD D k → bc (lkN D q k) ≤ wd) (Q : Option Value → kx_Mem → Prop) (i : Nat) (hi : i < D.2.2.1.1) (B : TB) (kont : ∀ h w2, kx_Fc FoP h0 h → TBc ((chSt (opD D) (lkN D q) D.2.2.1.1 3 2 0 0 tr0) i B) h → kx_X (l, g, m_Te_offerTriples, d + 3, 0, 0, Q) 0 0 2 [some (.ref 42), some (.int (nI (i + 1))), w2] [] h) : ∀ f m, i + 1 + m + f = D.2.2.1.1 → ∀ h, kx_Fc FoP h0 h → TBc (@ite TB (opD D i) (Classical.propDecidable _) (chL (chSt (opD D) (lkN D q) D.2.2.1.1 3 1 1 (0 ||| lkN D q i) (upF tr0 0 (nI i))) (i + 1) m B) B) h → kx_X (l, g, m_Te_offerTriples, d + 3, 0, 0, Q) 0 0 14 [some (.ref 42), some (.int (nI i)), some (.int (nI (i + 1 + m)))] [] h := by
  intro f
  induction f with
  | zero =>
    intro m hm h hf hB
    have hs : SC h := hs0.fc hf
    have o1 := ho.2.2.1.1
    have h4h : h.1 42 4 = nI D.2.2.1.1 := by rw [hf.2 42 4 (by unfold FoP; omega)]; exact h4
    have hLh : ∀ a, a < D.2.2.1.1 → h.2.1 43 a = lN (lkC D q a) := fun a ha => by rw [hf.1]; exact hL a ha
    have h5h : h.1 42 5 = nI wd := by rw [hf.2 42 5 (by unfold FoP; omega)]; exact h5
    have e : m = D.2.2.1.1 - (i + 1) := by omega
    subst e
    refine kx_iload_n (pc := 14) (kx_dd d_Te_offerTriples 10 rfl) rfl rfl ?_
    refine kx_aload_n (pc := 15) (kx_dd d_Te_offerTriples 11 rfl) rfl rfl ?_
    refine kx_getI (pc := 16) fl_Te_32 (hs.k 42 rfl) rfl (kx_dd d_Te_offerTriples 12 rfl) ?_
    refine kx_icmp_ge (pc := 19) (tgt := 56) (kx_dd d_Te_offerTriples 13 rfl) rfl (fun c19 => ?_) (fun c19 => ?_)
    · refine kx_iinc_e (pc := 56) (v := nI (i + 1)) (lv' := [_, _, _]) (kx_dd d_Te_offerTriples 34 rfl) rfl (Nat.le_of_ble_eq_true rfl) (nI_1 i) rfl ?_
      refine kx_goto (pc := 59) (tgt := 2) (kx_dd d_Te_offerTriples 35 rfl) rfl ?_
      exact kont _ _ hf hB
    · exact absurd (by rw [h4h]; exact (nI_leI (by omega) (by omega)).mpr (by omega)) c19
  | succ f ih =>
    intro m hm h hf hB
    have hs : SC h := hs0.fc hf
    have o1 := ho.2.2.1.1
    have h4h : h.1 42 4 = nI D.2.2.1.1 := by rw [hf.2 42 4 (by unfold FoP; omega)]; exact h4
    have hLh : ∀ a, a < D.2.2.1.1 → h.2.1 43 a = lN (lkC D q a) := fun a ha => by rw [hf.1]; exact hL a ha
    have h5h : h.1 42 5 = nI wd := by rw [hf.2 42 5 (by unfold FoP; omega)]; exact h5
    have hk : i + 1 + m < D.2.2.1.1 := by omega
    have hcl := lkC_lt ho (q := q) (c := i + 1 + m)
    have hst : (0 ||| lkN D q i) < 2 ^ 60 := or60 (by decide) (lkN_lt ho)
    refine kx_iload_n (pc := 14) (kx_dd d_Te_offerTriples 10 rfl) rfl rfl ?_
    refine kx_aload_n (pc := 15) (kx_dd d_Te_offerTriples 11 rfl) rfl rfl ?_
    refine kx_getI (pc := 16) fl_Te_32 (hs.k 42 rfl) rfl (kx_dd d_Te_offerTriples 12 rfl) ?_
    refine kx_icmp_ge (pc := 19) (tgt := 56) (kx_dd d_Te_offerTriples 13 rfl) rfl (fun c19 => ?_) (fun c19 => ?_)
    · exact absurd c19 (by rw [h4h]; exact nI_ge (by omega) (by omega))
    · refine kx_aload_n (pc := 22) (kx_dd d_Te_offerTriples 14 rfl) rfl rfl ?_
      refine kx_getR (pc := 23) (b := 43) fl_Te_11 (hs.k 42 rfl) rfl (hs.r 45 rfl) (kx_dd d_Te_offerTriples 15 rfl) ?_
      refine kx_iload_n (pc := 26) (kx_dd d_Te_offerTriples 16 rfl) rfl rfl ?_
      refine kx_laldn (pc := 27) i (hs.t 43 rfl) rfl (by omega) (by decide) (kx_dd d_Te_offerTriples 17 rfl) ?_
      refine kx_lconst (pc := 28) (v := 0) (kx_dd d_Te_offerTriples 18 rfl) rfl ?_
      refine kx_lcmp (pc := 29) (kx_dd d_Te_offerTriples 19 rfl) ?_
      refine kx_if_eq (pc := 30) (tgt := 50) (kx_dd d_Te_offerTriples 20 rfl) rfl (fun c30 => ?_) (fun c30 => ?_)
      · refine kx_iinc_e (pc := 50) (v := nI (i + 1 + (m + 1))) (lv' := [_, _, _]) (kx_dd d_Te_offerTriples 32 rfl) rfl (Nat.le_of_ble_eq_true rfl) (nI_1 _) rfl ?_
        refine kx_goto (pc := 53) (tgt := 14) (kx_dd d_Te_offerTriples 33 rfl) rfl ?_
        rw [hLh _ hi, lkC_z ho hi] at c30
        refine ih (m + 1) (by omega) h hf ?_
        rw [if_neg c30] at hB ⊢
        exact hB
      · refine kx_aload_n (pc := 33) (kx_dd d_Te_offerTriples 21 rfl) rfl rfl ?_
        refine kx_getR (pc := 34) (b := 43) fl_Te_11 (hs.k 42 rfl) rfl (hs.r 45 rfl) (kx_dd d_Te_offerTriples 22 rfl) ?_
        refine kx_iload_n (pc := 37) (kx_dd d_Te_offerTriples 23 rfl) rfl rfl ?_
        refine kx_laldn (pc := 38) (i + 1 + m) (hs.t 43 rfl) rfl (by omega) (by decide) (kx_dd d_Te_offerTriples 24 rfl) ?_
        refine kx_lconst (pc := 39) (v := 0) (kx_dd d_Te_offerTriples 25 rfl) rfl ?_
        refine kx_lcmp (pc := 40) (kx_dd d_Te_offerTriples 26 rfl) ?_
        refine kx_if_eq (pc := 41) (tgt := 50) (kx_dd d_Te_offerTriples 27 rfl) rfl (fun c41 => ?_) (fun c41 => ?_)
        · refine kx_iinc_e (pc := 50) (v := nI (i + 1 + (m + 1))) (lv' := [_, _, _]) (kx_dd d_Te_offerTriples 32 rfl) rfl (Nat.le_of_ble_eq_true rfl) (nI_1 _) rfl ?_
          refine kx_goto (pc := 53) (tgt := 14) (kx_dd d_Te_offerTriples 33 rfl) rfl ?_
          rw [hLh _ hi, lkC_z ho hi, Classical.not_not] at c30
          rw [hLh _ hk, lkC_z ho hk] at c41
          refine ih (m + 1) (by omega) h hf ?_
          show TBc (@ite TB (opD D i) (Classical.propDecidable _) ((chSt (opD D) (lkN D q) D.2.2.1.1 3 1 1 (0 ||| lkN D q i) (upF tr0 0 (nI i))) (i + 1 + m) (chL (chSt (opD D) (lkN D q) D.2.2.1.1 3 1 1 (0 ||| lkN D q i) (upF tr0 0 (nI i))) (i + 1) m B)) B) h
          rw [chSt_f c41]
          exact hB
        · rw [hLh _ hi, lkC_z ho hi, Classical.not_not] at c30
          rw [hLh _ hk, lkC_z ho hk, Classical.not_not] at c41
          rw [if_pos c30] at hB
          refine kx_aload_n (pc := 44) (kx_dd d_Te_offerTriples 28 rfl) rfl rfl ?_
          refine kx_iload_n (pc := 45) (kx_dd d_Te_offerTriples 29 rfl) rfl rfl ?_
          refine kx_iload_n (pc := 46) (kx_dd d_Te_offerTriples 30 rfl) rfl rfl ?_
          refine kx_invV (pc := 47) (a := 42) (as := [_, _]) (kx_dd d_Te_offerTriples 31 rfl) ⟨lk_Te_81, wi_Te_offerThirds, we_Te_offerThirds⟩ w_Te_offerThirds (hs.k 42 rfl) rfl rfl rfl rfl (Nat.le_of_ble_eq_true rfl) (x_Te_offerThirds (d := d) hs D ho q h4h hLh i (i + 1 + m) hi hk c30 c41 _ hB wd h5h hw64 hwd) (Nat.le_refl _) ⟨Nat.le_refl _, Nat.le_refl _⟩ (fun v h' hq => ?_)
          revert h'
          intro h1 hq
          obtain ⟨rfl, hB1, hf1⟩ := hq
          refine kx_iinc_e (pc := 50) (v := nI (i + 1 + (m + 1))) (lv' := [_, _, _]) (kx_dd d_Te_offerTriples 32 rfl) rfl (Nat.le_of_ble_eq_true rfl) (nI_1 _) rfl ?_
          refine kx_goto (pc := 53) (tgt := 14) (kx_dd d_Te_offerTriples 33 rfl) rfl ?_
          refine ih (m + 1) (by omega) h1 (hf.tr hf1) ?_
          show TBc (@ite TB (opD D i) (Classical.propDecidable _) ((chSt (opD D) (lkN D q) D.2.2.1.1 3 1 1 (0 ||| lkN D q i) (upF tr0 0 (nI i))) (i + 1 + m) (chL (chSt (opD D) (lkN D q) D.2.2.1.1 3 1 1 (0 ||| lkN D q i) (upF tr0 0 (nI i))) (i + 1) m B)) B) h1
          rw [if_pos c30, chSt_t c41]
          exact hB1
theorem x_tr_out {l : Launch} {g : kx_G} {d : Nat} (h0 : kx_Mem) (hs0 : SC h0) (D : DK) (ho : DKok D) (q : Nat) (h4 : h0.1 42 4 = nI D.2.2.1.1) (hL : LKp D (fun a => lkC D q a) h0) (wd : Nat) (h5 : h0.1 42 5 = nI wd) (hw64 : wd ≤ 64) (hwd : ∀ k, k < D.2.2.1.1 → opD D k → bc (lkN D q k) ≤ wd) (B : TB) : ∀ f i, i + f = D.2.2.1.1 → ∀ h w2, kx_Fc FoP h0 h → TBc (chL (chSt (opD D) (lkN D q) D.2.2.1.1 3 2 0 0 tr0) 0 i B) h → kx_X (l, g, m_Te_offerTriples, d + 3, 0, 0, (fun v h' => v = none ∧ TBc (chF (opD D) (lkN D q) D.2.2.1.1 3 3 0 0 0 tr0 B) h' ∧ kx_Fc FoP h0 h')) 0 0 2 [some (.ref 42), some (.int (nI i)), w2] [] h := by
  intro f
  induction f with
  | zero =>
    intro i hi h w2 hf hB
    have e : i = D.2.2.1.1 := by omega
    subst e
    have hs : SC h := hs0.fc hf
    have o1 := ho.2.2.1.1
    have h4h : h.1 42 4 = nI D.2.2.1.1 := by rw [hf.2 42 4 (by unfold FoP; omega)]; exact h4
    have hLh : ∀ a, a < D.2.2.1.1 → h.2.1 43 a = lN (lkC D q a) := fun a ha => by rw [hf.1]; exact hL a ha
    have h5h : h.1 42 5 = nI wd := by rw [hf.2 42 5 (by unfold FoP; omega)]; exact h5
    refine kx_iload_n (pc := 2) (kx_dd d_Te_offerTriples 2 rfl) rfl rfl ?_
    refine kx_aload_n (pc := 3) (kx_dd d_Te_offerTriples 3 rfl) rfl rfl ?_
    refine kx_getI (pc := 4) fl_Te_32 (hs.k 42 rfl) rfl (kx_dd d_Te_offerTriples 4 rfl) ?_
    refine kx_icmp_ge (pc := 7) (tgt := 62) (kx_dd d_Te_offerTriples 5 rfl) rfl (fun c7 => ?_) (fun c7 => ?_)
    · refine kx_vret (pc := 62) rfl (kx_dd d_Te_offerTriples 36 rfl) (Nat.le_refl _) (Nat.le_refl _) ?_
      exact ⟨rfl, by rw [chF_s, Nat.sub_zero]; exact hB, hf⟩
    · exact absurd (by rw [h4h]; exact Int32.le_refl _) c7
  | succ f ih =>
    intro i hi h w2 hf hB
    have hs : SC h := hs0.fc hf
    have o1 := ho.2.2.1.1
    have h4h : h.1 42 4 = nI D.2.2.1.1 := by rw [hf.2 42 4 (by unfold FoP; omega)]; exact h4
    have hLh : ∀ a, a < D.2.2.1.1 → h.2.1 43 a = lN (lkC D q a) := fun a ha => by rw [hf.1]; exact hL a ha
    have h5h : h.1 42 5 = nI wd := by rw [hf.2 42 5 (by unfold FoP; omega)]; exact h5
    refine kx_iload_n (pc := 2) (kx_dd d_Te_offerTriples 2 rfl) rfl rfl ?_
    refine kx_aload_n (pc := 3) (kx_dd d_Te_offerTriples 3 rfl) rfl rfl ?_
    refine kx_getI (pc := 4) fl_Te_32 (hs.k 42 rfl) rfl (kx_dd d_Te_offerTriples 4 rfl) ?_
    refine kx_icmp_ge (pc := 7) (tgt := 62) (kx_dd d_Te_offerTriples 5 rfl) rfl (fun c7 => ?_) (fun c7 => ?_)
    · exact absurd c7 (by rw [h4h]; exact nI_ge (by omega) (by omega))
    · refine kx_iload_n (pc := 10) (kx_dd d_Te_offerTriples 6 rfl) rfl rfl ?_
      refine kx_iconst (pc := 11) (v := 1) (kx_dd d_Te_offerTriples 7 rfl) rfl ?_
      refine kx_iadd (pc := 12) (kx_dd d_Te_offerTriples 8 rfl) ?_
      refine kx_istore_ne (pc := 13) (lv' := [_, _, _]) (kx_dd d_Te_offerTriples 9 rfl) rfl (Nat.le_of_ble_eq_true rfl) rfl ?_
      rw [nI_1]
      refine x_tr_in h0 hs0 D ho q h4 hL wd h5 hw64 hwd _ i (by omega) (chL (chSt (opD D) (lkN D q) D.2.2.1.1 3 2 0 0 tr0) 0 i B) (fun h w2 a1 a2 => ih (i + 1) (by omega) h w2 a1 (by show TBc ((chSt (opD D) (lkN D q) D.2.2.1.1 3 2 0 0 tr0) (0 + i) (chL (chSt (opD D) (lkN D q) D.2.2.1.1 3 2 0 0 tr0) 0 i B)) h; rw [Nat.zero_add]; exact a2)) (D.2.2.1.1 - (i + 1)) 0 (by omega) h hf ?_
      rw [chL_0, ite_self]
      exact hB
theorem x_Te_offerTriples {l : Launch} {g : kx_G} {d : Nat} {h : kx_Mem} (hs0 : SC h) (D : DK) (ho : DKok D) (q : Nat) (h4 : h.1 42 4 = nI D.2.2.1.1) (hL : LKp D (fun a => lkC D q a) h) (wd : Nat) (h5 : h.1 42 5 = nI wd) (hw64 : wd ≤ 64) (hwd : ∀ k, k < D.2.2.1.1 → opD D k → bc (lkN D q k) ≤ wd) (B : TB) (hB : TBc B h) : kx_Sp l g m_Te_offerTriples [.ref 42] h (d + 3) 0 0 (fun v h' => v = none ∧ TBc (chF (opD D) (lkN D q) D.2.2.1.1 3 3 0 0 0 tr0 B) h' ∧ kx_Fc FoP h h') := by
  refine kx_enter_e (lv := [_, _, _]) (by decide +kernel) (Nat.le_of_ble_eq_true rfl) rfl ?_
  refine kx_iconst (pc := 0) (v := 0) (kx_dd d_Te_offerTriples 0 rfl) rfl ?_
  refine kx_istore_ne (pc := 1) (lv' := [_, _, _]) (kx_dd d_Te_offerTriples 1 rfl) rfl (Nat.le_of_ble_eq_true rfl) rfl ?_
  exact x_tr_out h hs0 D ho q h4 hL wd h5 hw64 hwd B D.2.2.1.1 0 (by omega) h _ kx_Fc.rf hB
