/-! the class: Tape.readToken, takeWord -/
theorem x_Ta_withLetter {l : Launch} {g : kx_G} {d : Nat} {h : kx_Mem} (w : Int64) (c : Int32) : kx_Sp l g m_Ta_withLetter [.long w, .int c] h (d) 0 0 (fun v h' => v = some (.long ((w <<< ((5 : Int32).toInt64 &&& 63)) ||| (c - 97 + 1).toInt64)) ∧ h' = h) := by
  refine kx_enter_e (lv := [_, _, _]) (by decide +kernel) (Nat.le_of_ble_eq_true rfl) rfl ?_
  refine kx_lload_n (pc := 0) (kx_dd d_Ta_withLetter 0 rfl) rfl rfl ?_
  refine kx_iconst (pc := 1) (v := 5) (kx_dd d_Ta_withLetter 1 rfl) rfl ?_
  refine kx_lshl (pc := 2) (kx_dd d_Ta_withLetter 2 rfl) ?_
  refine kx_iload_n (pc := 3) (kx_dd d_Ta_withLetter 3 rfl) rfl rfl ?_
  refine kx_bipush (pc := 4) (v := 97) (kx_dd d_Ta_withLetter 4 rfl) rfl ?_
  refine kx_isub (pc := 6) (kx_dd d_Ta_withLetter 5 rfl) ?_
  refine kx_iconst (pc := 7) (v := 1) (kx_dd d_Ta_withLetter 6 rfl) rfl ?_
  refine kx_iadd (pc := 8) (kx_dd d_Ta_withLetter 7 rfl) ?_
  refine kx_i2l (pc := 9) (kx_dd d_Ta_withLetter 8 rfl) ?_
  refine kx_lor (pc := 10) (kx_dd d_Ta_withLetter 9 rfl) ?_
  refine kx_lret (pc := 11) rfl (kx_dd d_Ta_withLetter 10 rfl) (Nat.le_refl _) (Nat.le_refl _) ?_
  exact ⟨rfl, rfl⟩
theorem x_Ta_rl_end {l : Launch} {g : kx_G} {d : Nat} {h0 : kx_Mem} (hs0 : SC h0) (b : Nat → Int32) (n p : Nat) (ht0 : TapC b n h0) (hpn : p ≤ n) (k : Nat) (h : kx_Mem) (hf : kx_Ft h0 h) (hpk : p ≤ k) (hk : k ≤ 600) (h2 : h.1 1 2 = nI k) (h4 : h.1 1 4 = nI p) (hv : h.2.1 1 6 = wl b p (k - p)) (hr : run isLe b n p = k) : kx_X (l, g, m_Ta_readLetters, d + 1, 0, 0, (fun v h' => v = none ∧ h'.1 1 2 = nI (run isLe b n p) ∧ h'.1 1 3 = nI (if 12 < run isLe b n p - p then 4 else 1) ∧ h'.1 1 4 = nI p ∧ h'.2.1 1 6 = wl b p (run isLe b n p - p) ∧ kx_Ft h0 h')) 0 0 77 [some (.ref 1)] [] h := by
  have hs := hs0.fg hf
  subst hr
  refine kx_aload_n (pc := 77) (kx_dd d_Ta_readLetters 39 rfl) rfl rfl ?_
  refine kx_aload_n (pc := 78) (kx_dd d_Ta_readLetters 40 rfl) rfl rfl ?_
  refine kx_getI (pc := 79) fl_Ta_23 (hs.k 1 rfl) rfl (kx_dd d_Ta_readLetters 41 rfl) ?_
  refine kx_aload_n (pc := 82) (kx_dd d_Ta_readLetters 42 rfl) rfl rfl ?_
  refine kx_getI (pc := 83) fl_Ta_42 (hs.k 1 rfl) rfl (kx_dd d_Ta_readLetters 43 rfl) ?_
  refine kx_isub (pc := 86) (kx_dd d_Ta_readLetters 44 rfl) ?_
  refine kx_bipush (pc := 87) (v := 12) (kx_dd d_Ta_readLetters 45 rfl) rfl ?_
  refine kx_icmp_le (pc := 89) (tgt := 96) (kx_dd d_Ta_readLetters 46 rfl) rfl (fun c89 => ?_) (fun c89 => ?_)
  · refine kx_iconst (pc := 96) (v := 1) (kx_dd d_Ta_readLetters 49 rfl) rfl ?_
    refine kx_putI (pc := 97) fl_Ta_32 (hs.k 1 rfl) (by decide) rfl rfl (kx_dd d_Ta_readLetters 50 rfl) ?_
    refine kx_vret (pc := 100) rfl (kx_dd d_Ta_readLetters 51 rfl) (Nat.le_refl _) (Nat.le_refl _) ?_
    rw [h2, h4, pk_sub hpk] at c89
    have z := (nI_leI (a := run isLe b n p - p) (b := 12) (by omega) (by decide)).mp
    replace z := z c89
    refine ⟨rfl, h2, ?_, h4, hv, hf.tr (kx_Fg.setI ⟨rfl, by decide, by decide⟩)⟩
    rw [if_neg (by omega)]
    rfl
  · refine kx_iconst (pc := 92) (v := 4) (kx_dd d_Ta_readLetters 47 rfl) rfl ?_
    refine kx_goto (pc := 93) (tgt := 97) (kx_dd d_Ta_readLetters 48 rfl) rfl ?_
    refine kx_putI (pc := 97) fl_Ta_32 (hs.k 1 rfl) (by decide) rfl rfl (kx_dd d_Ta_readLetters 50 rfl) ?_
    refine kx_vret (pc := 100) rfl (kx_dd d_Ta_readLetters 51 rfl) (Nat.le_refl _) (Nat.le_refl _) ?_
    rw [h2, h4, pk_sub hpk] at c89
    have z : ¬ (run isLe b n p - p ≤ 12) := fun z => c89 (nI_le z (by decide))
    refine ⟨rfl, h2, ?_, h4, hv, hf.tr (kx_Fg.setI ⟨rfl, by decide, by decide⟩)⟩
    rw [if_pos (by omega)]
    rfl
theorem x_Ta_rl_loop {l : Launch} {g : kx_G} {d : Nat} {h0 : kx_Mem} (hs0 : SC h0) (b : Nat → Int32) (n p : Nat) (ht0 : TapC b n h0) (hpn : p ≤ n) : ∀ f k, k + f = n → ∀ h, kx_Ft h0 h → p ≤ k → h.1 1 2 = nI k → h.1 1 4 = nI p → h.2.1 1 6 = wl b p (k - p) → run isLe b n p = run isLe b n k → kx_X (l, g, m_Ta_readLetters, d + 1, 0, 0, (fun v h' => v = none ∧ h'.1 1 2 = nI (run isLe b n p) ∧ h'.1 1 3 = nI (if 12 < run isLe b n p - p then 4 else 1) ∧ h'.1 1 4 = nI p ∧ h'.2.1 1 6 = wl b p (run isLe b n p - p) ∧ kx_Ft h0 h')) 0 0 5 [some (.ref 1)] [] h := by
  intro f
  have hn6 := ht0.2.1
  induction f with
  | zero =>
    intro k hk h hf hpk h2 h4 hv hr
    have hs := hs0.fg hf
    have ht := ht0.ft hf
    refine kx_aload_n (pc := 5) (kx_dd d_Ta_readLetters 3 rfl) rfl rfl ?_
    refine kx_getI (pc := 6) fl_Ta_23 (hs.k 1 rfl) rfl (kx_dd d_Ta_readLetters 4 rfl) ?_
    refine kx_aload_n (pc := 9) (kx_dd d_Ta_readLetters 5 rfl) rfl rfl ?_
    refine kx_getI (pc := 10) fl_Ta_15 (hs.k 1 rfl) rfl (kx_dd d_Ta_readLetters 6 rfl) ?_
    refine kx_icmp_ge (pc := 13) (tgt := 77) (kx_dd d_Ta_readLetters 7 rfl) rfl (fun c13 => ?_) (fun c13 => ?_)
    · exact x_Ta_rl_end hs0 b n p ht0 hpn k h hf hpk (by omega) h2 h4 hv (hr.trans (run_end (by omega)))
    · exact absurd (by rw [h2, ht.1]; exact nI_le (by omega) (by omega)) c13
  | succ f ih =>
    intro k hk h hf hpk h2 h4 hv hr
    have hs := hs0.fg hf
    have ht := ht0.ft hf
    have hb := ht.2.2 k (by omega)
    refine kx_aload_n (pc := 5) (kx_dd d_Ta_readLetters 3 rfl) rfl rfl ?_
    refine kx_getI (pc := 6) fl_Ta_23 (hs.k 1 rfl) rfl (kx_dd d_Ta_readLetters 4 rfl) ?_
    refine kx_aload_n (pc := 9) (kx_dd d_Ta_readLetters 5 rfl) rfl rfl ?_
    refine kx_getI (pc := 10) fl_Ta_15 (hs.k 1 rfl) rfl (kx_dd d_Ta_readLetters 6 rfl) ?_
    refine kx_icmp_ge (pc := 13) (tgt := 77) (kx_dd d_Ta_readLetters 7 rfl) rfl (fun c13 => ?_) (fun c13 => ?_)
    · exact absurd c13 (by rw [h2, ht.1]; exact nI_ge (by omega) (by omega))
    · refine kx_aload_n (pc := 16) (kx_dd d_Ta_readLetters 8 rfl) rfl rfl ?_
      refine kx_getR (pc := 17) (b := 2) fl_Ta_11 (hs.k 1 rfl) rfl (hs.r 9 rfl) (kx_dd d_Ta_readLetters 9 rfl) ?_
      refine kx_aload_n (pc := 20) (kx_dd d_Ta_readLetters 10 rfl) rfl rfl ?_
      refine kx_getI (pc := 21) fl_Ta_23 (hs.k 1 rfl) rfl (kx_dd d_Ta_readLetters 11 rfl) ?_
      refine kx_baldn (pc := 24) k (hs.t 2 rfl) h2 (by omega) (by decide) (kx_dd d_Ta_readLetters 12 rfl) ?_
      refine kx_bipush (pc := 25) (v := 97) (kx_dd d_Ta_readLetters 13 rfl) rfl ?_
      refine kx_icmp_lt (pc := 27) (tgt := 77) (kx_dd d_Ta_readLetters 14 rfl) rfl (fun c27 => ?_) (fun c27 => ?_)
      · rw [hb] at c27
        exact x_Ta_rl_end hs0 b n p ht0 hpn k h hf hpk (by omega) h2 h4 hv (hr.trans (run_no (fun z => Int32.not_le.mpr c27 (isLe_i.mp z).1)))
      · refine kx_aload_n (pc := 30) (kx_dd d_Ta_readLetters 15 rfl) rfl rfl ?_
        refine kx_getR (pc := 31) (b := 2) fl_Ta_11 (hs.k 1 rfl) rfl (hs.r 9 rfl) (kx_dd d_Ta_readLetters 16 rfl) ?_
        refine kx_aload_n (pc := 34) (kx_dd d_Ta_readLetters 17 rfl) rfl rfl ?_
        refine kx_getI (pc := 35) fl_Ta_23 (hs.k 1 rfl) rfl (kx_dd d_Ta_readLetters 18 rfl) ?_
        refine kx_baldn (pc := 38) k (hs.t 2 rfl) h2 (by omega) (by decide) (kx_dd d_Ta_readLetters 19 rfl) ?_
        refine kx_bipush (pc := 39) (v := 122) (kx_dd d_Ta_readLetters 20 rfl) rfl ?_
        refine kx_icmp_gt (pc := 41) (tgt := 77) (kx_dd d_Ta_readLetters 21 rfl) rfl (fun c41 => ?_) (fun c41 => ?_)
        · rw [hb] at c27
          rw [hb] at c41
          exact x_Ta_rl_end hs0 b n p ht0 hpn k h hf hpk (by omega) h2 h4 hv (hr.trans (run_no (fun z => Int32.not_le.mpr c41 (isLe_i.mp z).2)))
        · refine kx_aload_n (pc := 44) (kx_dd d_Ta_readLetters 22 rfl) rfl rfl ?_
          refine kx_aload_n (pc := 45) (kx_dd d_Ta_readLetters 23 rfl) rfl rfl ?_
          refine kx_getL (pc := 46) fl_Ta_35 (hs.k 1 rfl) rfl (kx_dd d_Ta_readLetters 24 rfl) ?_
          refine kx_aload_n (pc := 49) (kx_dd d_Ta_readLetters 25 rfl) rfl rfl ?_
          refine kx_getR (pc := 50) (b := 2) fl_Ta_11 (hs.k 1 rfl) rfl (hs.r 9 rfl) (kx_dd d_Ta_readLetters 26 rfl) ?_
          refine kx_aload_n (pc := 53) (kx_dd d_Ta_readLetters 27 rfl) rfl rfl ?_
          refine kx_getI (pc := 54) fl_Ta_23 (hs.k 1 rfl) rfl (kx_dd d_Ta_readLetters 28 rfl) ?_
          refine kx_baldn (pc := 57) k (hs.t 2 rfl) h2 (by omega) (by decide) (kx_dd d_Ta_readLetters 29 rfl) ?_
          refine kx_invS (pc := 58) (as := [_, _]) (kx_dd d_Ta_readLetters 30 rfl) ⟨lk_Ta_51, wt_Ta_withLetter⟩ w_Ta_withLetter rfl rfl (Nat.le_of_ble_eq_true rfl) (x_Ta_withLetter (d := d) _ _) (Nat.le_refl _) ⟨Nat.le_refl _, Nat.le_refl _⟩ (fun v h' hq => ?_)
          obtain ⟨rfl, he⟩ := hq
          rw [he]
          clear he
          refine kx_putL (pc := 61) fl_Ta_35 (hs.k 1 rfl) (by decide) rfl rfl (kx_dd d_Ta_readLetters 31 rfl) ?_
          refine kx_aload_n (pc := 64) (kx_dd d_Ta_readLetters 32 rfl) rfl rfl ?_
          refine kx_dup (pc := 65) (kx_dd d_Ta_readLetters 33 rfl) rfl ?_
          refine kx_getI (pc := 66) fl_Ta_23 (hs.k 1 rfl) rfl (kx_dd d_Ta_readLetters 34 rfl) ?_
          refine kx_iconst (pc := 69) (v := 1) (kx_dd d_Ta_readLetters 35 rfl) rfl ?_
          refine kx_iadd (pc := 70) (kx_dd d_Ta_readLetters 36 rfl) ?_
          refine kx_putI (pc := 71) fl_Ta_23 (hs.k 1 rfl) (by decide) rfl rfl (kx_dd d_Ta_readLetters 37 rfl) ?_
          refine kx_goto (pc := 74) (tgt := 5) (kx_dd d_Ta_readLetters 38 rfl) rfl ?_
          rw [hb] at c27 c41
          have hP : isLe (b k) = true := isLe_i.mpr ⟨Int32.not_lt.mp c27, Int32.not_lt.mp c41⟩
          have hrr := run_yes (n := n) (show k < n by omega) hP
          rw [hv, hb, show (kx_setL h 1 6 _).1 1 2 = nI k from h2, nI_1]
          refine ih (k + 1) (by omega) _ ((hf.tr (kx_Fg.setL ⟨rfl, rfl⟩)).tr (kx_Fg.setI ⟨rfl, by decide, by decide⟩)) (by omega) ?_ ?_ ?_ (hr.trans hrr)
          · simp [kx_setI, kx_up]
          · exact h4
          · rw [show k + 1 - p = (k - p) + 1 by omega]
            show _ = (wl b p (k - p) <<< ((5 : Int32).toInt64 &&& 63)) ||| (b (p + (k - p)) - 97 + 1).toInt64
            rw [show p + (k - p) = k by omega]
            rfl
theorem x_Ta_rl {l : Launch} {g : kx_G} {d : Nat} {h : kx_Mem} (hs : SC h) (b : Nat → Int32) (n p : Nat) (ht : TapC b n h) (hpn : p ≤ n) (h2 : h.1 1 2 = nI p) (h4 : h.1 1 4 = nI p) : kx_Sp l g m_Ta_readLetters [.ref 1] h (d + 1) 0 0 (fun v h' => v = none ∧ h'.1 1 2 = nI (run isLe b n p) ∧ h'.1 1 3 = nI (if 12 < run isLe b n p - p then 4 else 1) ∧ h'.1 1 4 = nI p ∧ h'.2.1 1 6 = wl b p (run isLe b n p - p) ∧ kx_Ft h h') := by
  refine kx_enter_e (lv := [_]) (by decide +kernel) (Nat.le_of_ble_eq_true rfl) rfl ?_
  refine kx_aload_n (pc := 0) (kx_dd d_Ta_readLetters 0 rfl) rfl rfl ?_
  refine kx_lconst (pc := 1) (v := 0) (kx_dd d_Ta_readLetters 1 rfl) rfl ?_
  refine kx_putL (pc := 2) fl_Ta_35 (hs.k 1 rfl) (by decide) rfl rfl (kx_dd d_Ta_readLetters 2 rfl) ?_
  have hf : kx_Ft h (kx_setL h 1 6 0) := (kx_Fg.setL ⟨rfl, rfl⟩)
  refine x_Ta_rl_loop (h0 := h) hs b n p ht hpn (n - p) p (by omega) _ hf (Nat.le_refl _) h2 h4 ?_ rfl
  rw [Nat.sub_self]
  simp [kx_setL, kx_setI, kx_up, wl, nl]
theorem x_Ta_rd_end {l : Launch} {g : kx_G} {d : Nat} {h0 : kx_Mem} (hs0 : SC h0) (b : Nat → Int32) (n p : Nat) (ht0 : TapC b n h0) (hpn : p ≤ n) (k : Nat) (h : kx_Mem) (hf : kx_Ft h0 h) (hpk : p ≤ k) (hk : k ≤ 600) (h2 : h.1 1 2 = nI k) (h4 : h.1 1 4 = nI p) (hv : h.1 1 5 = nl b p (k - p)) (hr : run isDi b n p = k) : kx_X (l, g, m_Ta_readDigits, d + 1, 0, 0, (fun v h' => v = none ∧ h'.1 1 2 = nI (run isDi b n p) ∧ h'.1 1 3 = nI (if 4 < run isDi b n p - p then 4 else 2) ∧ h'.1 1 4 = nI p ∧ h'.1 1 5 = nl b p (run isDi b n p - p) ∧ kx_Ft h0 h')) 0 0 81 [some (.ref 1)] [] h := by
  have hs := hs0.fg hf
  subst hr
  refine kx_aload_n (pc := 81) (kx_dd d_Ta_readDigits 43 rfl) rfl rfl ?_
  refine kx_aload_n (pc := 82) (kx_dd d_Ta_readDigits 44 rfl) rfl rfl ?_
  refine kx_getI (pc := 83) fl_Ta_23 (hs.k 1 rfl) rfl (kx_dd d_Ta_readDigits 45 rfl) ?_
  refine kx_aload_n (pc := 86) (kx_dd d_Ta_readDigits 46 rfl) rfl rfl ?_
  refine kx_getI (pc := 87) fl_Ta_42 (hs.k 1 rfl) rfl (kx_dd d_Ta_readDigits 47 rfl) ?_
  refine kx_isub (pc := 90) (kx_dd d_Ta_readDigits 48 rfl) ?_
  refine kx_iconst (pc := 91) (v := 4) (kx_dd d_Ta_readDigits 49 rfl) rfl ?_
  refine kx_icmp_le (pc := 92) (tgt := 99) (kx_dd d_Ta_readDigits 50 rfl) rfl (fun c92 => ?_) (fun c92 => ?_)
  · refine kx_iconst (pc := 99) (v := 2) (kx_dd d_Ta_readDigits 53 rfl) rfl ?_
    refine kx_putI (pc := 100) fl_Ta_32 (hs.k 1 rfl) (by decide) rfl rfl (kx_dd d_Ta_readDigits 54 rfl) ?_
    refine kx_vret (pc := 103) rfl (kx_dd d_Ta_readDigits 55 rfl) (Nat.le_refl _) (Nat.le_refl _) ?_
    rw [h2, h4, pk_sub hpk] at c92
    have z := (nI_leI (a := run isDi b n p - p) (b := 4) (by omega) (by decide)).mp
    replace z := z c92
    refine ⟨rfl, h2, ?_, h4, hv, hf.tr (kx_Fg.setI ⟨rfl, by decide, by decide⟩)⟩
    rw [if_neg (by omega)]
    rfl
  · refine kx_iconst (pc := 95) (v := 4) (kx_dd d_Ta_readDigits 51 rfl) rfl ?_
    refine kx_goto (pc := 96) (tgt := 100) (kx_dd d_Ta_readDigits 52 rfl) rfl ?_
    refine kx_putI (pc := 100) fl_Ta_32 (hs.k 1 rfl) (by decide) rfl rfl (kx_dd d_Ta_readDigits 54 rfl) ?_
    refine kx_vret (pc := 103) rfl (kx_dd d_Ta_readDigits 55 rfl) (Nat.le_refl _) (Nat.le_refl _) ?_
    rw [h2, h4, pk_sub hpk] at c92
    have z : ¬ (run isDi b n p - p ≤ 4) := fun z => c92 (nI_le z (by decide))
    refine ⟨rfl, h2, ?_, h4, hv, hf.tr (kx_Fg.setI ⟨rfl, by decide, by decide⟩)⟩
    rw [if_pos (by omega)]
    rfl
theorem x_Ta_rd_loop {l : Launch} {g : kx_G} {d : Nat} {h0 : kx_Mem} (hs0 : SC h0) (b : Nat → Int32) (n p : Nat) (ht0 : TapC b n h0) (hpn : p ≤ n) : ∀ f k, k + f = n → ∀ h, kx_Ft h0 h → p ≤ k → h.1 1 2 = nI k → h.1 1 4 = nI p → h.1 1 5 = nl b p (k - p) → run isDi b n p = run isDi b n k → kx_X (l, g, m_Ta_readDigits, d + 1, 0, 0, (fun v h' => v = none ∧ h'.1 1 2 = nI (run isDi b n p) ∧ h'.1 1 3 = nI (if 4 < run isDi b n p - p then 4 else 2) ∧ h'.1 1 4 = nI p ∧ h'.1 1 5 = nl b p (run isDi b n p - p) ∧ kx_Ft h0 h')) 0 0 5 [some (.ref 1)] [] h := by
  intro f
  have hn6 := ht0.2.1
  induction f with
  | zero =>
    intro k hk h hf hpk h2 h4 hv hr
    have hs := hs0.fg hf
    have ht := ht0.ft hf
    refine kx_aload_n (pc := 5) (kx_dd d_Ta_readDigits 3 rfl) rfl rfl ?_
    refine kx_getI (pc := 6) fl_Ta_23 (hs.k 1 rfl) rfl (kx_dd d_Ta_readDigits 4 rfl) ?_
    refine kx_aload_n (pc := 9) (kx_dd d_Ta_readDigits 5 rfl) rfl rfl ?_
    refine kx_getI (pc := 10) fl_Ta_15 (hs.k 1 rfl) rfl (kx_dd d_Ta_readDigits 6 rfl) ?_
    refine kx_icmp_ge (pc := 13) (tgt := 81) (kx_dd d_Ta_readDigits 7 rfl) rfl (fun c13 => ?_) (fun c13 => ?_)
    · exact x_Ta_rd_end hs0 b n p ht0 hpn k h hf hpk (by omega) h2 h4 hv (hr.trans (run_end (by omega)))
    · exact absurd (by rw [h2, ht.1]; exact nI_le (by omega) (by omega)) c13
  | succ f ih =>
    intro k hk h hf hpk h2 h4 hv hr
    have hs := hs0.fg hf
    have ht := ht0.ft hf
    have hb := ht.2.2 k (by omega)
    refine kx_aload_n (pc := 5) (kx_dd d_Ta_readDigits 3 rfl) rfl rfl ?_
    refine kx_getI (pc := 6) fl_Ta_23 (hs.k 1 rfl) rfl (kx_dd d_Ta_readDigits 4 rfl) ?_
    refine kx_aload_n (pc := 9) (kx_dd d_Ta_readDigits 5 rfl) rfl rfl ?_
    refine kx_getI (pc := 10) fl_Ta_15 (hs.k 1 rfl) rfl (kx_dd d_Ta_readDigits 6 rfl) ?_
    refine kx_icmp_ge (pc := 13) (tgt := 81) (kx_dd d_Ta_readDigits 7 rfl) rfl (fun c13 => ?_) (fun c13 => ?_)
    · exact absurd c13 (by rw [h2, ht.1]; exact nI_ge (by omega) (by omega))
    · refine kx_aload_n (pc := 16) (kx_dd d_Ta_readDigits 8 rfl) rfl rfl ?_
      refine kx_getR (pc := 17) (b := 2) fl_Ta_11 (hs.k 1 rfl) rfl (hs.r 9 rfl) (kx_dd d_Ta_readDigits 9 rfl) ?_
      refine kx_aload_n (pc := 20) (kx_dd d_Ta_readDigits 10 rfl) rfl rfl ?_
      refine kx_getI (pc := 21) fl_Ta_23 (hs.k 1 rfl) rfl (kx_dd d_Ta_readDigits 11 rfl) ?_
      refine kx_baldn (pc := 24) k (hs.t 2 rfl) h2 (by omega) (by decide) (kx_dd d_Ta_readDigits 12 rfl) ?_
      refine kx_bipush (pc := 25) (v := 48) (kx_dd d_Ta_readDigits 13 rfl) rfl ?_
      refine kx_icmp_lt (pc := 27) (tgt := 81) (kx_dd d_Ta_readDigits 14 rfl) rfl (fun c27 => ?_) (fun c27 => ?_)
      · rw [hb] at c27
        exact x_Ta_rd_end hs0 b n p ht0 hpn k h hf hpk (by omega) h2 h4 hv (hr.trans (run_no (fun z => Int32.not_le.mpr c27 (isDi_i.mp z).1)))
      · refine kx_aload_n (pc := 30) (kx_dd d_Ta_readDigits 15 rfl) rfl rfl ?_
        refine kx_getR (pc := 31) (b := 2) fl_Ta_11 (hs.k 1 rfl) rfl (hs.r 9 rfl) (kx_dd d_Ta_readDigits 16 rfl) ?_
        refine kx_aload_n (pc := 34) (kx_dd d_Ta_readDigits 17 rfl) rfl rfl ?_
        refine kx_getI (pc := 35) fl_Ta_23 (hs.k 1 rfl) rfl (kx_dd d_Ta_readDigits 18 rfl) ?_
        refine kx_baldn (pc := 38) k (hs.t 2 rfl) h2 (by omega) (by decide) (kx_dd d_Ta_readDigits 19 rfl) ?_
        refine kx_bipush (pc := 39) (v := 57) (kx_dd d_Ta_readDigits 20 rfl) rfl ?_
        refine kx_icmp_gt (pc := 41) (tgt := 81) (kx_dd d_Ta_readDigits 21 rfl) rfl (fun c41 => ?_) (fun c41 => ?_)
        · rw [hb] at c27
          rw [hb] at c41
          exact x_Ta_rd_end hs0 b n p ht0 hpn k h hf hpk (by omega) h2 h4 hv (hr.trans (run_no (fun z => Int32.not_le.mpr c41 (isDi_i.mp z).2)))
        · refine kx_aload_n (pc := 44) (kx_dd d_Ta_readDigits 22 rfl) rfl rfl ?_
          refine kx_aload_n (pc := 45) (kx_dd d_Ta_readDigits 23 rfl) rfl rfl ?_
          refine kx_getI (pc := 46) fl_Ta_55 (hs.k 1 rfl) rfl (kx_dd d_Ta_readDigits 24 rfl) ?_
          refine kx_bipush (pc := 49) (v := 10) (kx_dd d_Ta_readDigits 25 rfl) rfl ?_
          refine kx_imul (pc := 51) (kx_dd d_Ta_readDigits 26 rfl) ?_
          refine kx_aload_n (pc := 52) (kx_dd d_Ta_readDigits 27 rfl) rfl rfl ?_
          refine kx_getR (pc := 53) (b := 2) fl_Ta_11 (hs.k 1 rfl) rfl (hs.r 9 rfl) (kx_dd d_Ta_readDigits 28 rfl) ?_
          refine kx_aload_n (pc := 56) (kx_dd d_Ta_readDigits 29 rfl) rfl rfl ?_
          refine kx_getI (pc := 57) fl_Ta_23 (hs.k 1 rfl) rfl (kx_dd d_Ta_readDigits 30 rfl) ?_
          refine kx_baldn (pc := 60) k (hs.t 2 rfl) h2 (by omega) (by decide) (kx_dd d_Ta_readDigits 31 rfl) ?_
          refine kx_iadd (pc := 61) (kx_dd d_Ta_readDigits 32 rfl) ?_
          refine kx_bipush (pc := 62) (v := 48) (kx_dd d_Ta_readDigits 33 rfl) rfl ?_
          refine kx_isub (pc := 64) (kx_dd d_Ta_readDigits 34 rfl) ?_
          refine kx_putI (pc := 65) fl_Ta_55 (hs.k 1 rfl) (by decide) rfl rfl (kx_dd d_Ta_readDigits 35 rfl) ?_
          refine kx_aload_n (pc := 68) (kx_dd d_Ta_readDigits 36 rfl) rfl rfl ?_
          refine kx_dup (pc := 69) (kx_dd d_Ta_readDigits 37 rfl) rfl ?_
          refine kx_getI (pc := 70) fl_Ta_23 (hs.k 1 rfl) rfl (kx_dd d_Ta_readDigits 38 rfl) ?_
          refine kx_iconst (pc := 73) (v := 1) (kx_dd d_Ta_readDigits 39 rfl) rfl ?_
          refine kx_iadd (pc := 74) (kx_dd d_Ta_readDigits 40 rfl) ?_
          refine kx_putI (pc := 75) fl_Ta_23 (hs.k 1 rfl) (by decide) rfl rfl (kx_dd d_Ta_readDigits 41 rfl) ?_
          refine kx_goto (pc := 78) (tgt := 5) (kx_dd d_Ta_readDigits 42 rfl) rfl ?_
          rw [hb] at c27 c41
          have hP : isDi (b k) = true := isDi_i.mpr ⟨Int32.not_lt.mp c27, Int32.not_lt.mp c41⟩
          have hrr := run_yes (n := n) (show k < n by omega) hP
          rw [hv, hb, show (kx_setI h 1 5 _).1 1 2 = nI k from h2, nI_1]
          refine ih (k + 1) (by omega) _ ((hf.tr (kx_Fg.setI ⟨rfl, by decide, by decide⟩)).tr (kx_Fg.setI ⟨rfl, by decide, by decide⟩)) (by omega) ?_ ?_ ?_ (hr.trans hrr)
          · simp [kx_setI, kx_up]
          · exact h4
          · rw [show k + 1 - p = (k - p) + 1 by omega]
            show _ = nl b p (k - p) * 10 + b (p + (k - p)) - 48
            rw [show p + (k - p) = k by omega]
            rfl
theorem x_Ta_rd {l : Launch} {g : kx_G} {d : Nat} {h : kx_Mem} (hs : SC h) (b : Nat → Int32) (n p : Nat) (ht : TapC b n h) (hpn : p ≤ n) (h2 : h.1 1 2 = nI p) (h4 : h.1 1 4 = nI p) : kx_Sp l g m_Ta_readDigits [.ref 1] h (d + 1) 0 0 (fun v h' => v = none ∧ h'.1 1 2 = nI (run isDi b n p) ∧ h'.1 1 3 = nI (if 4 < run isDi b n p - p then 4 else 2) ∧ h'.1 1 4 = nI p ∧ h'.1 1 5 = nl b p (run isDi b n p - p) ∧ kx_Ft h h') := by
  refine kx_enter_e (lv := [_]) (by decide +kernel) (Nat.le_of_ble_eq_true rfl) rfl ?_
  refine kx_aload_n (pc := 0) (kx_dd d_Ta_readDigits 0 rfl) rfl rfl ?_
  refine kx_iconst (pc := 1) (v := 0) (kx_dd d_Ta_readDigits 1 rfl) rfl ?_
  refine kx_putI (pc := 2) fl_Ta_55 (hs.k 1 rfl) (by decide) rfl rfl (kx_dd d_Ta_readDigits 2 rfl) ?_
  have hf : kx_Ft h (kx_setI h 1 5 0) := (kx_Fg.setI ⟨rfl, by decide, by decide⟩)
  refine x_Ta_rd_loop (h0 := h) hs b n p ht hpn (n - p) p (by omega) _ hf (Nat.le_refl _) h2 h4 ?_ rfl
  rw [Nat.sub_self]
  simp [kx_setL, kx_setI, kx_up, wl, nl]
theorem x_Ta_rt_at {l : Launch} {g : kx_G} {d : Nat} {h0 : kx_Mem} (hs0 : SC h0) (b : Nat → Int32) (n i : Nat) (ht0 : TapC b n h0) (hin : i ≤ n) (h : kx_Mem) (hf : kx_Ft h0 h) (h2 : h.1 1 2 = nI (tP b n i)) : kx_X (l, g, m_Ta_readToken, d + 2, 0, 0, (fun v h' => v = none ∧ TokC b n i h' ∧ kx_Ft h0 h')) 0 0 52 [some (.ref 1), none] [] h := by
  have hs := hs0.fg hf
  have ht := ht0.ft hf
  have hpp := tP_le (b := b) hin
  have hn6 := ht0.2.1
  refine kx_aload_n (pc := 52) (kx_dd d_Ta_readToken 26 rfl) rfl rfl ?_
  refine kx_aload_n (pc := 53) (kx_dd d_Ta_readToken 27 rfl) rfl rfl ?_
  refine kx_getI (pc := 54) fl_Ta_23 (hs.k 1 rfl) rfl (kx_dd d_Ta_readToken 28 rfl) ?_
  refine kx_putI (pc := 57) fl_Ta_42 (hs.k 1 rfl) (by decide) rfl rfl (kx_dd d_Ta_readToken 29 rfl) ?_
  have hfp : kx_Ft h0 (kx_setI h 1 4 (h.1 1 2)) := hf.tr (kx_Fg.setI ⟨rfl, by decide, by decide⟩)
  have ht := ht0.ft hfp
  have hs := hs0.fg hfp
  refine kx_aload_n (pc := 60) (kx_dd d_Ta_readToken 30 rfl) rfl rfl ?_
  refine kx_getI (pc := 61) fl_Ta_23 (hs.k 1 rfl) rfl (kx_dd d_Ta_readToken 31 rfl) ?_
  refine kx_aload_n (pc := 64) (kx_dd d_Ta_readToken 32 rfl) rfl rfl ?_
  refine kx_getI (pc := 65) fl_Ta_15 (hs.k 1 rfl) rfl (kx_dd d_Ta_readToken 33 rfl) ?_
  refine kx_icmp_ge (pc := 68) (tgt := 83) (kx_dd d_Ta_readToken 34 rfl) rfl (fun c68 => ?_) (fun c68 => ?_)
  · refine kx_iconst (pc := 83) (v := 0) (kx_dd d_Ta_readToken 41 rfl) rfl ?_
    refine kx_istore_ne (pc := 84) (lv' := [_, _]) (kx_dd d_Ta_readToken 42 rfl) rfl (Nat.le_of_ble_eq_true rfl) rfl ?_
    refine kx_aload_n (pc := 85) (kx_dd d_Ta_readToken 43 rfl) rfl rfl ?_
    refine kx_getI (pc := 86) fl_Ta_23 (hs.k 1 rfl) rfl (kx_dd d_Ta_readToken 44 rfl) ?_
    refine kx_aload_n (pc := 89) (kx_dd d_Ta_readToken 45 rfl) rfl rfl ?_
    refine kx_getI (pc := 90) fl_Ta_15 (hs.k 1 rfl) rfl (kx_dd d_Ta_readToken 46 rfl) ?_
    refine kx_icmp_lt (pc := 93) (tgt := 104) (kx_dd d_Ta_readToken 47 rfl) rfl (fun c93 => ?_) (fun c93 => ?_)
    · exact absurd c93 (Int32.not_lt.mpr c68)
    · refine kx_aload_n (pc := 96) (kx_dd d_Ta_readToken 48 rfl) rfl rfl ?_
      refine kx_iconst (pc := 97) (v := 0) (kx_dd d_Ta_readToken 49 rfl) rfl ?_
      refine kx_putI (pc := 98) fl_Ta_32 (hs.k 1 rfl) (by decide) rfl rfl (kx_dd d_Ta_readToken 50 rfl) ?_
      refine kx_goto (pc := 101) (tgt := 167) (kx_dd d_Ta_readToken 51 rfl) rfl ?_
      refine kx_vret (pc := 167) rfl (kx_dd d_Ta_readToken 84 rfl) (Nat.le_refl _) (Nat.le_refl _) ?_
      rw [show (kx_setI h 1 4 (h.1 1 2)).1 1 2 = nI (tP b n i) from h2, ht.1] at c93
      have e0 : n ≤ tP b n i := Nat.le_of_not_lt (fun z => c93 (nI_lt z (by omega)))
      have eE : tE b n i = tP b n i := if_pos e0
      have eK : tK b n i = 0 := if_pos e0
      refine ⟨rfl, ⟨?_, ?_, ?_, ?_, ?_⟩, hfp.tr (kx_Fg.setI ⟨rfl, by decide, by decide⟩)⟩
      · rw [eE]; exact h2
      · rw [eK]; rfl
      · exact h2
      · intro z; omega
      · intro z; omega
  · have e00 : tP b n i < n := by
      rw [show (kx_setI h 1 4 (h.1 1 2)).1 1 2 = nI (tP b n i) from h2, ht.1, nI_leI (by omega) (by omega)] at c68
      omega
    refine kx_aload_n (pc := 71) (kx_dd d_Ta_readToken 35 rfl) rfl rfl ?_
    refine kx_getR (pc := 72) (b := 2) fl_Ta_11 (hs.k 1 rfl) rfl (hs.r 9 rfl) (kx_dd d_Ta_readToken 36 rfl) ?_
    refine kx_aload_n (pc := 75) (kx_dd d_Ta_readToken 37 rfl) rfl rfl ?_
    refine kx_getI (pc := 76) fl_Ta_23 (hs.k 1 rfl) rfl (kx_dd d_Ta_readToken 38 rfl) ?_
    refine kx_baldn (pc := 79) (tP b n i) (hs.t 2 rfl) h2 (by omega) (by decide) (kx_dd d_Ta_readToken 39 rfl) ?_
    refine kx_goto (pc := 80) (tgt := 84) (kx_dd d_Ta_readToken 40 rfl) rfl ?_
    refine kx_istore_ne (pc := 84) (lv' := [_, _]) (kx_dd d_Ta_readToken 42 rfl) rfl (Nat.le_of_ble_eq_true rfl) rfl ?_
    refine kx_aload_n (pc := 85) (kx_dd d_Ta_readToken 43 rfl) rfl rfl ?_
    refine kx_getI (pc := 86) fl_Ta_23 (hs.k 1 rfl) rfl (kx_dd d_Ta_readToken 44 rfl) ?_
    refine kx_aload_n (pc := 89) (kx_dd d_Ta_readToken 45 rfl) rfl rfl ?_
    refine kx_getI (pc := 90) fl_Ta_15 (hs.k 1 rfl) rfl (kx_dd d_Ta_readToken 46 rfl) ?_
    refine kx_icmp_lt (pc := 93) (tgt := 104) (kx_dd d_Ta_readToken 47 rfl) rfl (fun c93 => ?_) (fun c93 => ?_)
    · have e0 : ¬ n ≤ tP b n i := by
        rw [show (kx_setI h 1 4 (h.1 1 2)).1 1 2 = nI (tP b n i) from h2, ht.1] at c93
        exact Nat.not_le.mpr ((nI_ltI (by omega) (by omega)).mp c93)
      have hb := ht.2.2 (tP b n i) (by omega)
      refine kx_iload_n (pc := 104) (kx_dd d_Ta_readToken 52 rfl) rfl rfl ?_
      refine kx_bipush (pc := 105) (v := 97) (kx_dd d_Ta_readToken 53 rfl) rfl ?_
      refine kx_icmp_lt (pc := 107) (tgt := 123) (kx_dd d_Ta_readToken 54 rfl) rfl (fun c107 => ?_) (fun c107 => ?_)
      · refine kx_iload_n (pc := 123) (kx_dd d_Ta_readToken 61 rfl) rfl rfl ?_
        refine kx_bipush (pc := 124) (v := 48) (kx_dd d_Ta_readToken 62 rfl) rfl ?_
        refine kx_icmp_lt (pc := 126) (tgt := 142) (kx_dd d_Ta_readToken 63 rfl) rfl (fun c126 => ?_) (fun c126 => ?_)
        · refine kx_aload_n (pc := 142) (kx_dd d_Ta_readToken 70 rfl) rfl rfl ?_
          refine kx_iload_n (pc := 143) (kx_dd d_Ta_readToken 71 rfl) rfl rfl ?_
          refine kx_bipush (pc := 144) (v := 59) (kx_dd d_Ta_readToken 72 rfl) rfl ?_
          refine kx_icmp_ne (pc := 146) (tgt := 153) (kx_dd d_Ta_readToken 73 rfl) rfl (fun c146 => ?_) (fun c146 => ?_)
          · refine kx_iconst (pc := 153) (v := 4) (kx_dd d_Ta_readToken 76 rfl) rfl ?_
            refine kx_putI (pc := 154) fl_Ta_32 (hs.k 1 rfl) (by decide) rfl rfl (kx_dd d_Ta_readToken 77 rfl) ?_
            refine kx_aload_n (pc := 157) (kx_dd d_Ta_readToken 78 rfl) rfl rfl ?_
            refine kx_dup (pc := 158) (kx_dd d_Ta_readToken 79 rfl) rfl ?_
            refine kx_getI (pc := 159) fl_Ta_23 (hs.k 1 rfl) rfl (kx_dd d_Ta_readToken 80 rfl) ?_
            refine kx_iconst (pc := 162) (v := 1) (kx_dd d_Ta_readToken 81 rfl) rfl ?_
            refine kx_iadd (pc := 163) (kx_dd d_Ta_readToken 82 rfl) ?_
            refine kx_putI (pc := 164) fl_Ta_23 (hs.k 1 rfl) (by decide) rfl rfl (kx_dd d_Ta_readToken 83 rfl) ?_
            refine kx_vret (pc := 167) rfl (kx_dd d_Ta_readToken 84 rfl) (Nat.le_refl _) (Nat.le_refl _) ?_
            rw [show (kx_setI h 1 4 (h.1 1 2)).1 2 (tP b n i) = b (tP b n i) from hb] at c107 c126 c146
            have hL : ¬ isLe (b (tP b n i)) = true := fun z => Int32.not_le.mpr c107 (isLe_i.mp z).1
            have hD : ¬ isDi (b (tP b n i)) = true := fun z => Int32.not_le.mpr c126 (isDi_i.mp z).1
            have eE : tE b n i = tP b n i + 1 := by unfold tE; rw [if_neg e0, if_neg hL, if_neg hD]
            have eK : tK b n i = 4 := by unfold tK; rw [if_neg e0, if_neg hL, if_neg hD, if_neg c146]
            refine ⟨rfl, ⟨?_, ?_, ?_, ?_, ?_⟩, (hfp.tr (kx_Fg.setI ⟨rfl, by decide, by decide⟩)).tr (kx_Fg.setI ⟨rfl, by decide, by decide⟩)⟩
            · rw [eE]
              show h.1 1 2 + 1 = _
              rw [h2, nI_1]
            · rw [eK]; rfl
            · exact h2
            · intro z; omega
            · intro z; omega
          · refine kx_iconst (pc := 149) (v := 3) (kx_dd d_Ta_readToken 74 rfl) rfl ?_
            refine kx_goto (pc := 150) (tgt := 154) (kx_dd d_Ta_readToken 75 rfl) rfl ?_
            refine kx_putI (pc := 154) fl_Ta_32 (hs.k 1 rfl) (by decide) rfl rfl (kx_dd d_Ta_readToken 77 rfl) ?_
            refine kx_aload_n (pc := 157) (kx_dd d_Ta_readToken 78 rfl) rfl rfl ?_
            refine kx_dup (pc := 158) (kx_dd d_Ta_readToken 79 rfl) rfl ?_
            refine kx_getI (pc := 159) fl_Ta_23 (hs.k 1 rfl) rfl (kx_dd d_Ta_readToken 80 rfl) ?_
            refine kx_iconst (pc := 162) (v := 1) (kx_dd d_Ta_readToken 81 rfl) rfl ?_
            refine kx_iadd (pc := 163) (kx_dd d_Ta_readToken 82 rfl) ?_
            refine kx_putI (pc := 164) fl_Ta_23 (hs.k 1 rfl) (by decide) rfl rfl (kx_dd d_Ta_readToken 83 rfl) ?_
            refine kx_vret (pc := 167) rfl (kx_dd d_Ta_readToken 84 rfl) (Nat.le_refl _) (Nat.le_refl _) ?_
            rw [show (kx_setI h 1 4 (h.1 1 2)).1 2 (tP b n i) = b (tP b n i) from hb] at c107 c126 c146
            have hL : ¬ isLe (b (tP b n i)) = true := fun z => Int32.not_le.mpr c107 (isLe_i.mp z).1
            have hD : ¬ isDi (b (tP b n i)) = true := fun z => Int32.not_le.mpr c126 (isDi_i.mp z).1
            have eE : tE b n i = tP b n i + 1 := by unfold tE; rw [if_neg e0, if_neg hL, if_neg hD]
            have eK : tK b n i = 3 := by unfold tK; rw [if_neg e0, if_neg hL, if_neg hD, if_pos c146]
            refine ⟨rfl, ⟨?_, ?_, ?_, ?_, ?_⟩, (hfp.tr (kx_Fg.setI ⟨rfl, by decide, by decide⟩)).tr (kx_Fg.setI ⟨rfl, by decide, by decide⟩)⟩
            · rw [eE]
              show h.1 1 2 + 1 = _
              rw [h2, nI_1]
            · rw [eK]; rfl
            · exact h2
            · intro z; omega
            · intro z; omega
        · refine kx_iload_n (pc := 129) (kx_dd d_Ta_readToken 64 rfl) rfl rfl ?_
          refine kx_bipush (pc := 130) (v := 57) (kx_dd d_Ta_readToken 65 rfl) rfl ?_
          refine kx_icmp_gt (pc := 132) (tgt := 142) (kx_dd d_Ta_readToken 66 rfl) rfl (fun c132 => ?_) (fun c132 => ?_)
          · refine kx_aload_n (pc := 142) (kx_dd d_Ta_readToken 70 rfl) rfl rfl ?_
            refine kx_iload_n (pc := 143) (kx_dd d_Ta_readToken 71 rfl) rfl rfl ?_
            refine kx_bipush (pc := 144) (v := 59) (kx_dd d_Ta_readToken 72 rfl) rfl ?_
            refine kx_icmp_ne (pc := 146) (tgt := 153) (kx_dd d_Ta_readToken 73 rfl) rfl (fun c146 => ?_) (fun c146 => ?_)
            · refine kx_iconst (pc := 153) (v := 4) (kx_dd d_Ta_readToken 76 rfl) rfl ?_
              refine kx_putI (pc := 154) fl_Ta_32 (hs.k 1 rfl) (by decide) rfl rfl (kx_dd d_Ta_readToken 77 rfl) ?_
              refine kx_aload_n (pc := 157) (kx_dd d_Ta_readToken 78 rfl) rfl rfl ?_
              refine kx_dup (pc := 158) (kx_dd d_Ta_readToken 79 rfl) rfl ?_
              refine kx_getI (pc := 159) fl_Ta_23 (hs.k 1 rfl) rfl (kx_dd d_Ta_readToken 80 rfl) ?_
              refine kx_iconst (pc := 162) (v := 1) (kx_dd d_Ta_readToken 81 rfl) rfl ?_
              refine kx_iadd (pc := 163) (kx_dd d_Ta_readToken 82 rfl) ?_
              refine kx_putI (pc := 164) fl_Ta_23 (hs.k 1 rfl) (by decide) rfl rfl (kx_dd d_Ta_readToken 83 rfl) ?_
              refine kx_vret (pc := 167) rfl (kx_dd d_Ta_readToken 84 rfl) (Nat.le_refl _) (Nat.le_refl _) ?_
              rw [show (kx_setI h 1 4 (h.1 1 2)).1 2 (tP b n i) = b (tP b n i) from hb] at c107 c126 c132 c146
              have hL : ¬ isLe (b (tP b n i)) = true := fun z => Int32.not_le.mpr c107 (isLe_i.mp z).1
              have hD : ¬ isDi (b (tP b n i)) = true := fun z => Int32.not_le.mpr c132 (isDi_i.mp z).2
              have eE : tE b n i = tP b n i + 1 := by unfold tE; rw [if_neg e0, if_neg hL, if_neg hD]
              have eK : tK b n i = 4 := by unfold tK; rw [if_neg e0, if_neg hL, if_neg hD, if_neg c146]
              refine ⟨rfl, ⟨?_, ?_, ?_, ?_, ?_⟩, (hfp.tr (kx_Fg.setI ⟨rfl, by decide, by decide⟩)).tr (kx_Fg.setI ⟨rfl, by decide, by decide⟩)⟩
              · rw [eE]
                show h.1 1 2 + 1 = _
                rw [h2, nI_1]
              · rw [eK]; rfl
              · exact h2
              · intro z; omega
              · intro z; omega
            · refine kx_iconst (pc := 149) (v := 3) (kx_dd d_Ta_readToken 74 rfl) rfl ?_
              refine kx_goto (pc := 150) (tgt := 154) (kx_dd d_Ta_readToken 75 rfl) rfl ?_
              refine kx_putI (pc := 154) fl_Ta_32 (hs.k 1 rfl) (by decide) rfl rfl (kx_dd d_Ta_readToken 77 rfl) ?_
              refine kx_aload_n (pc := 157) (kx_dd d_Ta_readToken 78 rfl) rfl rfl ?_
              refine kx_dup (pc := 158) (kx_dd d_Ta_readToken 79 rfl) rfl ?_
              refine kx_getI (pc := 159) fl_Ta_23 (hs.k 1 rfl) rfl (kx_dd d_Ta_readToken 80 rfl) ?_
              refine kx_iconst (pc := 162) (v := 1) (kx_dd d_Ta_readToken 81 rfl) rfl ?_
              refine kx_iadd (pc := 163) (kx_dd d_Ta_readToken 82 rfl) ?_
              refine kx_putI (pc := 164) fl_Ta_23 (hs.k 1 rfl) (by decide) rfl rfl (kx_dd d_Ta_readToken 83 rfl) ?_
              refine kx_vret (pc := 167) rfl (kx_dd d_Ta_readToken 84 rfl) (Nat.le_refl _) (Nat.le_refl _) ?_
              rw [show (kx_setI h 1 4 (h.1 1 2)).1 2 (tP b n i) = b (tP b n i) from hb] at c107 c126 c132 c146
              have hL : ¬ isLe (b (tP b n i)) = true := fun z => Int32.not_le.mpr c107 (isLe_i.mp z).1
              have hD : ¬ isDi (b (tP b n i)) = true := fun z => Int32.not_le.mpr c132 (isDi_i.mp z).2
              have eE : tE b n i = tP b n i + 1 := by unfold tE; rw [if_neg e0, if_neg hL, if_neg hD]
              have eK : tK b n i = 3 := by unfold tK; rw [if_neg e0, if_neg hL, if_neg hD, if_pos c146]
              refine ⟨rfl, ⟨?_, ?_, ?_, ?_, ?_⟩, (hfp.tr (kx_Fg.setI ⟨rfl, by decide, by decide⟩)).tr (kx_Fg.setI ⟨rfl, by decide, by decide⟩)⟩
              · rw [eE]
                show h.1 1 2 + 1 = _
                rw [h2, nI_1]
              · rw [eK]; rfl
              · exact h2
              · intro z; omega
              · intro z; omega
          · refine kx_aload_n (pc := 135) (kx_dd d_Ta_readToken 67 rfl) rfl rfl ?_
            refine kx_invV (pc := 136) (a := 1) (as := []) (kx_dd d_Ta_readToken 68 rfl) ⟨lk_Ta_48, wi_Ta_readDigits, we_Ta_readDigits⟩ w_Ta_readDigits (hs.k 1 rfl) rfl rfl rfl rfl (Nat.le_of_ble_eq_true rfl) (x_Ta_rd (d := d) hs b n (tP b n i) ht (by omega) h2 h2) (Nat.le_refl _) ⟨Nat.le_refl _, Nat.le_refl _⟩ (fun v h' hq => ?_)
            have hL : ¬ isLe (b (tP b n i)) = true := by
              rw [show (kx_setI h 1 4 (h.1 1 2)).1 2 (tP b n i) = b (tP b n i) from hb] at c107
              exact fun z => Int32.not_le.mpr c107 (isLe_i.mp z).1
            have hD : isDi (b (tP b n i)) = true := by
              rw [show (kx_setI h 1 4 (h.1 1 2)).1 2 (tP b n i) = b (tP b n i) from hb] at c126 c132
              exact isDi_i.mpr ⟨Int32.not_lt.mp c126, Int32.not_lt.mp c132⟩
            obtain ⟨rfl, p1, p2, p3, p4, p5⟩ := hq
            have eE : tE b n i = run isDi b n (tP b n i) := by unfold tE; rw [if_neg e0, if_neg hL, if_pos hD]
            have eK : tK b n i = if 4 < run isDi b n (tP b n i) - tP b n i then 4 else 2 := by unfold tK; rw [if_neg e0, if_neg hL, if_pos hD, eE]
            refine kx_goto (pc := 139) (tgt := 167) (kx_dd d_Ta_readToken 69 rfl) rfl ?_
            refine kx_vret (pc := 167) rfl (kx_dd d_Ta_readToken 84 rfl) (Nat.le_refl _) (Nat.le_refl _) ?_
            refine ⟨rfl, ⟨?_, ?_, p3, ?_, ?_⟩, hfp.tr p5⟩
            · rw [eE]; exact p1
            · rw [eK]; exact p2
            · intro z; rw [eK] at z; split at z <;> omega
            · intro z
              rw [p4]
              show _ = nI (nv b (tP b n i) (tE b n i - tP b n i))
              rw [eE]
              exact nl_nv _ (fun j hj => run_all (P := isDi) (b := b) (n := n) (i := tP b n i) (by omega) (tP b n i + j) (by omega) (by omega))
      · refine kx_iload_n (pc := 110) (kx_dd d_Ta_readToken 55 rfl) rfl rfl ?_
        refine kx_bipush (pc := 111) (v := 122) (kx_dd d_Ta_readToken 56 rfl) rfl ?_
        refine kx_icmp_gt (pc := 113) (tgt := 123) (kx_dd d_Ta_readToken 57 rfl) rfl (fun c113 => ?_) (fun c113 => ?_)
        · refine kx_iload_n (pc := 123) (kx_dd d_Ta_readToken 61 rfl) rfl rfl ?_
          refine kx_bipush (pc := 124) (v := 48) (kx_dd d_Ta_readToken 62 rfl) rfl ?_
          refine kx_icmp_lt (pc := 126) (tgt := 142) (kx_dd d_Ta_readToken 63 rfl) rfl (fun c126 => ?_) (fun c126 => ?_)
          · refine kx_aload_n (pc := 142) (kx_dd d_Ta_readToken 70 rfl) rfl rfl ?_
            refine kx_iload_n (pc := 143) (kx_dd d_Ta_readToken 71 rfl) rfl rfl ?_
            refine kx_bipush (pc := 144) (v := 59) (kx_dd d_Ta_readToken 72 rfl) rfl ?_
            refine kx_icmp_ne (pc := 146) (tgt := 153) (kx_dd d_Ta_readToken 73 rfl) rfl (fun c146 => ?_) (fun c146 => ?_)
            · refine kx_iconst (pc := 153) (v := 4) (kx_dd d_Ta_readToken 76 rfl) rfl ?_
              refine kx_putI (pc := 154) fl_Ta_32 (hs.k 1 rfl) (by decide) rfl rfl (kx_dd d_Ta_readToken 77 rfl) ?_
              refine kx_aload_n (pc := 157) (kx_dd d_Ta_readToken 78 rfl) rfl rfl ?_
              refine kx_dup (pc := 158) (kx_dd d_Ta_readToken 79 rfl) rfl ?_
              refine kx_getI (pc := 159) fl_Ta_23 (hs.k 1 rfl) rfl (kx_dd d_Ta_readToken 80 rfl) ?_
              refine kx_iconst (pc := 162) (v := 1) (kx_dd d_Ta_readToken 81 rfl) rfl ?_
              refine kx_iadd (pc := 163) (kx_dd d_Ta_readToken 82 rfl) ?_
              refine kx_putI (pc := 164) fl_Ta_23 (hs.k 1 rfl) (by decide) rfl rfl (kx_dd d_Ta_readToken 83 rfl) ?_
              refine kx_vret (pc := 167) rfl (kx_dd d_Ta_readToken 84 rfl) (Nat.le_refl _) (Nat.le_refl _) ?_
              rw [show (kx_setI h 1 4 (h.1 1 2)).1 2 (tP b n i) = b (tP b n i) from hb] at c107 c113 c126 c146
              have hL : ¬ isLe (b (tP b n i)) = true := fun z => Int32.not_le.mpr c113 (isLe_i.mp z).2
              have hD : ¬ isDi (b (tP b n i)) = true := fun z => Int32.not_le.mpr c126 (isDi_i.mp z).1
              have eE : tE b n i = tP b n i + 1 := by unfold tE; rw [if_neg e0, if_neg hL, if_neg hD]
              have eK : tK b n i = 4 := by unfold tK; rw [if_neg e0, if_neg hL, if_neg hD, if_neg c146]
              refine ⟨rfl, ⟨?_, ?_, ?_, ?_, ?_⟩, (hfp.tr (kx_Fg.setI ⟨rfl, by decide, by decide⟩)).tr (kx_Fg.setI ⟨rfl, by decide, by decide⟩)⟩
              · rw [eE]
                show h.1 1 2 + 1 = _
                rw [h2, nI_1]
              · rw [eK]; rfl
              · exact h2
              · intro z; omega
              · intro z; omega
            · refine kx_iconst (pc := 149) (v := 3) (kx_dd d_Ta_readToken 74 rfl) rfl ?_
              refine kx_goto (pc := 150) (tgt := 154) (kx_dd d_Ta_readToken 75 rfl) rfl ?_
              refine kx_putI (pc := 154) fl_Ta_32 (hs.k 1 rfl) (by decide) rfl rfl (kx_dd d_Ta_readToken 77 rfl) ?_
              refine kx_aload_n (pc := 157) (kx_dd d_Ta_readToken 78 rfl) rfl rfl ?_
              refine kx_dup (pc := 158) (kx_dd d_Ta_readToken 79 rfl) rfl ?_
              refine kx_getI (pc := 159) fl_Ta_23 (hs.k 1 rfl) rfl (kx_dd d_Ta_readToken 80 rfl) ?_
              refine kx_iconst (pc := 162) (v := 1) (kx_dd d_Ta_readToken 81 rfl) rfl ?_
              refine kx_iadd (pc := 163) (kx_dd d_Ta_readToken 82 rfl) ?_
              refine kx_putI (pc := 164) fl_Ta_23 (hs.k 1 rfl) (by decide) rfl rfl (kx_dd d_Ta_readToken 83 rfl) ?_
              refine kx_vret (pc := 167) rfl (kx_dd d_Ta_readToken 84 rfl) (Nat.le_refl _) (Nat.le_refl _) ?_
              rw [show (kx_setI h 1 4 (h.1 1 2)).1 2 (tP b n i) = b (tP b n i) from hb] at c107 c113 c126 c146
              have hL : ¬ isLe (b (tP b n i)) = true := fun z => Int32.not_le.mpr c113 (isLe_i.mp z).2
              have hD : ¬ isDi (b (tP b n i)) = true := fun z => Int32.not_le.mpr c126 (isDi_i.mp z).1
              have eE : tE b n i = tP b n i + 1 := by unfold tE; rw [if_neg e0, if_neg hL, if_neg hD]
              have eK : tK b n i = 3 := by unfold tK; rw [if_neg e0, if_neg hL, if_neg hD, if_pos c146]
              refine ⟨rfl, ⟨?_, ?_, ?_, ?_, ?_⟩, (hfp.tr (kx_Fg.setI ⟨rfl, by decide, by decide⟩)).tr (kx_Fg.setI ⟨rfl, by decide, by decide⟩)⟩
              · rw [eE]
                show h.1 1 2 + 1 = _
                rw [h2, nI_1]
              · rw [eK]; rfl
              · exact h2
              · intro z; omega
              · intro z; omega
          · refine kx_iload_n (pc := 129) (kx_dd d_Ta_readToken 64 rfl) rfl rfl ?_
            refine kx_bipush (pc := 130) (v := 57) (kx_dd d_Ta_readToken 65 rfl) rfl ?_
            refine kx_icmp_gt (pc := 132) (tgt := 142) (kx_dd d_Ta_readToken 66 rfl) rfl (fun c132 => ?_) (fun c132 => ?_)
            · refine kx_aload_n (pc := 142) (kx_dd d_Ta_readToken 70 rfl) rfl rfl ?_
              refine kx_iload_n (pc := 143) (kx_dd d_Ta_readToken 71 rfl) rfl rfl ?_
              refine kx_bipush (pc := 144) (v := 59) (kx_dd d_Ta_readToken 72 rfl) rfl ?_
              refine kx_icmp_ne (pc := 146) (tgt := 153) (kx_dd d_Ta_readToken 73 rfl) rfl (fun c146 => ?_) (fun c146 => ?_)
              · refine kx_iconst (pc := 153) (v := 4) (kx_dd d_Ta_readToken 76 rfl) rfl ?_
                refine kx_putI (pc := 154) fl_Ta_32 (hs.k 1 rfl) (by decide) rfl rfl (kx_dd d_Ta_readToken 77 rfl) ?_
                refine kx_aload_n (pc := 157) (kx_dd d_Ta_readToken 78 rfl) rfl rfl ?_
                refine kx_dup (pc := 158) (kx_dd d_Ta_readToken 79 rfl) rfl ?_
                refine kx_getI (pc := 159) fl_Ta_23 (hs.k 1 rfl) rfl (kx_dd d_Ta_readToken 80 rfl) ?_
                refine kx_iconst (pc := 162) (v := 1) (kx_dd d_Ta_readToken 81 rfl) rfl ?_
                refine kx_iadd (pc := 163) (kx_dd d_Ta_readToken 82 rfl) ?_
                refine kx_putI (pc := 164) fl_Ta_23 (hs.k 1 rfl) (by decide) rfl rfl (kx_dd d_Ta_readToken 83 rfl) ?_
                refine kx_vret (pc := 167) rfl (kx_dd d_Ta_readToken 84 rfl) (Nat.le_refl _) (Nat.le_refl _) ?_
                rw [show (kx_setI h 1 4 (h.1 1 2)).1 2 (tP b n i) = b (tP b n i) from hb] at c107 c113 c126 c132 c146
                have hL : ¬ isLe (b (tP b n i)) = true := fun z => Int32.not_le.mpr c113 (isLe_i.mp z).2
                have hD : ¬ isDi (b (tP b n i)) = true := fun z => Int32.not_le.mpr c132 (isDi_i.mp z).2
                have eE : tE b n i = tP b n i + 1 := by unfold tE; rw [if_neg e0, if_neg hL, if_neg hD]
                have eK : tK b n i = 4 := by unfold tK; rw [if_neg e0, if_neg hL, if_neg hD, if_neg c146]
                refine ⟨rfl, ⟨?_, ?_, ?_, ?_, ?_⟩, (hfp.tr (kx_Fg.setI ⟨rfl, by decide, by decide⟩)).tr (kx_Fg.setI ⟨rfl, by decide, by decide⟩)⟩
                · rw [eE]
                  show h.1 1 2 + 1 = _
                  rw [h2, nI_1]
                · rw [eK]; rfl
                · exact h2
                · intro z; omega
                · intro z; omega
              · refine kx_iconst (pc := 149) (v := 3) (kx_dd d_Ta_readToken 74 rfl) rfl ?_
                refine kx_goto (pc := 150) (tgt := 154) (kx_dd d_Ta_readToken 75 rfl) rfl ?_
                refine kx_putI (pc := 154) fl_Ta_32 (hs.k 1 rfl) (by decide) rfl rfl (kx_dd d_Ta_readToken 77 rfl) ?_
                refine kx_aload_n (pc := 157) (kx_dd d_Ta_readToken 78 rfl) rfl rfl ?_
                refine kx_dup (pc := 158) (kx_dd d_Ta_readToken 79 rfl) rfl ?_
                refine kx_getI (pc := 159) fl_Ta_23 (hs.k 1 rfl) rfl (kx_dd d_Ta_readToken 80 rfl) ?_
                refine kx_iconst (pc := 162) (v := 1) (kx_dd d_Ta_readToken 81 rfl) rfl ?_
                refine kx_iadd (pc := 163) (kx_dd d_Ta_readToken 82 rfl) ?_
                refine kx_putI (pc := 164) fl_Ta_23 (hs.k 1 rfl) (by decide) rfl rfl (kx_dd d_Ta_readToken 83 rfl) ?_
                refine kx_vret (pc := 167) rfl (kx_dd d_Ta_readToken 84 rfl) (Nat.le_refl _) (Nat.le_refl _) ?_
                rw [show (kx_setI h 1 4 (h.1 1 2)).1 2 (tP b n i) = b (tP b n i) from hb] at c107 c113 c126 c132 c146
                have hL : ¬ isLe (b (tP b n i)) = true := fun z => Int32.not_le.mpr c113 (isLe_i.mp z).2
                have hD : ¬ isDi (b (tP b n i)) = true := fun z => Int32.not_le.mpr c132 (isDi_i.mp z).2
                have eE : tE b n i = tP b n i + 1 := by unfold tE; rw [if_neg e0, if_neg hL, if_neg hD]
                have eK : tK b n i = 3 := by unfold tK; rw [if_neg e0, if_neg hL, if_neg hD, if_pos c146]
                refine ⟨rfl, ⟨?_, ?_, ?_, ?_, ?_⟩, (hfp.tr (kx_Fg.setI ⟨rfl, by decide, by decide⟩)).tr (kx_Fg.setI ⟨rfl, by decide, by decide⟩)⟩
                · rw [eE]
                  show h.1 1 2 + 1 = _
                  rw [h2, nI_1]
                · rw [eK]; rfl
                · exact h2
                · intro z; omega
                · intro z; omega
            · refine kx_aload_n (pc := 135) (kx_dd d_Ta_readToken 67 rfl) rfl rfl ?_
              refine kx_invV (pc := 136) (a := 1) (as := []) (kx_dd d_Ta_readToken 68 rfl) ⟨lk_Ta_48, wi_Ta_readDigits, we_Ta_readDigits⟩ w_Ta_readDigits (hs.k 1 rfl) rfl rfl rfl rfl (Nat.le_of_ble_eq_true rfl) (x_Ta_rd (d := d) hs b n (tP b n i) ht (by omega) h2 h2) (Nat.le_refl _) ⟨Nat.le_refl _, Nat.le_refl _⟩ (fun v h' hq => ?_)
              have hL : ¬ isLe (b (tP b n i)) = true := by
                rw [show (kx_setI h 1 4 (h.1 1 2)).1 2 (tP b n i) = b (tP b n i) from hb] at c113
                exact fun z => Int32.not_le.mpr c113 (isLe_i.mp z).2
              have hD : isDi (b (tP b n i)) = true := by
                rw [show (kx_setI h 1 4 (h.1 1 2)).1 2 (tP b n i) = b (tP b n i) from hb] at c126 c132
                exact isDi_i.mpr ⟨Int32.not_lt.mp c126, Int32.not_lt.mp c132⟩
              obtain ⟨rfl, p1, p2, p3, p4, p5⟩ := hq
              have eE : tE b n i = run isDi b n (tP b n i) := by unfold tE; rw [if_neg e0, if_neg hL, if_pos hD]
              have eK : tK b n i = if 4 < run isDi b n (tP b n i) - tP b n i then 4 else 2 := by unfold tK; rw [if_neg e0, if_neg hL, if_pos hD, eE]
              refine kx_goto (pc := 139) (tgt := 167) (kx_dd d_Ta_readToken 69 rfl) rfl ?_
              refine kx_vret (pc := 167) rfl (kx_dd d_Ta_readToken 84 rfl) (Nat.le_refl _) (Nat.le_refl _) ?_
              refine ⟨rfl, ⟨?_, ?_, p3, ?_, ?_⟩, hfp.tr p5⟩
              · rw [eE]; exact p1
              · rw [eK]; exact p2
              · intro z; rw [eK] at z; split at z <;> omega
              · intro z
                rw [p4]
                show _ = nI (nv b (tP b n i) (tE b n i - tP b n i))
                rw [eE]
                exact nl_nv _ (fun j hj => run_all (P := isDi) (b := b) (n := n) (i := tP b n i) (by omega) (tP b n i + j) (by omega) (by omega))
        · refine kx_aload_n (pc := 116) (kx_dd d_Ta_readToken 58 rfl) rfl rfl ?_
          refine kx_invV (pc := 117) (a := 1) (as := []) (kx_dd d_Ta_readToken 59 rfl) ⟨lk_Ta_45, wi_Ta_readLetters, we_Ta_readLetters⟩ w_Ta_readLetters (hs.k 1 rfl) rfl rfl rfl rfl (Nat.le_of_ble_eq_true rfl) (x_Ta_rl (d := d) hs b n (tP b n i) ht (by omega) h2 h2) (Nat.le_refl _) ⟨Nat.le_refl _, Nat.le_refl _⟩ (fun v h' hq => ?_)
          have hL : isLe (b (tP b n i)) = true := by
            rw [show (kx_setI h 1 4 (h.1 1 2)).1 2 (tP b n i) = b (tP b n i) from hb] at c107 c113
            exact isLe_i.mpr ⟨Int32.not_lt.mp c107, Int32.not_lt.mp c113⟩
          obtain ⟨rfl, p1, p2, p3, p4, p5⟩ := hq
          have eE : tE b n i = run isLe b n (tP b n i) := by unfold tE; rw [if_neg e0, if_pos hL]
          have eK : tK b n i = if 12 < run isLe b n (tP b n i) - tP b n i then 4 else 1 := by unfold tK; rw [if_neg e0, if_pos hL, eE]
          refine kx_goto (pc := 120) (tgt := 167) (kx_dd d_Ta_readToken 60 rfl) rfl ?_
          refine kx_vret (pc := 167) rfl (kx_dd d_Ta_readToken 84 rfl) (Nat.le_refl _) (Nat.le_refl _) ?_
          refine ⟨rfl, ⟨?_, ?_, p3, ?_, ?_⟩, hfp.tr p5⟩
          · rw [eE]; exact p1
          · rw [eK]; exact p2
          · intro z
            rw [eK] at z
            have hl : run isLe b n (tP b n i) - tP b n i ≤ 12 := by
              rcases Nat.lt_or_ge 12 (run isLe b n (tP b n i) - tP b n i) with q | q
              · rw [if_pos q] at z; omega
              · exact q
            rw [p4]
            show _ = lN (wc b (tP b n i) (tE b n i - tP b n i))
            rw [eE]
            exact wl_wc _ (fun j hj => run_all (P := isLe) (b := b) (n := n) (i := tP b n i) (by omega) (tP b n i + j) (by omega) (by omega))
          · intro z; rw [eK] at z; split at z <;> omega
    · exact absurd (Int32.not_le.mp c68) c93
theorem x_Ta_rt_loop {l : Launch} {g : kx_G} {d : Nat} {h0 : kx_Mem} (hs0 : SC h0) (b : Nat → Int32) (n i : Nat) (ht0 : TapC b n h0) (hin : i ≤ n) : ∀ f k, k + f = n → ∀ h, kx_Ft h0 h → i ≤ k → h.1 1 2 = nI k → tP b n i = run isBl b n k → kx_X (l, g, m_Ta_readToken, d + 2, 0, 0, (fun v h' => v = none ∧ TokC b n i h' ∧ kx_Ft h0 h')) 0 0 0 [some (.ref 1), none] [] h := by
  intro f
  have hn6 := ht0.2.1
  induction f with
  | zero =>
    intro k hk h hf hik h2 hr
    have hs := hs0.fg hf
    have ht := ht0.ft hf
    refine kx_aload_n (pc := 0) (kx_dd d_Ta_readToken 0 rfl) rfl rfl ?_
    refine kx_getI (pc := 1) fl_Ta_23 (hs.k 1 rfl) rfl (kx_dd d_Ta_readToken 1 rfl) ?_
    refine kx_aload_n (pc := 4) (kx_dd d_Ta_readToken 2 rfl) rfl rfl ?_
    refine kx_getI (pc := 5) fl_Ta_15 (hs.k 1 rfl) rfl (kx_dd d_Ta_readToken 3 rfl) ?_
    refine kx_icmp_ge (pc := 8) (tgt := 52) (kx_dd d_Ta_readToken 4 rfl) rfl (fun c8 => ?_) (fun c8 => ?_)
    · exact x_Ta_rt_at hs0 b n i ht0 hin h hf (by rw [h2, hr, run_end (by omega)])
    · exact absurd (by rw [h2, ht.1]; exact nI_le (by omega) (by omega)) c8
  | succ f ih =>
    intro k hk h hf hik h2 hr
    have hs := hs0.fg hf
    have ht := ht0.ft hf
    have hb := ht.2.2 k (by omega)
    refine kx_aload_n (pc := 0) (kx_dd d_Ta_readToken 0 rfl) rfl rfl ?_
    refine kx_getI (pc := 1) fl_Ta_23 (hs.k 1 rfl) rfl (kx_dd d_Ta_readToken 1 rfl) ?_
    refine kx_aload_n (pc := 4) (kx_dd d_Ta_readToken 2 rfl) rfl rfl ?_
    refine kx_getI (pc := 5) fl_Ta_15 (hs.k 1 rfl) rfl (kx_dd d_Ta_readToken 3 rfl) ?_
    refine kx_icmp_ge (pc := 8) (tgt := 52) (kx_dd d_Ta_readToken 4 rfl) rfl (fun c8 => ?_) (fun c8 => ?_)
    · exact absurd c8 (by rw [h2, ht.1]; exact nI_ge (by omega) (by omega))
    · refine kx_aload_n (pc := 11) (kx_dd d_Ta_readToken 5 rfl) rfl rfl ?_
      refine kx_getR (pc := 12) (b := 2) fl_Ta_11 (hs.k 1 rfl) rfl (hs.r 9 rfl) (kx_dd d_Ta_readToken 6 rfl) ?_
      refine kx_aload_n (pc := 15) (kx_dd d_Ta_readToken 7 rfl) rfl rfl ?_
      refine kx_getI (pc := 16) fl_Ta_23 (hs.k 1 rfl) rfl (kx_dd d_Ta_readToken 8 rfl) ?_
      refine kx_baldn (pc := 19) k (hs.t 2 rfl) h2 (by omega) (by decide) (kx_dd d_Ta_readToken 9 rfl) ?_
      refine kx_bipush (pc := 20) (v := 32) (kx_dd d_Ta_readToken 10 rfl) rfl ?_
      refine kx_icmp_eq (pc := 22) (tgt := 39) (kx_dd d_Ta_readToken 11 rfl) rfl (fun c22 => ?_) (fun c22 => ?_)
      · refine kx_aload_n (pc := 39) (kx_dd d_Ta_readToken 19 rfl) rfl rfl ?_
        refine kx_dup (pc := 40) (kx_dd d_Ta_readToken 20 rfl) rfl ?_
        refine kx_getI (pc := 41) fl_Ta_23 (hs.k 1 rfl) rfl (kx_dd d_Ta_readToken 21 rfl) ?_
        refine kx_iconst (pc := 44) (v := 1) (kx_dd d_Ta_readToken 22 rfl) rfl ?_
        refine kx_iadd (pc := 45) (kx_dd d_Ta_readToken 23 rfl) ?_
        refine kx_putI (pc := 46) fl_Ta_23 (hs.k 1 rfl) (by decide) rfl rfl (kx_dd d_Ta_readToken 24 rfl) ?_
        refine kx_goto (pc := 49) (tgt := 0) (kx_dd d_Ta_readToken 25 rfl) rfl ?_
        rw [hb] at c22
        have hP : isBl (b k) = true := isBl_i.mpr (Or.inl c22)
        rw [h2, nI_1]
        exact ih (k + 1) (by omega) _ (hf.tr (kx_Fg.setI ⟨rfl, by decide, by decide⟩)) (by omega) (by simp [kx_setI, kx_up]) (hr.trans (run_yes (by omega) hP))
      · refine kx_aload_n (pc := 25) (kx_dd d_Ta_readToken 12 rfl) rfl rfl ?_
        refine kx_getR (pc := 26) (b := 2) fl_Ta_11 (hs.k 1 rfl) rfl (hs.r 9 rfl) (kx_dd d_Ta_readToken 13 rfl) ?_
        refine kx_aload_n (pc := 29) (kx_dd d_Ta_readToken 14 rfl) rfl rfl ?_
        refine kx_getI (pc := 30) fl_Ta_23 (hs.k 1 rfl) rfl (kx_dd d_Ta_readToken 15 rfl) ?_
        refine kx_baldn (pc := 33) k (hs.t 2 rfl) h2 (by omega) (by decide) (kx_dd d_Ta_readToken 16 rfl) ?_
        refine kx_bipush (pc := 34) (v := 10) (kx_dd d_Ta_readToken 17 rfl) rfl ?_
        refine kx_icmp_ne (pc := 36) (tgt := 52) (kx_dd d_Ta_readToken 18 rfl) rfl (fun c36 => ?_) (fun c36 => ?_)
        · rw [hb] at c22 c36
          exact x_Ta_rt_at hs0 b n i ht0 hin h hf (by rw [h2, hr, run_no (fun z => (isBl_i.mp z).elim c22 c36)])
        · refine kx_aload_n (pc := 39) (kx_dd d_Ta_readToken 19 rfl) rfl rfl ?_
          refine kx_dup (pc := 40) (kx_dd d_Ta_readToken 20 rfl) rfl ?_
          refine kx_getI (pc := 41) fl_Ta_23 (hs.k 1 rfl) rfl (kx_dd d_Ta_readToken 21 rfl) ?_
          refine kx_iconst (pc := 44) (v := 1) (kx_dd d_Ta_readToken 22 rfl) rfl ?_
          refine kx_iadd (pc := 45) (kx_dd d_Ta_readToken 23 rfl) ?_
          refine kx_putI (pc := 46) fl_Ta_23 (hs.k 1 rfl) (by decide) rfl rfl (kx_dd d_Ta_readToken 24 rfl) ?_
          refine kx_goto (pc := 49) (tgt := 0) (kx_dd d_Ta_readToken 25 rfl) rfl ?_
          rw [hb] at c22
          rw [hb] at c36
          have hP : isBl (b k) = true := isBl_i.mpr (Or.inr c36)
          rw [h2, nI_1]
          exact ih (k + 1) (by omega) _ (hf.tr (kx_Fg.setI ⟨rfl, by decide, by decide⟩)) (by omega) (by simp [kx_setI, kx_up]) (hr.trans (run_yes (by omega) hP))
theorem x_Ta_readToken {l : Launch} {g : kx_G} {d : Nat} {h : kx_Mem} (hs : SC h) (b : Nat → Int32) (n i : Nat) (ht : TapC b n h) (hin : i ≤ n) (h2 : h.1 1 2 = nI i) : kx_Sp l g m_Ta_readToken [.ref 1] h (d + 2) 0 0 (fun v h' => v = none ∧ TokC b n i h' ∧ kx_Ft h h') := by
  refine kx_enter_e (lv := [_, _]) (by decide +kernel) (Nat.le_of_ble_eq_true rfl) rfl ?_
  exact x_Ta_rt_loop hs b n i ht hin (n - i) i (by omega) h kx_Fg.rf (Nat.le_refl _) h2 rfl
/-- the one word that a tape is; 0 if it is anything else -/
def oneW (b : Nat → Int32) (n : Nat) : Nat := if tK b n 0 = 1 ∧ tK b n (tE b n 0) = 0 then tW b n 0 else 0
theorem tK_le {b : Nat → Int32} {n i : Nat} : tK b n i ≤ 4 := by
  unfold tK
  split
  · omega
  · split
    · split <;> omega
    · split
      · split <;> omega
      · split <;> omega
theorem x_Ta_takeWord {l : Launch} {g : kx_G} {d : Nat} {h : kx_Mem} (hs : SC h) (b : Nat → Int32) (n : Nat) (ht : TapC b n h) : kx_Sp l g m_Ta_takeWord [.ref 1] h (d + 3) 0 0 (fun v h' => v = some (.long (lN (oneW b n))) ∧ kx_Fg (fun a j => a = 1 ∧ 1 ≤ j ∧ j ≤ 5) FtL h h' ∧ h'.1 1 1 = nI 0) := by
  have e1 := tE_le (b := b) (n := n) (i := 0) (by omega)
  have e2 := tK_le (b := b) (n := n) (i := 0)
  have e3 := tK_le (b := b) (n := n) (i := tE b n 0)
  refine kx_enter_e (lv := [_, _, _]) (by decide +kernel) (Nat.le_of_ble_eq_true rfl) rfl ?_
  refine kx_aload_n (pc := 0) (kx_dd d_Ta_takeWord 0 rfl) rfl rfl ?_
  refine kx_invV (pc := 1) (a := 1) (as := []) (kx_dd d_Ta_takeWord 1 rfl) ⟨lk_Ta_26, wi_Ta_rewind, we_Ta_rewind⟩ w_Ta_rewind (hs.k 1 rfl) rfl rfl rfl rfl (Nat.le_of_ble_eq_true rfl) (x_Ta_rewind (d := d + 2) hs) (Nat.le_refl _) ⟨Nat.le_refl _, Nat.le_refl _⟩ (fun v h' hq => ?_)
  obtain ⟨rfl, he⟩ := hq
  rw [he]
  clear he
  have hf0 : kx_Ft h (kx_setI h 1 2 0) := kx_Fg.setI ⟨rfl, by decide, by decide⟩
  have hs := hs.fg hf0
  have ht := ht.ft hf0
  refine kx_aload_n (pc := 4) (kx_dd d_Ta_takeWord 2 rfl) rfl rfl ?_
  refine kx_invV (pc := 5) (a := 1) (as := []) (kx_dd d_Ta_takeWord 3 rfl) ⟨lk_Ta_29, wi_Ta_readToken, we_Ta_readToken⟩ w_Ta_readToken (hs.k 1 rfl) rfl rfl rfl rfl (Nat.le_of_ble_eq_true rfl) (x_Ta_readToken (d := d) hs b n 0 ht (by omega) (by simp [kx_setI, kx_up, nI_0])) (Nat.le_refl _) ⟨Nat.le_refl _, Nat.le_refl _⟩ (fun v h' hq => ?_)
  obtain ⟨rfl, k1, hf1⟩ := hq
  have hs := hs.fg hf1
  have ht := ht.ft hf1
  refine kx_aload_n (pc := 8) (kx_dd d_Ta_takeWord 4 rfl) rfl rfl ?_
  refine kx_getI (pc := 9) fl_Ta_32 (hs.k 1 rfl) rfl (kx_dd d_Ta_takeWord 5 rfl) ?_
  refine kx_iconst (pc := 12) (v := 1) (kx_dd d_Ta_takeWord 6 rfl) rfl ?_
  refine kx_icmp_ne (pc := 13) (tgt := 23) (kx_dd d_Ta_takeWord 7 rfl) rfl (fun c13 => ?_) (fun c13 => ?_)
  · refine kx_lconst (pc := 23) (v := 0) (kx_dd d_Ta_takeWord 11 rfl) rfl ?_
    refine kx_lstore_ne (pc := 24) (lv' := [_, _, _]) (kx_dd d_Ta_takeWord 12 rfl) rfl (Nat.le_of_ble_eq_true rfl) rfl ?_
    refine kx_aload_n (pc := 25) (kx_dd d_Ta_takeWord 13 rfl) rfl rfl ?_
    refine kx_invV (pc := 26) (a := 1) (as := []) (kx_dd d_Ta_takeWord 14 rfl) ⟨lk_Ta_29, wi_Ta_readToken, we_Ta_readToken⟩ w_Ta_readToken (hs.k 1 rfl) rfl rfl rfl rfl (Nat.le_of_ble_eq_true rfl) (x_Ta_readToken (d := d) hs b n (tE b n 0) ht e1.2.1 k1.1) (Nat.le_refl _) ⟨Nat.le_refl _, Nat.le_refl _⟩ (fun v h' hq => ?_)
    obtain ⟨rfl, k2, hf2⟩ := hq
    have hs := hs.fg hf2
    refine kx_aload_n (pc := 29) (kx_dd d_Ta_takeWord 15 rfl) rfl rfl ?_
    refine kx_getI (pc := 30) fl_Ta_32 (hs.k 1 rfl) rfl (kx_dd d_Ta_takeWord 16 rfl) ?_
    refine kx_if_eq (pc := 33) (tgt := 38) (kx_dd d_Ta_takeWord 17 rfl) rfl (fun c33 => ?_) (fun c33 => ?_)
    · refine kx_aload_n (pc := 38) (kx_dd d_Ta_takeWord 20 rfl) rfl rfl ?_
      refine kx_invV (pc := 39) (a := 1) (as := []) (kx_dd d_Ta_takeWord 21 rfl) ⟨lk_Ta_39, wi_Ta_clear, we_Ta_clear⟩ w_Ta_clear (hs.k 1 rfl) rfl rfl rfl rfl (Nat.le_of_ble_eq_true rfl) (x_Ta_clear (d := d + 2) hs) (Nat.le_refl _) ⟨Nat.le_refl _, Nat.le_refl _⟩ (fun v h' hq => ?_)
      obtain ⟨rfl, he⟩ := hq
      rw [he]
      clear he
      refine kx_lload_n (pc := 42) (kx_dd d_Ta_takeWord 22 rfl) rfl rfl ?_
      refine kx_lret (pc := 43) rfl (kx_dd d_Ta_takeWord 23 rfl) (Nat.le_refl _) (Nat.le_refl _) ?_
      rw [k1.2.1] at c13
      rw [k2.2.1] at c33
      refine ⟨?_, ?_⟩
      · unfold oneW
        have q1 := (nI_eq (a := tK b n 0) (b := 1) (by omega) (by decide))
        have q2 := (nI_eq (a := tK b n (tE b n 0)) (b := 0) (by omega) (by decide))
        rw [if_neg (fun z => c13 (q1.mpr z.1))]
        rfl
      · exact ⟨(((hf0.tr hf1).tr hf2).mono (fun a j e => ⟨e.1, by have := e.2; omega⟩) (fun a j e => e)).tr (kx_Fg.setI ⟨rfl, by decide, by decide⟩), by simp [kx_setI, kx_up, nI_0]⟩
    · refine kx_lconst (pc := 36) (v := 0) (kx_dd d_Ta_takeWord 18 rfl) rfl ?_
      refine kx_lstore_ne (pc := 37) (lv' := [_, _, _]) (kx_dd d_Ta_takeWord 19 rfl) rfl (Nat.le_of_ble_eq_true rfl) rfl ?_
      refine kx_aload_n (pc := 38) (kx_dd d_Ta_takeWord 20 rfl) rfl rfl ?_
      refine kx_invV (pc := 39) (a := 1) (as := []) (kx_dd d_Ta_takeWord 21 rfl) ⟨lk_Ta_39, wi_Ta_clear, we_Ta_clear⟩ w_Ta_clear (hs.k 1 rfl) rfl rfl rfl rfl (Nat.le_of_ble_eq_true rfl) (x_Ta_clear (d := d + 2) hs) (Nat.le_refl _) ⟨Nat.le_refl _, Nat.le_refl _⟩ (fun v h' hq => ?_)
      obtain ⟨rfl, he⟩ := hq
      rw [he]
      clear he
      refine kx_lload_n (pc := 42) (kx_dd d_Ta_takeWord 22 rfl) rfl rfl ?_
      refine kx_lret (pc := 43) rfl (kx_dd d_Ta_takeWord 23 rfl) (Nat.le_refl _) (Nat.le_refl _) ?_
      rw [k1.2.1] at c13
      rw [k2.2.1] at c33
      refine ⟨?_, ?_⟩
      · unfold oneW
        have q1 := (nI_eq (a := tK b n 0) (b := 1) (by omega) (by decide))
        have q2 := (nI_eq (a := tK b n (tE b n 0)) (b := 0) (by omega) (by decide))
        rw [if_neg (fun z => c33 (q2.mpr z.2))]
        rfl
      · exact ⟨(((hf0.tr hf1).tr hf2).mono (fun a j e => ⟨e.1, by have := e.2; omega⟩) (fun a j e => e)).tr (kx_Fg.setI ⟨rfl, by decide, by decide⟩), by simp [kx_setI, kx_up, nI_0]⟩
  · refine kx_aload_n (pc := 16) (kx_dd d_Ta_takeWord 8 rfl) rfl rfl ?_
    refine kx_getL (pc := 17) fl_Ta_35 (hs.k 1 rfl) rfl (kx_dd d_Ta_takeWord 9 rfl) ?_
    refine kx_goto (pc := 20) (tgt := 24) (kx_dd d_Ta_takeWord 10 rfl) rfl ?_
    refine kx_lstore_ne (pc := 24) (lv' := [_, _, _]) (kx_dd d_Ta_takeWord 12 rfl) rfl (Nat.le_of_ble_eq_true rfl) rfl ?_
    refine kx_aload_n (pc := 25) (kx_dd d_Ta_takeWord 13 rfl) rfl rfl ?_
    refine kx_invV (pc := 26) (a := 1) (as := []) (kx_dd d_Ta_takeWord 14 rfl) ⟨lk_Ta_29, wi_Ta_readToken, we_Ta_readToken⟩ w_Ta_readToken (hs.k 1 rfl) rfl rfl rfl rfl (Nat.le_of_ble_eq_true rfl) (x_Ta_readToken (d := d) hs b n (tE b n 0) ht e1.2.1 k1.1) (Nat.le_refl _) ⟨Nat.le_refl _, Nat.le_refl _⟩ (fun v h' hq => ?_)
    obtain ⟨rfl, k2, hf2⟩ := hq
    have hs := hs.fg hf2
    refine kx_aload_n (pc := 29) (kx_dd d_Ta_takeWord 15 rfl) rfl rfl ?_
    refine kx_getI (pc := 30) fl_Ta_32 (hs.k 1 rfl) rfl (kx_dd d_Ta_takeWord 16 rfl) ?_
    refine kx_if_eq (pc := 33) (tgt := 38) (kx_dd d_Ta_takeWord 17 rfl) rfl (fun c33 => ?_) (fun c33 => ?_)
    · refine kx_aload_n (pc := 38) (kx_dd d_Ta_takeWord 20 rfl) rfl rfl ?_
      refine kx_invV (pc := 39) (a := 1) (as := []) (kx_dd d_Ta_takeWord 21 rfl) ⟨lk_Ta_39, wi_Ta_clear, we_Ta_clear⟩ w_Ta_clear (hs.k 1 rfl) rfl rfl rfl rfl (Nat.le_of_ble_eq_true rfl) (x_Ta_clear (d := d + 2) hs) (Nat.le_refl _) ⟨Nat.le_refl _, Nat.le_refl _⟩ (fun v h' hq => ?_)
      obtain ⟨rfl, he⟩ := hq
      rw [he]
      clear he
      refine kx_lload_n (pc := 42) (kx_dd d_Ta_takeWord 22 rfl) rfl rfl ?_
      refine kx_lret (pc := 43) rfl (kx_dd d_Ta_takeWord 23 rfl) (Nat.le_refl _) (Nat.le_refl _) ?_
      rw [k1.2.1] at c13
      rw [k2.2.1] at c33
      refine ⟨?_, ?_⟩
      · unfold oneW
        have q1 := (nI_eq (a := tK b n 0) (b := 1) (by omega) (by decide))
        have q2 := (nI_eq (a := tK b n (tE b n 0)) (b := 0) (by omega) (by decide))
        rw [if_pos ⟨q1.mp c13, q2.mp c33⟩, k1.2.2.2.1 (q1.mp c13)]
      · exact ⟨(((hf0.tr hf1).tr hf2).mono (fun a j e => ⟨e.1, by have := e.2; omega⟩) (fun a j e => e)).tr (kx_Fg.setI ⟨rfl, by decide, by decide⟩), by simp [kx_setI, kx_up, nI_0]⟩
    · refine kx_lconst (pc := 36) (v := 0) (kx_dd d_Ta_takeWord 18 rfl) rfl ?_
      refine kx_lstore_ne (pc := 37) (lv' := [_, _, _]) (kx_dd d_Ta_takeWord 19 rfl) rfl (Nat.le_of_ble_eq_true rfl) rfl ?_
      refine kx_aload_n (pc := 38) (kx_dd d_Ta_takeWord 20 rfl) rfl rfl ?_
      refine kx_invV (pc := 39) (a := 1) (as := []) (kx_dd d_Ta_takeWord 21 rfl) ⟨lk_Ta_39, wi_Ta_clear, we_Ta_clear⟩ w_Ta_clear (hs.k 1 rfl) rfl rfl rfl rfl (Nat.le_of_ble_eq_true rfl) (x_Ta_clear (d := d + 2) hs) (Nat.le_refl _) ⟨Nat.le_refl _, Nat.le_refl _⟩ (fun v h' hq => ?_)
      obtain ⟨rfl, he⟩ := hq
      rw [he]
      clear he
      refine kx_lload_n (pc := 42) (kx_dd d_Ta_takeWord 22 rfl) rfl rfl ?_
      refine kx_lret (pc := 43) rfl (kx_dd d_Ta_takeWord 23 rfl) (Nat.le_refl _) (Nat.le_refl _) ?_
      rw [k1.2.1] at c13
      rw [k2.2.1] at c33
      refine ⟨?_, ?_⟩
      · unfold oneW
        have q1 := (nI_eq (a := tK b n 0) (b := 1) (by omega) (by decide))
        have q2 := (nI_eq (a := tK b n (tE b n 0)) (b := 0) (by omega) (by decide))
        rw [if_neg (fun z => c33 (q2.mpr z.2))]
        rfl
      · exact ⟨(((hf0.tr hf1).tr hf2).mono (fun a j e => ⟨e.1, by have := e.2; omega⟩) (fun a j e => e)).tr (kx_Fg.setI ⟨rfl, by decide, by decide⟩), by simp [kx_setI, kx_up, nI_0]⟩
