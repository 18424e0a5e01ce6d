/-! the class: People, on -/
def alwP (s : PS) (p nt a b kn : Nat) : Prop := natF s p a kn = nt ∧ ∀ k, k < s.2.1 → toldP s k 0 p kn → a < s.2.2.2.2.2.1 k → s.2.2.2.2.2.1 k ≤ b → natF s p (s.2.2.2.2.2.1 k) kn = nt
theorem natK_step {s : PS} {p d kn : Nat} (hn : ∀ k, k < s.2.1 → toldP s k 0 p kn → s.2.2.2.2.2.1 k ≠ d + 1) : ∀ k, k ≤ s.2.1 → natK s p (d + 1) kn k = natK s p d kn k
  | 0, _ => rfl
  | k + 1, hk => by
    have ih := natK_step hn k (by omega)
    unfold natK
    rw [ih]
    by_cases c : toldP s k 0 p kn ∧ s.2.2.2.2.2.1 k ≤ d ∧ (natK s p d kn k).2 ≤ s.2.2.2.2.2.1 k + 1
    · rw [if_pos c, if_pos ⟨c.1, by omega, c.2.2⟩]
    · rw [if_neg c, if_neg (fun z => c ⟨z.1, by have := hn k (by omega) z.1; omega, z.2.2⟩)]
theorem alwP_iff {s : PS} {p nt a b kn : Nat} (hab : a ≤ b) : alwP s p nt a b kn ↔ ∀ d, a ≤ d → d ≤ b → natF s p d kn = nt := by
  constructor
  · rintro ⟨h0, h1⟩ d
    induction d with
    | zero => intro h2 _; have : a = 0 := by omega
              subst this; exact h0
    | succ d ih =>
      intro h2 h3
      by_cases ha : a = d + 1
      · subst ha; exact h0
      · by_cases hk : ∃ k, k < s.2.1 ∧ toldP s k 0 p kn ∧ s.2.2.2.2.2.1 k = d + 1
        · obtain ⟨k, k1, k2, k3⟩ := hk
          have := h1 k k1 k2 (by omega) (by omega)
          rwa [k3] at this
        · have e : natF s p (d + 1) kn = natF s p d kn := by
            unfold natF
            rw [natK_step (fun k k1 k2 k3 => hk ⟨k, k1, k2, k3⟩) s.2.1 (Nat.le_refl _)]
          rw [e]
          exact ih (by omega) (by omega)
  · intro h0
    exact ⟨h0 a (Nat.le_refl _) hab, fun k _ _ h1 h2 => h0 _ (by omega) h2⟩
theorem x_Pe_isAlwaysOf_loop {l : Launch} {g : kx_G} {d : Nat} {h : kx_Mem} (hs : SC h) (s : PS) (ho : PSok s) (hp : PSc s h) (p nt a b kn : Nat) (hpp : p < 2 ^ 31) (hnt : nt < 2 ^ 31) (haa : a < 2 ^ 31) (hbb : b < 2 ^ 31) (hkn : kn < 2 ^ 31) (h0 : natF s p a kn = nt) : ∀ n k, k + n = s.2.1 → ∀ w7, (∀ j, j < k → toldP s j 0 p kn → a < s.2.2.2.2.2.1 j → s.2.2.2.2.2.1 j ≤ b → natF s p (s.2.2.2.2.2.1 j) kn = nt) → kx_X (l, g, m_Pe_isAlwaysOf, d + 2, 0, 0, (fun v h' => v = some (.int (bP (alwP s p nt a b kn))) ∧ h' = h)) 0 0 17 [some (.ref 14), some (.int (nI p)), some (.int (nI nt)), some (.int (nI a)), some (.int (nI b)), some (.int (nI kn)), some (.int (nI k)), w7] [] (h) := by
  intro n
  induction n with
  | zero =>
    intro k hk w7 hj0
    have hk0 : k = s.2.1 := by omega
    subst hk0
    refine kx_iload (pc := 17) (kx_dd d_Pe_isAlwaysOf 11 rfl) rfl ?_
    refine kx_aload_n (pc := 19) (kx_dd d_Pe_isAlwaysOf 12 rfl) rfl rfl ?_
    refine kx_getI (pc := 20) fl_Pe_46 (hs.k 14 rfl) rfl (kx_dd d_Pe_isAlwaysOf 13 rfl) ?_
    refine kx_icmp_ge (pc := 23) (tgt := 100) (kx_dd d_Pe_isAlwaysOf 14 rfl) rfl (fun c23 => ?_) (fun c23 => ?_)
    · refine kx_iconst (pc := 100) (v := 1) (kx_dd d_Pe_isAlwaysOf 54 rfl) rfl ?_
      refine kx_zret (pc := 101) rfl rfl (kx_dd d_Pe_isAlwaysOf 55 rfl) (Nat.le_refl _) (Nat.le_refl _) ?_
      exact ⟨by rw [bP_t ⟨h0, fun j j1 j2 => hj0 j j1 j2⟩], rfl⟩
    · exact absurd (by rw [hp.2.1]; exact Int32.le_refl _) c23
  | succ n ih =>
    intro k hk w7 hj0
    obtain ⟨q1, q2, q3, q4, q5⟩ := hp.2.2 k (by omega)
    have o1 := ho.2.2 k (by omega)
    have o2 := ho.1
    have o3 := ho.2.1
    have o5 := natF_le ho (p := p) (day := s.2.2.2.2.2.1 k) (kn := kn)
    refine kx_iload (pc := 17) (kx_dd d_Pe_isAlwaysOf 11 rfl) rfl ?_
    refine kx_aload_n (pc := 19) (kx_dd d_Pe_isAlwaysOf 12 rfl) rfl rfl ?_
    refine kx_getI (pc := 20) fl_Pe_46 (hs.k 14 rfl) rfl (kx_dd d_Pe_isAlwaysOf 13 rfl) ?_
    refine kx_icmp_ge (pc := 23) (tgt := 100) (kx_dd d_Pe_isAlwaysOf 14 rfl) rfl (fun c23 => ?_) (fun c23 => ?_)
    · exact absurd c23 (by rw [hp.2.1]; exact nI_ge (by omega) (by omega))
    · refine kx_aload_n (pc := 26) (kx_dd d_Pe_isAlwaysOf 15 rfl) rfl rfl ?_
      refine kx_iload (pc := 27) (kx_dd d_Pe_isAlwaysOf 16 rfl) rfl ?_
      refine kx_iconst (pc := 29) (v := 0) (kx_dd d_Pe_isAlwaysOf 17 rfl) rfl ?_
      refine kx_iload_n (pc := 30) (kx_dd d_Pe_isAlwaysOf 18 rfl) rfl rfl ?_
      refine kx_iload (pc := 31) (kx_dd d_Pe_isAlwaysOf 19 rfl) rfl ?_
      refine kx_invV (pc := 33) (a := 14) (as := [_, _, _, _]) (kx_dd d_Pe_isAlwaysOf 20 rfl) ⟨lk_Pe_49, wi_Pe_isTold, we_Pe_isTold⟩ w_Pe_isTold (hs.k 14 rfl) rfl rfl rfl rfl (by decide) (x_Pe_isTold (d := d + 1) hs s ho hp k 0 p kn (by omega) (by decide) hpp hkn) (Nat.le_refl _) ⟨Nat.le_refl _, Nat.le_refl _⟩ (fun v h' hq => ?_)
      obtain ⟨rfl, he⟩ := hq
      rw [he]
      clear he
      refine kx_if_eq (pc := 36) (tgt := 66) (kx_dd d_Pe_isAlwaysOf 21 rfl) rfl (fun c36 => ?_) (fun c36 => ?_)
      · refine kx_iconst (pc := 66) (v := 0) (kx_dd d_Pe_isAlwaysOf 36 rfl) rfl ?_
        refine kx_istore_e (pc := 67) (lv' := [_, _, _, _, _, _, _, _]) (kx_dd d_Pe_isAlwaysOf 37 rfl) (Nat.le_of_ble_eq_true rfl) rfl ?_
        refine kx_iload (pc := 69) (kx_dd d_Pe_isAlwaysOf 38 rfl) rfl ?_
        refine kx_if_eq (pc := 71) (tgt := 94) (kx_dd d_Pe_isAlwaysOf 39 rfl) rfl (fun _ => ?_) (fun c71 => absurd (by decide) c71)
        refine kx_iinc_e (pc := 94) (v := nI (k + 1)) (lv' := [_, _, _, _, _, _, _, _]) (kx_dd d_Pe_isAlwaysOf 52 rfl) rfl (Nat.le_of_ble_eq_true rfl) (nI_1 k) rfl ?_
        refine kx_goto (pc := 97) (tgt := 17) (kx_dd d_Pe_isAlwaysOf 53 rfl) rfl ?_
        simp (disch := omega) only [q4, bP_0, bP_1, nI_eq, nI_ltI, nI_leI, nI_lt_p] at c36
        exact ih (k + 1) (by omega) _ (fun j hj z2 => by
          rcases Nat.lt_succ_iff_lt_or_eq.mp hj with h1 | rfl
          · exact hj0 j h1 z2
          · exact fun z3 z4 => absurd z2 c36)
      · refine kx_aload_n (pc := 39) (kx_dd d_Pe_isAlwaysOf 22 rfl) rfl rfl ?_
        refine kx_getR (pc := 40) (b := 20) fl_Pe_28 (hs.k 14 rfl) rfl (hs.r 24 rfl) (kx_dd d_Pe_isAlwaysOf 23 rfl) ?_
        refine kx_iload (pc := 43) (kx_dd d_Pe_isAlwaysOf 24 rfl) rfl ?_
        refine kx_ialdn (pc := 45) k (hs.t 20 rfl) rfl (by omega) (by decide) (kx_dd d_Pe_isAlwaysOf 25 rfl) ?_
        refine kx_iload_n (pc := 46) (kx_dd d_Pe_isAlwaysOf 26 rfl) rfl rfl ?_
        refine kx_icmp_le (pc := 47) (tgt := 66) (kx_dd d_Pe_isAlwaysOf 27 rfl) rfl (fun c47 => ?_) (fun c47 => ?_)
        · refine kx_iconst (pc := 66) (v := 0) (kx_dd d_Pe_isAlwaysOf 36 rfl) rfl ?_
          refine kx_istore_e (pc := 67) (lv' := [_, _, _, _, _, _, _, _]) (kx_dd d_Pe_isAlwaysOf 37 rfl) (Nat.le_of_ble_eq_true rfl) rfl ?_
          refine kx_iload (pc := 69) (kx_dd d_Pe_isAlwaysOf 38 rfl) rfl ?_
          refine kx_if_eq (pc := 71) (tgt := 94) (kx_dd d_Pe_isAlwaysOf 39 rfl) rfl (fun _ => ?_) (fun c71 => absurd (by decide) c71)
          refine kx_iinc_e (pc := 94) (v := nI (k + 1)) (lv' := [_, _, _, _, _, _, _, _]) (kx_dd d_Pe_isAlwaysOf 52 rfl) rfl (Nat.le_of_ble_eq_true rfl) (nI_1 k) rfl ?_
          refine kx_goto (pc := 97) (tgt := 17) (kx_dd d_Pe_isAlwaysOf 53 rfl) rfl ?_
          simp (disch := omega) only [q4, bP_0, bP_1, nI_eq, nI_ltI, nI_leI, nI_lt_p] at c36 c47
          exact ih (k + 1) (by omega) _ (fun j hj z2 => by
            rcases Nat.lt_succ_iff_lt_or_eq.mp hj with h1 | rfl
            · exact hj0 j h1 z2
            · exact fun z3 z4 => by omega)
        · refine kx_aload_n (pc := 50) (kx_dd d_Pe_isAlwaysOf 28 rfl) rfl rfl ?_
          refine kx_getR (pc := 51) (b := 20) fl_Pe_28 (hs.k 14 rfl) rfl (hs.r 24 rfl) (kx_dd d_Pe_isAlwaysOf 29 rfl) ?_
          refine kx_iload (pc := 54) (kx_dd d_Pe_isAlwaysOf 30 rfl) rfl ?_
          refine kx_ialdn (pc := 56) k (hs.t 20 rfl) rfl (by omega) (by decide) (kx_dd d_Pe_isAlwaysOf 31 rfl) ?_
          refine kx_iload (pc := 57) (kx_dd d_Pe_isAlwaysOf 32 rfl) rfl ?_
          refine kx_icmp_gt (pc := 59) (tgt := 66) (kx_dd d_Pe_isAlwaysOf 33 rfl) rfl (fun c59 => ?_) (fun c59 => ?_)
          · refine kx_iconst (pc := 66) (v := 0) (kx_dd d_Pe_isAlwaysOf 36 rfl) rfl ?_
            refine kx_istore_e (pc := 67) (lv' := [_, _, _, _, _, _, _, _]) (kx_dd d_Pe_isAlwaysOf 37 rfl) (Nat.le_of_ble_eq_true rfl) rfl ?_
            refine kx_iload (pc := 69) (kx_dd d_Pe_isAlwaysOf 38 rfl) rfl ?_
            refine kx_if_eq (pc := 71) (tgt := 94) (kx_dd d_Pe_isAlwaysOf 39 rfl) rfl (fun _ => ?_) (fun c71 => absurd (by decide) c71)
            refine kx_iinc_e (pc := 94) (v := nI (k + 1)) (lv' := [_, _, _, _, _, _, _, _]) (kx_dd d_Pe_isAlwaysOf 52 rfl) rfl (Nat.le_of_ble_eq_true rfl) (nI_1 k) rfl ?_
            refine kx_goto (pc := 97) (tgt := 17) (kx_dd d_Pe_isAlwaysOf 53 rfl) rfl ?_
            simp (disch := omega) only [q4, bP_0, bP_1, nI_eq, nI_ltI, nI_leI, nI_lt_p] at c36 c47 c59
            exact ih (k + 1) (by omega) _ (fun j hj z2 => by
              rcases Nat.lt_succ_iff_lt_or_eq.mp hj with h1 | rfl
              · exact hj0 j h1 z2
              · exact fun z3 z4 => by omega)
          · refine kx_iconst (pc := 62) (v := 1) (kx_dd d_Pe_isAlwaysOf 34 rfl) rfl ?_
            refine kx_goto (pc := 63) (tgt := 67) (kx_dd d_Pe_isAlwaysOf 35 rfl) rfl ?_
            refine kx_istore_e (pc := 67) (lv' := [_, _, _, _, _, _, _, _]) (kx_dd d_Pe_isAlwaysOf 37 rfl) (Nat.le_of_ble_eq_true rfl) rfl ?_
            refine kx_iload (pc := 69) (kx_dd d_Pe_isAlwaysOf 38 rfl) rfl ?_
            refine kx_if_eq (pc := 71) (tgt := 94) (kx_dd d_Pe_isAlwaysOf 39 rfl) rfl (fun c71 => absurd c71 (by decide)) (fun _ => ?_)
            refine kx_aload_n (pc := 74) (kx_dd d_Pe_isAlwaysOf 40 rfl) rfl rfl ?_
            refine kx_iload_n (pc := 75) (kx_dd d_Pe_isAlwaysOf 41 rfl) rfl rfl ?_
            refine kx_aload_n (pc := 76) (kx_dd d_Pe_isAlwaysOf 42 rfl) rfl rfl ?_
            refine kx_getR (pc := 77) (b := 20) fl_Pe_28 (hs.k 14 rfl) rfl (hs.r 24 rfl) (kx_dd d_Pe_isAlwaysOf 43 rfl) ?_
            refine kx_iload (pc := 80) (kx_dd d_Pe_isAlwaysOf 44 rfl) rfl ?_
            refine kx_ialdn (pc := 82) k (hs.t 20 rfl) rfl (by omega) (by decide) (kx_dd d_Pe_isAlwaysOf 45 rfl) ?_
            refine kx_iload (pc := 83) (kx_dd d_Pe_isAlwaysOf 46 rfl) rfl ?_
            rw [q4]
            refine kx_invV (pc := 85) (a := 14) (as := [_, _, _]) (kx_dd d_Pe_isAlwaysOf 47 rfl) ⟨lk_Pe_53, wi_Pe_nationFor, we_Pe_nationFor⟩ w_Pe_nationFor (hs.k 14 rfl) rfl rfl rfl rfl (by decide) (x_Pe_nationFor (d := d) hs s ho hp p (s.2.2.2.2.2.1 k) kn hpp (by omega) hkn) (Nat.le_refl _) ⟨Nat.le_refl _, Nat.le_refl _⟩ (fun v h' hq => ?_)
            obtain ⟨rfl, he⟩ := hq
            rw [he]
            clear he
            refine kx_iload_n (pc := 88) (kx_dd d_Pe_isAlwaysOf 48 rfl) rfl rfl ?_
            refine kx_icmp_eq (pc := 89) (tgt := 94) (kx_dd d_Pe_isAlwaysOf 49 rfl) rfl (fun c89 => ?_) (fun c89 => ?_)
            · refine kx_iinc_e (pc := 94) (v := nI (k + 1)) (lv' := [_, _, _, _, _, _, _, _]) (kx_dd d_Pe_isAlwaysOf 52 rfl) rfl (Nat.le_of_ble_eq_true rfl) (nI_1 k) rfl ?_
              refine kx_goto (pc := 97) (tgt := 17) (kx_dd d_Pe_isAlwaysOf 53 rfl) rfl ?_
              simp (disch := omega) only [q4, bP_0, bP_1, nI_eq, nI_ltI, nI_leI, nI_lt_p] at c36 c47 c59 c89
              exact ih (k + 1) (by omega) _ (fun j hj z2 => by
                rcases Nat.lt_succ_iff_lt_or_eq.mp hj with h1 | rfl
                · exact hj0 j h1 z2
                · exact fun z3 z4 => c89)
            · refine kx_iconst (pc := 92) (v := 0) (kx_dd d_Pe_isAlwaysOf 50 rfl) rfl ?_
              refine kx_zret (pc := 93) rfl rfl (kx_dd d_Pe_isAlwaysOf 51 rfl) (Nat.le_refl _) (Nat.le_refl _) ?_
              simp (disch := omega) only [q4, bP_0, bP_1, nI_eq, nI_ltI, nI_leI, nI_lt_p] at c36 c47 c59 c89
              exact ⟨by rw [bP_f (fun z => c89 (z.2 k (by omega) (Classical.not_not.mp c36) (by omega) (by omega)))], rfl⟩
theorem x_Pe_isAlwaysOf {l : Launch} {g : kx_G} {d : Nat} {h : kx_Mem} (hs : SC h) (s : PS) (ho : PSok s) (hp : PSc s h) (p nt a b kn : Nat) (hpp : p < 2 ^ 31) (hnt : nt < 2 ^ 31) (haa : a < 2 ^ 31) (hbb : b < 2 ^ 31) (hkn : kn < 2 ^ 31) : kx_Sp l g m_Pe_isAlwaysOf [.ref 14, .int (nI p), .int (nI nt), .int (nI a), .int (nI b), .int (nI kn)] h (d + 2) 0 0 (fun v h' => v = some (.int (bP (alwP s p nt a b kn))) ∧ h' = h) := by
  have o5 := natF_le ho (p := p) (day := a) (kn := kn)
  refine kx_enter_e (lv := [_, _, _, _, _, _, _, _]) (by decide +kernel) (Nat.le_of_ble_eq_true rfl) rfl ?_
  refine kx_aload_n (pc := 0) (kx_dd d_Pe_isAlwaysOf 0 rfl) rfl rfl ?_
  refine kx_iload_n (pc := 1) (kx_dd d_Pe_isAlwaysOf 1 rfl) rfl rfl ?_
  refine kx_iload_n (pc := 2) (kx_dd d_Pe_isAlwaysOf 2 rfl) rfl rfl ?_
  refine kx_iload (pc := 3) (kx_dd d_Pe_isAlwaysOf 3 rfl) rfl ?_
  refine kx_invV (pc := 5) (a := 14) (as := [_, _, _]) (kx_dd d_Pe_isAlwaysOf 4 rfl) ⟨lk_Pe_53, wi_Pe_nationFor, we_Pe_nationFor⟩ w_Pe_nationFor (hs.k 14 rfl) rfl rfl rfl rfl (by decide) (x_Pe_nationFor (d := d) hs s ho hp p a kn hpp haa hkn) (Nat.le_refl _) ⟨Nat.le_refl _, Nat.le_refl _⟩ (fun v h' hq => ?_)
  obtain ⟨rfl, he⟩ := hq
  rw [he]
  clear he
  refine kx_iload_n (pc := 8) (kx_dd d_Pe_isAlwaysOf 5 rfl) rfl rfl ?_
  refine kx_icmp_eq (pc := 9) (tgt := 14) (kx_dd d_Pe_isAlwaysOf 6 rfl) rfl (fun c9 => ?_) (fun c9 => ?_)
  · refine kx_iconst (pc := 14) (v := 0) (kx_dd d_Pe_isAlwaysOf 9 rfl) rfl ?_
    refine kx_istore_e (pc := 15) (lv' := [_, _, _, _, _, _, _, _]) (kx_dd d_Pe_isAlwaysOf 10 rfl) (Nat.le_of_ble_eq_true rfl) rfl ?_
    rw [nI_eq (by omega) (by omega)] at c9
    exact x_Pe_isAlwaysOf_loop hs s ho hp p nt a b kn hpp hnt haa hbb hkn c9 s.2.1 0 (by omega) none (fun j hj => absurd hj (Nat.not_lt_zero j))
  · refine kx_iconst (pc := 12) (v := 0) (kx_dd d_Pe_isAlwaysOf 7 rfl) rfl ?_
    refine kx_zret (pc := 13) rfl rfl (kx_dd d_Pe_isAlwaysOf 8 rfl) (Nat.le_refl _) (Nat.le_refl _) ?_
    rw [nI_eq (by omega) (by omega)] at c9
    exact ⟨by rw [bP_f (fun z => c9 z.1)], rfl⟩
