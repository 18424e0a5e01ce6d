/-! the class: Rules, what lacks, the weakest, details -/
theorem mnB_le (r : RU) (B : Nat) : mnB r B ≤ B ∧ mnB r B ≤ ruK r ∧ (mnB r B < B → mnB r B = ruK r) := by
  unfold mnB
  split <;> omega
theorem bit0 {t k : Nat} : bitN t k = 0 ↔ ¬ t.testBit k = true := by
  rw [bitN_t]
  cases t.testBit k <;> simp
theorem x_Ru_hv_in {l : Launch} {g : kx_G} {d : Nat} {h : kx_Mem} (a : Nat) (hr : IsRu h a) (r : RU) (ho : RUok r) (hp : RUc r a h) (m B S t pts i : Nat) (hB : B ≤ 16) (ht : t < 2 ^ 31) (Q : Option Value → kx_Mem → Prop)
  (kont : kx_X (l, g, m_Ru_heaviest, d, 0, 0, Q) 0 0 79 [some (.ref a), some (.int (nI m)), some (.int (nI B)), some (.int (nI S)), some (.int (nI t)), some (.int (nI pts)), some (.int (nI i)), some (.int (oI (bstK r t (mnB r B)))), some (.int (nI (mnB r B)))] [] h) : ∀ f k, k + f = mnB r B → kx_X (l, g, m_Ru_heaviest, d, 0, 0, Q) 0 0 21 [some (.ref a), some (.int (nI m)), some (.int (nI B)), some (.int (nI S)), some (.int (nI t)), some (.int (nI pts)), some (.int (nI i)), some (.int (oI (bstK r t k))), some (.int (nI k))] [] h := by
  have hmn := mnB_le r B
  have o16 := ho.1
  have o10 := ho.2.2.1
  have oa := hr.2.2.2.2.2.2.2.2.2.2.2.2.2.2.2.2.2
  intro f
  induction f with
  | zero =>
    intro k hk
    have hk0 : k = mnB r B := by omega
    subst hk0
    refine kx_iload (pc := 21) (kx_dd d_Ru_heaviest 13 rfl) rfl ?_
    refine kx_iload_n (pc := 23) (kx_dd d_Ru_heaviest 14 rfl) rfl rfl ?_
    refine kx_icmp_ge (pc := 24) (tgt := 79) (kx_dd d_Ru_heaviest 15 rfl) rfl (fun c24 => ?_) (fun c24 => ?_)
    · exact kont
    · refine kx_iload (pc := 27) (kx_dd d_Ru_heaviest 16 rfl) rfl ?_
      refine kx_aload_n (pc := 29) (kx_dd d_Ru_heaviest 17 rfl) rfl rfl ?_
      refine kx_getI (pc := 30) fl_Ru_40 (by rw [hr.1]) rfl (kx_dd d_Ru_heaviest 18 rfl) ?_
      refine kx_icmp_ge (pc := 33) (tgt := 79) (kx_dd d_Ru_heaviest 19 rfl) rfl (fun c33 => ?_) (fun c33 => ?_)
      · exact kont
      · exact absurd (by rw [hp.2.2.1]; rw [nI_leI (by omega) (by omega)] at c24; exact nI_le (by omega) (by omega)) c33
  | succ f ih =>
    intro k hk
    have q1 := (hp.2.2.2.1 k (by omega)).2
    have o1 := (ho.2.1 k (by omega)).2
    have hlt := (bstK_ok (r := r) (t := t) k).2
    have hon : oI (bstK r t k) = -1 ↔ bstK r t k = none := oI_n (fun j e => by have := (hlt j e).1; omega)
    refine kx_iload (pc := 21) (kx_dd d_Ru_heaviest 13 rfl) rfl ?_
    refine kx_iload_n (pc := 23) (kx_dd d_Ru_heaviest 14 rfl) rfl rfl ?_
    refine kx_icmp_ge (pc := 24) (tgt := 79) (kx_dd d_Ru_heaviest 15 rfl) rfl (fun c24 => ?_) (fun c24 => ?_)
    · exact absurd c24 (nI_ge (by omega) (by omega))
    · refine kx_iload (pc := 27) (kx_dd d_Ru_heaviest 16 rfl) rfl ?_
      refine kx_aload_n (pc := 29) (kx_dd d_Ru_heaviest 17 rfl) rfl rfl ?_
      refine kx_getI (pc := 30) fl_Ru_40 (by rw [hr.1]) rfl (kx_dd d_Ru_heaviest 18 rfl) ?_
      refine kx_icmp_ge (pc := 33) (tgt := 79) (kx_dd d_Ru_heaviest 19 rfl) rfl (fun c33 => ?_) (fun c33 => ?_)
      · exact absurd c33 (by rw [hp.2.2.1]; exact nI_ge (by omega) (by omega))
      · refine kx_iload (pc := 36) (kx_dd d_Ru_heaviest 20 rfl) rfl ?_
        refine kx_iload (pc := 38) (kx_dd d_Ru_heaviest 21 rfl) rfl ?_
        refine kx_ishr (pc := 40) (kx_dd d_Ru_heaviest 22 rfl) ?_
        refine kx_iconst (pc := 41) (v := 1) (kx_dd d_Ru_heaviest 23 rfl) rfl ?_
        refine kx_iand (pc := 42) (kx_dd d_Ru_heaviest 24 rfl) ?_
        refine kx_if_ne (pc := 43) (tgt := 73) (kx_dd d_Ru_heaviest 25 rfl) rfl (fun c43 => ?_) (fun c43 => ?_)
        · refine kx_iinc_e (pc := 73) (v := nI (k + 1)) (lv' := [_, _, _, _, _, _, _, _, _]) (kx_dd d_Ru_heaviest 40 rfl) rfl (Nat.le_of_ble_eq_true rfl) (nI_1 k) rfl ?_
          refine kx_goto (pc := 76) (tgt := 21) (kx_dd d_Ru_heaviest 41 rfl) rfl ?_
          rw [nI_bit ht (by omega), nI_z (by have := bitN_le t k; omega), bit0] at c43
          have e1 : bstK r t (k + 1) = bstK r t k := if_pos (Classical.not_not.mp c43)
          have ih1 := ih (k + 1) (by omega)
          rw [e1] at ih1
          exact ih1
        · refine kx_iload (pc := 46) (kx_dd d_Ru_heaviest 26 rfl) rfl ?_
          refine kx_iconst (pc := 48) (v := -1) (kx_dd d_Ru_heaviest 27 rfl) rfl ?_
          refine kx_icmp_eq (pc := 49) (tgt := 69) (kx_dd d_Ru_heaviest 28 rfl) rfl (fun c49 => ?_) (fun c49 => ?_)
          · refine kx_iload (pc := 69) (kx_dd d_Ru_heaviest 38 rfl) rfl ?_
            refine kx_istore_e (pc := 71) (lv' := [_, _, _, _, _, _, _, _, _]) (kx_dd d_Ru_heaviest 39 rfl) (Nat.le_of_ble_eq_true rfl) rfl ?_
            refine kx_iinc_e (pc := 73) (v := nI (k + 1)) (lv' := [_, _, _, _, _, _, _, _, _]) (kx_dd d_Ru_heaviest 40 rfl) rfl (Nat.le_of_ble_eq_true rfl) (nI_1 k) rfl ?_
            refine kx_goto (pc := 76) (tgt := 21) (kx_dd d_Ru_heaviest 41 rfl) rfl ?_
            rw [nI_bit ht (by omega), nI_z (by have := bitN_le t k; omega), bit0] at c43
            rw [hon] at c49
            have e1 : bstK r t (k + 1) = some k := by unfold bstK; rw [if_neg c43, c49]
            have ih1 := ih (k + 1) (by omega)
            rw [e1] at ih1
            exact ih1
          · obtain ⟨m0, em⟩ : ∃ m0, bstK r t k = some m0 := by
              cases e : bstK r t k with
              | none => exact absurd (hon.mpr e) c49
              | some m0 => exact ⟨m0, rfl⟩
            have hm0 := hlt m0 em
            have q2 := (hp.2.2.2.1 m0 (by omega)).2
            have o2 := (ho.2.1 m0 (by omega)).2
            refine kx_aload_n (pc := 52) (kx_dd d_Ru_heaviest 29 rfl) rfl rfl ?_
            refine kx_getR (pc := 53) (b := (a + 4)) fl_Ru_22 (by rw [hr.1]) rfl (hr.2.2.2.2.2.2.2.2.2.2.2.2.1) (kx_dd d_Ru_heaviest 30 rfl) ?_
            refine kx_iload (pc := 56) (kx_dd d_Ru_heaviest 31 rfl) rfl ?_
            refine kx_ialdn (pc := 58) k (hr.2.2.2.2.1) rfl (by omega) (by decide) (kx_dd d_Ru_heaviest 32 rfl) ?_
            refine kx_aload_n (pc := 59) (kx_dd d_Ru_heaviest 33 rfl) rfl rfl ?_
            refine kx_getR (pc := 60) (b := (a + 4)) fl_Ru_22 (by rw [hr.1]) rfl (hr.2.2.2.2.2.2.2.2.2.2.2.2.1) (kx_dd d_Ru_heaviest 34 rfl) ?_
            refine kx_iload (pc := 63) (kx_dd d_Ru_heaviest 35 rfl) rfl ?_
            refine kx_ialdn (pc := 65) m0 (hr.2.2.2.2.1) (by rw [em]; rfl) (by omega) (by decide) (kx_dd d_Ru_heaviest 36 rfl) ?_
            refine kx_icmp_le (pc := 66) (tgt := 73) (kx_dd d_Ru_heaviest 37 rfl) rfl (fun c66 => ?_) (fun c66 => ?_)
            · refine kx_iinc_e (pc := 73) (v := nI (k + 1)) (lv' := [_, _, _, _, _, _, _, _, _]) (kx_dd d_Ru_heaviest 40 rfl) rfl (Nat.le_of_ble_eq_true rfl) (nI_1 k) rfl ?_
              refine kx_goto (pc := 76) (tgt := 21) (kx_dd d_Ru_heaviest 41 rfl) rfl ?_
              rw [nI_bit ht (by omega), nI_z (by have := bitN_le t k; omega), bit0] at c43
              rw [q1, q2, nI_leI (by omega) (by omega)] at c66
              have e1 : bstK r t (k + 1) = some m0 := by unfold bstK; rw [if_neg c43, em]; simp only; rw [if_neg (by omega)]
              have ih1 := ih (k + 1) (by omega)
              rw [e1, ← em] at ih1
              exact ih1
            · refine kx_iload (pc := 69) (kx_dd d_Ru_heaviest 38 rfl) rfl ?_
              refine kx_istore_e (pc := 71) (lv' := [_, _, _, _, _, _, _, _, _]) (kx_dd d_Ru_heaviest 39 rfl) (Nat.le_of_ble_eq_true rfl) rfl ?_
              refine kx_iinc_e (pc := 73) (v := nI (k + 1)) (lv' := [_, _, _, _, _, _, _, _, _]) (kx_dd d_Ru_heaviest 40 rfl) rfl (Nat.le_of_ble_eq_true rfl) (nI_1 k) rfl ?_
              refine kx_goto (pc := 76) (tgt := 21) (kx_dd d_Ru_heaviest 41 rfl) rfl ?_
              rw [nI_bit ht (by omega), nI_z (by have := bitN_le t k; omega), bit0] at c43
              rw [q1, q2, nI_leI (by omega) (by omega)] at c66
              have e1 : bstK r t (k + 1) = some k := by unfold bstK; rw [if_neg c43, em]; simp only; rw [if_pos (by omega)]
              have ih1 := ih (k + 1) (by omega)
              rw [e1] at ih1
              exact ih1
theorem x_Ru_hv_loop {l : Launch} {g : kx_G} {d : Nat} {h : kx_Mem} (a : Nat) (hr : IsRu h a) (r : RU) (ho : RUok r) (hp : RUc r a h) (m B S : Nat) (hB : B ≤ 16) (hS : S ≤ 16) : ∀ n i, i + n = S → ∀ t pts w7 w8, t < 2 ^ 16 → pts ≤ 99 * i → pts + heaF r B n t = heaF r B S m → kx_X (l, g, m_Ru_heaviest, d, 0, 0, (fun v h' => v = some (.int (nI (heaF r B S m))) ∧ h' = h)) 0 0 9 [some (.ref a), some (.int (nI m)), some (.int (nI B)), some (.int (nI S)), some (.int (nI t)), some (.int (nI pts)), some (.int (nI i)), w7, w8] [] h := by
  have hmn := mnB_le r B
  have o16 := ho.1
  have o10 := ho.2.2.1
  have oa := hr.2.2.2.2.2.2.2.2.2.2.2.2.2.2.2.2.2
  intro n
  induction n with
  | zero =>
    intro i hi t pts w7 w8 ht hpt he
    have hi0 : i = S := by omega
    subst hi0
    refine kx_iload (pc := 9) (kx_dd d_Ru_heaviest 6 rfl) rfl ?_
    refine kx_iload_n (pc := 11) (kx_dd d_Ru_heaviest 7 rfl) rfl rfl ?_
    refine kx_icmp_ge (pc := 12) (tgt := 115) (kx_dd d_Ru_heaviest 8 rfl) rfl (fun c12 => ?_) (fun c12 => ?_)
    · refine kx_iload (pc := 115) (kx_dd d_Ru_heaviest 62 rfl) rfl ?_
      refine kx_iret (pc := 117) rfl (kx_dd d_Ru_heaviest 63 rfl) (Nat.le_refl _) (Nat.le_refl _) ?_
      exact ⟨by rw [← he]; rfl, rfl⟩
    · exact absurd (Int32.le_refl _) c12
  | succ n ih =>
    intro i hi t pts w7 w8 ht hpt he
    have hbst := (bstK_ok (r := r) (t := t) (mnB r B)).2
    have hon : oI (bstK r t (mnB r B)) = -1 ↔ bstK r t (mnB r B) = none := oI_n (fun j e => by have := (hbst j e).1; omega)
    refine kx_iload (pc := 9) (kx_dd d_Ru_heaviest 6 rfl) rfl ?_
    refine kx_iload_n (pc := 11) (kx_dd d_Ru_heaviest 7 rfl) rfl rfl ?_
    refine kx_icmp_ge (pc := 12) (tgt := 115) (kx_dd d_Ru_heaviest 8 rfl) rfl (fun c12 => ?_) (fun c12 => ?_)
    · exact absurd c12 (nI_ge (by omega) (by omega))
    · refine kx_iconst (pc := 15) (v := -1) (kx_dd d_Ru_heaviest 9 rfl) rfl ?_
      refine kx_istore_e (pc := 16) (lv' := [_, _, _, _, _, _, _, _, _]) (kx_dd d_Ru_heaviest 10 rfl) (Nat.le_of_ble_eq_true rfl) rfl ?_
      refine kx_iconst (pc := 18) (v := 0) (kx_dd d_Ru_heaviest 11 rfl) rfl ?_
      refine kx_istore_e (pc := 19) (lv' := [_, _, _, _, _, _, _, _, _]) (kx_dd d_Ru_heaviest 12 rfl) (Nat.le_of_ble_eq_true rfl) rfl ?_
      refine x_Ru_hv_in a hr r ho hp m B S t pts i hB (by omega) _ ?_ (mnB r B) 0 (by omega)
      refine kx_iload (pc := 79) (kx_dd d_Ru_heaviest 42 rfl) rfl ?_
      refine kx_iconst (pc := 81) (v := -1) (kx_dd d_Ru_heaviest 43 rfl) rfl ?_
      refine kx_icmp_ne (pc := 82) (tgt := 88) (kx_dd d_Ru_heaviest 44 rfl) rfl (fun c82 => ?_) (fun c82 => ?_)
      · obtain ⟨m0, em⟩ : ∃ m0, bstK r t (mnB r B) = some m0 := by
          cases e : bstK r t (mnB r B) with
          | none => exact absurd (hon.mpr e) c82
          | some m0 => exact ⟨m0, rfl⟩
        have hm0 := hbst m0 em
        have q2 := (hp.2.2.2.1 m0 (by omega)).2
        have o2 := (ho.2.1 m0 (by omega)).2
        refine kx_iload (pc := 88) (kx_dd d_Ru_heaviest 47 rfl) rfl ?_
        refine kx_aload_n (pc := 90) (kx_dd d_Ru_heaviest 48 rfl) rfl rfl ?_
        refine kx_getR (pc := 91) (b := (a + 4)) fl_Ru_22 (by rw [hr.1]) rfl (hr.2.2.2.2.2.2.2.2.2.2.2.2.1) (kx_dd d_Ru_heaviest 49 rfl) ?_
        refine kx_iload (pc := 94) (kx_dd d_Ru_heaviest 50 rfl) rfl ?_
        refine kx_ialdn (pc := 96) m0 (hr.2.2.2.2.1) (by rw [em]; rfl) (by omega) (by decide) (kx_dd d_Ru_heaviest 51 rfl) ?_
        refine kx_iadd (pc := 97) (kx_dd d_Ru_heaviest 52 rfl) ?_
        refine kx_istore_e (pc := 98) (lv' := [_, _, _, _, _, _, _, _, _]) (kx_dd d_Ru_heaviest 53 rfl) (Nat.le_of_ble_eq_true rfl) rfl ?_
        refine kx_iload (pc := 100) (kx_dd d_Ru_heaviest 54 rfl) rfl ?_
        refine kx_iconst (pc := 102) (v := 1) (kx_dd d_Ru_heaviest 55 rfl) rfl ?_
        refine kx_iload (pc := 103) (kx_dd d_Ru_heaviest 56 rfl) rfl ?_
        rw [em]
        refine kx_ishl (pc := 105) (kx_dd d_Ru_heaviest 57 rfl) ?_
        rw [show oI (some m0) = nI m0 from rfl, nI_pow (by omega)]
        refine kx_ior (pc := 106) (kx_dd d_Ru_heaviest 58 rfl) ?_
        rw [nI_or]
        refine kx_istore_e (pc := 107) (lv' := [_, _, _, _, _, _, _, _, _]) (kx_dd d_Ru_heaviest 59 rfl) (Nat.le_of_ble_eq_true rfl) rfl ?_
        refine kx_iinc_e (pc := 109) (v := nI (i + 1)) (lv' := [_, _, _, _, _, _, _, _, _]) (kx_dd d_Ru_heaviest 60 rfl) rfl (Nat.le_of_ble_eq_true rfl) (nI_1 i) rfl ?_
        refine kx_goto (pc := 112) (tgt := 9) (kx_dd d_Ru_heaviest 61 rfl) rfl ?_
        rw [q2, nI_add]
        refine ih (i + 1) (by omega) (t ||| 2 ^ m0) (pts + ruWT r m0) _ _ ?_ (by omega) ?_
        · exact Nat.or_lt_two_pow ht (Nat.pow_lt_pow_right (by decide) (by omega))
        · have e9 : heaF r B (n + 1) t = ruWT r m0 + heaF r B n (t ||| 2 ^ m0) := by rw [heaF, em]
          omega
      · refine kx_iload (pc := 85) (kx_dd d_Ru_heaviest 45 rfl) rfl ?_
        refine kx_iret (pc := 87) rfl (kx_dd d_Ru_heaviest 46 rfl) (Nat.le_refl _) (Nat.le_refl _) ?_
        rw [hon] at c82
        refine ⟨?_, rfl⟩
        rw [← he]
        unfold heaF
        rw [c82]
        rfl
theorem x_Ru_heaviest {l : Launch} {g : kx_G} {d : Nat} {h : kx_Mem} (a : Nat) (hr : IsRu h a) (r : RU) (ho : RUok r) (hp : RUc r a h) (m B S : Nat) (hm : m < 2 ^ 16) (hB : B ≤ 16) (hS : S ≤ 16) : kx_Sp l g m_Ru_heaviest [.ref a, .int (nI m), .int (nI B), .int (nI S)] h (d) 0 0 (fun v h' => v = some (.int (nI (heaF r B S m))) ∧ h' = h) := by
  refine kx_enter_e (lv := [_, _, _, _, _, _, _, _, _]) (by decide +kernel) (Nat.le_of_ble_eq_true rfl) rfl ?_
  refine kx_iload_n (pc := 0) (kx_dd d_Ru_heaviest 0 rfl) rfl rfl ?_
  refine kx_istore_e (pc := 1) (lv' := [_, _, _, _, _, _, _, _, _]) (kx_dd d_Ru_heaviest 1 rfl) (Nat.le_of_ble_eq_true rfl) rfl ?_
  refine kx_iconst (pc := 3) (v := 0) (kx_dd d_Ru_heaviest 2 rfl) rfl ?_
  refine kx_istore_e (pc := 4) (lv' := [_, _, _, _, _, _, _, _, _]) (kx_dd d_Ru_heaviest 3 rfl) (Nat.le_of_ble_eq_true rfl) rfl ?_
  refine kx_iconst (pc := 6) (v := 0) (kx_dd d_Ru_heaviest 4 rfl) rfl ?_
  refine kx_istore_e (pc := 7) (lv' := [_, _, _, _, _, _, _, _, _]) (kx_dd d_Ru_heaviest 5 rfl) (Nat.le_of_ble_eq_true rfl) rfl ?_
  exact x_Ru_hv_loop a hr r ho hp m B S hB hS S 0 (by omega) m 0 _ _ hm (by omega) (by omega)
theorem x_Ru_isHopeless {l : Launch} {g : kx_G} {d : Nat} {h : kx_Mem} (a : Nat) (hr : IsRu h a) (r : RU) (ho : RUok r) (hp : RUc r a h) (w m B S : Nat) (hw : w < 2 ^ 60) (hm : m < 2 ^ 16) (hB : B ≤ 16) (hS : S ≤ 16) : kx_Sp l g m_Ru_isHopeless [.ref a, .long (lN w), .int (nI m), .int (nI B), .int (nI S)] h (d + 2) 0 0 (fun v h' => v = some (.int (bP (hopP r w m B S))) ∧ h' = h) := by
  refine kx_enter_e (lv := [_, _, _, _, _, _]) (by decide +kernel) (Nat.le_of_ble_eq_true rfl) rfl ?_
  refine kx_aload_n (pc := 0) (kx_dd d_Ru_isHopeless 0 rfl) rfl rfl ?_
  refine kx_iload_n (pc := 1) (kx_dd d_Ru_isHopeless 1 rfl) rfl rfl ?_
  refine kx_invV (pc := 2) (a := a) (as := [_]) (kx_dd d_Ru_isHopeless 2 rfl) ⟨lk_Ru_64, wi_Ru_pointsOf, we_Ru_pointsOf⟩ w_Ru_pointsOf (by rw [hr.1]) rfl rfl rfl rfl (Nat.le_of_ble_eq_true rfl) (x_Ru_pointsOf (d := d + 1) a hr r ho hp m (by omega)) (Nat.le_refl _) ⟨Nat.le_refl _, Nat.le_refl _⟩ (fun v h' hq => ?_)
  obtain ⟨rfl, he⟩ := hq
  rw [he]
  clear he
  refine kx_aload_n (pc := 5) (kx_dd d_Ru_isHopeless 3 rfl) rfl rfl ?_
  refine kx_iload_n (pc := 6) (kx_dd d_Ru_isHopeless 4 rfl) rfl rfl ?_
  refine kx_iload (pc := 7) (kx_dd d_Ru_isHopeless 5 rfl) rfl ?_
  refine kx_iload (pc := 9) (kx_dd d_Ru_isHopeless 6 rfl) rfl ?_
  refine kx_invV (pc := 11) (a := a) (as := [_, _, _]) (kx_dd d_Ru_isHopeless 7 rfl) ⟨lk_Ru_86, wi_Ru_heaviest, we_Ru_heaviest⟩ w_Ru_heaviest (by rw [hr.1]) rfl rfl rfl rfl (Nat.le_of_ble_eq_true rfl) (x_Ru_heaviest (d := d + 1) a hr r ho hp m B S hm hB hS) (Nat.le_refl _) ⟨Nat.le_refl _, Nat.le_refl _⟩ (fun v h' hq => ?_)
  obtain ⟨rfl, he⟩ := hq
  rw [he]
  clear he
  refine kx_iadd (pc := 14) (kx_dd d_Ru_isHopeless 8 rfl) ?_
  refine kx_aload_n (pc := 15) (kx_dd d_Ru_isHopeless 9 rfl) rfl rfl ?_
  refine kx_lload_n (pc := 16) (kx_dd d_Ru_isHopeless 10 rfl) rfl rfl ?_
  refine kx_invV (pc := 17) (a := a) (as := [_]) (kx_dd d_Ru_isHopeless 11 rfl) ⟨lk_Ru_68, wi_Ru_needOf, we_Ru_needOf⟩ w_Ru_needOf (by rw [hr.1]) rfl rfl rfl rfl (Nat.le_of_ble_eq_true rfl) (x_Ru_needOf (d := d) a hr r ho hp w hw) (Nat.le_refl _) ⟨Nat.le_refl _, Nat.le_refl _⟩ (fun v h' hq => ?_)
  obtain ⟨rfl, he⟩ := hq
  rw [he]
  clear he
  refine kx_icmp_ge (pc := 20) (tgt := 25) (kx_dd d_Ru_isHopeless 12 rfl) rfl (fun c20 => ?_) (fun c20 => ?_)
  · refine kx_aload_n (pc := 25) (kx_dd d_Ru_isHopeless 15 rfl) rfl rfl ?_
    refine kx_lload_n (pc := 26) (kx_dd d_Ru_isHopeless 16 rfl) rfl rfl ?_
    refine kx_iload_n (pc := 27) (kx_dd d_Ru_isHopeless 17 rfl) rfl rfl ?_
    refine kx_iconst (pc := 28) (v := 1) (kx_dd d_Ru_isHopeless 18 rfl) rfl ?_
    refine kx_iload (pc := 29) (kx_dd d_Ru_isHopeless 19 rfl) rfl ?_
    refine kx_ishl (pc := 31) (kx_dd d_Ru_isHopeless 20 rfl) ?_
    refine kx_iconst (pc := 32) (v := 1) (kx_dd d_Ru_isHopeless 21 rfl) rfl ?_
    refine kx_isub (pc := 33) (kx_dd d_Ru_isHopeless 22 rfl) ?_
    refine kx_ior (pc := 34) (kx_dd d_Ru_isHopeless 23 rfl) ?_
    have hpw : 2 ^ B ≤ 2 ^ 16 := Nat.pow_le_pow_right (by decide) hB
    have hp0 : 0 < 2 ^ B := Nat.two_pow_pos B
    have hor : m ||| (2 ^ B - 1) < 2 ^ 31 := Nat.or_lt_two_pow (by omega) (by omega)
    rw [nI_pow (by omega), nI_m1' hp0, nI_or]
    refine kx_invV (pc := 35) (a := a) (as := [_, _]) (kx_dd d_Ru_isHopeless 24 rfl) ⟨lk_Ru_71, wi_Ru_meetsDemands, we_Ru_meetsDemands⟩ w_Ru_meetsDemands (by rw [hr.1]) rfl rfl rfl rfl (Nat.le_of_ble_eq_true rfl) (x_Ru_meetsDemands (d := d + 1) a hr r ho hp w (m ||| (2 ^ B - 1)) hw hor) (Nat.le_refl _) ⟨Nat.le_refl _, Nat.le_refl _⟩ (fun v h' hq => ?_)
    obtain ⟨rfl, he⟩ := hq
    rw [he]
    clear he
    refine kx_if_ne (pc := 38) (tgt := 45) (kx_dd d_Ru_isHopeless 25 rfl) rfl (fun c38 => ?_) (fun c38 => ?_)
    · refine kx_iconst (pc := 45) (v := 0) (kx_dd d_Ru_isHopeless 28 rfl) rfl ?_
      refine kx_zret (pc := 46) rfl rfl (kx_dd d_Ru_isHopeless 29 rfl) (Nat.le_refl _) (Nat.le_refl _) ?_
      have oN := nedF_le ho w
      have oP := ptF_le ho m
      have oH := heaF_le ho (B := B) S m
      rw [nI_add, nI_leI (by omega) (by omega)] at c20
      rw [bP_0, Classical.not_not] at c38
      exact ⟨by rw [bP_f (show ¬ hopP r w m B S from fun z => z.elim (fun q => by omega) (fun q => q c38))], rfl⟩
    · refine kx_iconst (pc := 41) (v := 1) (kx_dd d_Ru_isHopeless 26 rfl) rfl ?_
      refine kx_goto (pc := 42) (tgt := 46) (kx_dd d_Ru_isHopeless 27 rfl) rfl ?_
      refine kx_zret (pc := 46) rfl rfl (kx_dd d_Ru_isHopeless 29 rfl) (Nat.le_refl _) (Nat.le_refl _) ?_
      have oN := nedF_le ho w
      have oP := ptF_le ho m
      have oH := heaF_le ho (B := B) S m
      rw [nI_add, nI_leI (by omega) (by omega)] at c20
      rw [bP_0] at c38
      exact ⟨by rw [bP_t (show hopP r w m B S from Or.inr c38)], rfl⟩
  · refine kx_iconst (pc := 23) (v := 1) (kx_dd d_Ru_isHopeless 13 rfl) rfl ?_
    refine kx_zret (pc := 24) rfl rfl (kx_dd d_Ru_isHopeless 14 rfl) (Nat.le_refl _) (Nat.le_refl _) ?_
    have oN := nedF_le ho w
    have oP := ptF_le ho m
    have oH := heaF_le ho (B := B) S m
    rw [nI_add, nI_leI (by omega) (by omega)] at c20
    exact ⟨by rw [bP_t (show hopP r w m B S from Or.inl (by omega))], rfl⟩
theorem x_Ru_least {l : Launch} {g : kx_G} {d : Nat} {h : kx_Mem} (a : Nat) (hr : IsRu h a) (r : RU) (ho : RUok r) (hp : RUc r a h) (w : Nat) (hw : w < 2 ^ 60) : ∀ B, B ≤ 16 → ∀ m S, m < 2 ^ 16 → S ≤ 16 → kx_Sp l g m_Ru_leastBesides [.ref a, .long (lN w), .int (nI m), .int (nI B), .int (nI S)] h (d + B + 4) 0 0 (fun v h' => ∃ o, v = some (.int (oI o)) ∧ leaP r w m B S o ∧ h' = h) := by
  have o16 := ho.1
  have o10 := ho.2.2.1
  have oa := hr.2.2.2.2.2.2.2.2.2.2.2.2.2.2.2.2.2
  intro B
  induction B with
  | zero =>
    intro hB m S hm hS
    refine kx_enter_e (lv := [_, _, _, _, _, _, _, _, _]) (by decide +kernel) (Nat.le_of_ble_eq_true rfl) rfl ?_
    refine kx_aload_n (pc := 0) (kx_dd d_Ru_leastBesides 0 rfl) rfl rfl ?_
    refine kx_lload_n (pc := 1) (kx_dd d_Ru_leastBesides 1 rfl) rfl rfl ?_
    refine kx_iload_n (pc := 2) (kx_dd d_Ru_leastBesides 2 rfl) rfl rfl ?_
    refine kx_invV (pc := 3) (a := a) (as := [_, _]) (kx_dd d_Ru_leastBesides 3 rfl) ⟨lk_Ru_79, wi_Ru_isShown, we_Ru_isShown⟩ w_Ru_isShown (by rw [hr.1]) rfl rfl rfl rfl (Nat.le_of_ble_eq_true rfl) (x_Ru_isShown (d := d + 1) a hr r ho hp w m hw (by omega)) (Nat.le_refl _) ⟨Nat.le_refl _, Nat.le_refl _⟩ (fun v h' hq => ?_)
    obtain ⟨rfl, he⟩ := hq
    rw [he]
    clear he
    refine kx_if_eq (pc := 6) (tgt := 11) (kx_dd d_Ru_leastBesides 4 rfl) rfl (fun c6 => ?_) (fun c6 => ?_)
    · refine kx_iload (pc := 11) (kx_dd d_Ru_leastBesides 7 rfl) rfl ?_
      refine kx_if_le (pc := 13) (tgt := 34) (kx_dd d_Ru_leastBesides 8 rfl) rfl (fun c13 => ?_) (fun c13 => ?_)
      · refine kx_iconst (pc := 34) (v := -1) (kx_dd d_Ru_leastBesides 18 rfl) rfl ?_
        refine kx_iret (pc := 35) rfl (kx_dd d_Ru_leastBesides 19 rfl) (Nat.le_refl _) (Nat.le_refl _) ?_
        rw [bP_0] at c6
        exact ⟨none, rfl, lea_n (by omega) c6 (Or.inl (by rcases Nat.eq_zero_or_pos S with e | e; exact e; exact absurd c13 (nI_nle e (by omega)))), rfl⟩
      · refine kx_iload (pc := 16) (kx_dd d_Ru_leastBesides 9 rfl) rfl ?_
        refine kx_if_le (pc := 18) (tgt := 34) (kx_dd d_Ru_leastBesides 10 rfl) rfl (fun c18 => ?_) (fun c18 => ?_)
        · refine kx_iconst (pc := 34) (v := -1) (kx_dd d_Ru_leastBesides 18 rfl) rfl ?_
          refine kx_iret (pc := 35) rfl (kx_dd d_Ru_leastBesides 19 rfl) (Nat.le_refl _) (Nat.le_refl _) ?_
          rw [bP_0] at c6
          exact ⟨none, rfl, lea_n (by omega) c6 (Or.inr rfl), rfl⟩
        · exact absurd (by decide) c18
    · refine kx_iconst (pc := 9) (v := 0) (kx_dd d_Ru_leastBesides 5 rfl) rfl ?_
      refine kx_iret (pc := 10) rfl (kx_dd d_Ru_leastBesides 6 rfl) (Nat.le_refl _) (Nat.le_refl _) ?_
      rw [bP_0, Classical.not_not] at c6
      exact ⟨some 0, by rw [show oI (some 0) = nI 0 from rfl, nI_0], lea_0 c6, rfl⟩
  | succ B ih =>
    intro hB m S hm hS
    have hB1 : B + 1 ≤ 16 := hB
    have hpw : 2 ^ B ≤ 2 ^ 15 := Nat.pow_le_pow_right (by decide) (by omega)
    refine kx_enter_e (lv := [_, _, _, _, _, _, _, _, _]) (by decide +kernel) (Nat.le_of_ble_eq_true rfl) rfl ?_
    refine kx_aload_n (pc := 0) (kx_dd d_Ru_leastBesides 0 rfl) rfl rfl ?_
    refine kx_lload_n (pc := 1) (kx_dd d_Ru_leastBesides 1 rfl) rfl rfl ?_
    refine kx_iload_n (pc := 2) (kx_dd d_Ru_leastBesides 2 rfl) rfl rfl ?_
    refine kx_invV (pc := 3) (a := a) (as := [_, _]) (kx_dd d_Ru_leastBesides 3 rfl) ⟨lk_Ru_79, wi_Ru_isShown, we_Ru_isShown⟩ w_Ru_isShown (by rw [hr.1]) rfl rfl rfl rfl (Nat.le_of_ble_eq_true rfl) (x_Ru_isShown (d := d + B + 2) a hr r ho hp w m hw (by omega)) (Nat.le_refl _) ⟨Nat.le_refl _, Nat.le_refl _⟩ (fun v h' hq => ?_)
    obtain ⟨rfl, he⟩ := hq
    rw [he]
    clear he
    refine kx_if_eq (pc := 6) (tgt := 11) (kx_dd d_Ru_leastBesides 4 rfl) rfl (fun c6 => ?_) (fun c6 => ?_)
    · refine kx_iload (pc := 11) (kx_dd d_Ru_leastBesides 7 rfl) rfl ?_
      refine kx_if_le (pc := 13) (tgt := 34) (kx_dd d_Ru_leastBesides 8 rfl) rfl (fun c13 => ?_) (fun c13 => ?_)
      · refine kx_iconst (pc := 34) (v := -1) (kx_dd d_Ru_leastBesides 18 rfl) rfl ?_
        refine kx_iret (pc := 35) rfl (kx_dd d_Ru_leastBesides 19 rfl) (Nat.le_refl _) (Nat.le_refl _) ?_
        rw [bP_0] at c6
        exact ⟨none, rfl, lea_n (by omega) c6 (Or.inl (by rcases Nat.eq_zero_or_pos S with e | e; exact e; exact absurd c13 (nI_nle e (by omega)))), rfl⟩
      · refine kx_iload (pc := 16) (kx_dd d_Ru_leastBesides 9 rfl) rfl ?_
        refine kx_if_le (pc := 18) (tgt := 34) (kx_dd d_Ru_leastBesides 10 rfl) rfl (fun c18 => ?_) (fun c18 => ?_)
        · exact absurd c18 (nI_nle (by omega) (by omega))
        · refine kx_aload_n (pc := 21) (kx_dd d_Ru_leastBesides 11 rfl) rfl rfl ?_
          refine kx_lload_n (pc := 22) (kx_dd d_Ru_leastBesides 12 rfl) rfl rfl ?_
          refine kx_iload_n (pc := 23) (kx_dd d_Ru_leastBesides 13 rfl) rfl rfl ?_
          refine kx_iload (pc := 24) (kx_dd d_Ru_leastBesides 14 rfl) rfl ?_
          refine kx_iload (pc := 26) (kx_dd d_Ru_leastBesides 15 rfl) rfl ?_
          refine kx_invV (pc := 28) (a := a) (as := [_, _, _, _]) (kx_dd d_Ru_leastBesides 16 rfl) ⟨lk_Ru_82, wi_Ru_isHopeless, we_Ru_isHopeless⟩ w_Ru_isHopeless (by rw [hr.1]) rfl rfl rfl rfl (Nat.le_of_ble_eq_true rfl) (x_Ru_isHopeless (d := d + B + 2) a hr r ho hp w m (B + 1) S hw hm hB hS) (Nat.le_refl _) ⟨Nat.le_refl _, Nat.le_refl _⟩ (fun v h' hq => ?_)
          obtain ⟨rfl, he⟩ := hq
          rw [he]
          clear he
          refine kx_if_eq (pc := 31) (tgt := 36) (kx_dd d_Ru_leastBesides 17 rfl) rfl (fun c31 => ?_) (fun c31 => ?_)
          · refine kx_aload_n (pc := 36) (kx_dd d_Ru_leastBesides 20 rfl) rfl rfl ?_
            refine kx_lload_n (pc := 37) (kx_dd d_Ru_leastBesides 21 rfl) rfl rfl ?_
            refine kx_iload_n (pc := 38) (kx_dd d_Ru_leastBesides 22 rfl) rfl rfl ?_
            refine kx_iload (pc := 39) (kx_dd d_Ru_leastBesides 23 rfl) rfl ?_
            refine kx_iconst (pc := 41) (v := 1) (kx_dd d_Ru_leastBesides 24 rfl) rfl ?_
            refine kx_isub (pc := 42) (kx_dd d_Ru_leastBesides 25 rfl) ?_
            rw [nI_pred]
            refine kx_iload (pc := 43) (kx_dd d_Ru_leastBesides 26 rfl) rfl ?_
            refine kx_invS (pc := 45) (as := [_, _, _, _, _]) (kx_dd d_Ru_leastBesides 27 rfl) ⟨lk_Ru_75, wt_Ru_leastBesides⟩ w_Ru_leastBesides rfl rfl (Nat.le_of_ble_eq_true rfl) (ih (by omega) m S hm hS) (Nat.le_refl _) ⟨Nat.le_refl _, Nat.le_refl _⟩ (fun v h' hq => ?_)
            obtain ⟨o1, rfl, lp1, he⟩ := hq
            rw [he]
            clear he
            obtain ⟨S1, rfl⟩ : ∃ S1, S = S1 + 1 := ⟨S - 1, by rcases Nat.eq_zero_or_pos S with e | e; subst e; exact absurd (by decide) c13; omega⟩
            have hon1 : oI o1 = -1 ↔ o1 = none := oI_n (fun j e => by have := (lp1.2 j e).1.1; omega)
            refine kx_istore_e (pc := 48) (lv' := [_, _, _, _, _, _, _, _, _]) (kx_dd d_Ru_leastBesides 28 rfl) (Nat.le_of_ble_eq_true rfl) rfl ?_
            refine kx_iconst (pc := 50) (v := 1) (kx_dd d_Ru_leastBesides 29 rfl) rfl ?_
            refine kx_iload (pc := 51) (kx_dd d_Ru_leastBesides 30 rfl) rfl ?_
            refine kx_iconst (pc := 53) (v := 1) (kx_dd d_Ru_leastBesides 31 rfl) rfl ?_
            refine kx_isub (pc := 54) (kx_dd d_Ru_leastBesides 32 rfl) ?_
            rw [nI_pred]
            refine kx_ishl (pc := 55) (kx_dd d_Ru_leastBesides 33 rfl) ?_
            rw [nI_pow (by omega)]
            refine kx_istore_e (pc := 56) (lv' := [_, _, _, _, _, _, _, _, _]) (kx_dd d_Ru_leastBesides 34 rfl) (Nat.le_of_ble_eq_true rfl) rfl ?_
            refine kx_iload (pc := 58) (kx_dd d_Ru_leastBesides 35 rfl) rfl ?_
            refine kx_iconst (pc := 60) (v := -1) (kx_dd d_Ru_leastBesides 36 rfl) rfl ?_
            refine kx_icmp_ne (pc := 61) (tgt := 71) (kx_dd d_Ru_leastBesides 37 rfl) rfl (fun c61 => ?_) (fun c61 => ?_)
            · refine kx_iload (pc := 71) (kx_dd d_Ru_leastBesides 42 rfl) rfl ?_
              refine kx_iret (pc := 73) rfl (kx_dd d_Ru_leastBesides 43 rfl) (Nat.le_refl _) (Nat.le_refl _) ?_
              obtain ⟨m1, e1⟩ : ∃ m1, o1 = some m1 := by
                cases o1 with
                | none => exact absurd rfl c61
                | some m1 => exact ⟨m1, rfl⟩
              subst e1
              exact ⟨some m1, rfl, (lea_step (o2 := none) hB1 lp1 (fun _ e => by simp at e)).1 m1 rfl, rfl⟩
            · refine kx_iload_n (pc := 64) (kx_dd d_Ru_leastBesides 38 rfl) rfl rfl ?_
              refine kx_iload (pc := 65) (kx_dd d_Ru_leastBesides 39 rfl) rfl ?_
              refine kx_iand (pc := 67) (kx_dd d_Ru_leastBesides 40 rfl) ?_
              refine kx_if_eq (pc := 68) (tgt := 74) (kx_dd d_Ru_leastBesides 41 rfl) rfl (fun c68 => ?_) (fun c68 => ?_)
              · rw [nI_and, nI_z (Nat.lt_of_le_of_lt Nat.and_le_left (by omega))] at c68
                refine kx_aload_n (pc := 74) (kx_dd d_Ru_leastBesides 44 rfl) rfl rfl ?_
                refine kx_lload_n (pc := 75) (kx_dd d_Ru_leastBesides 45 rfl) rfl rfl ?_
                refine kx_iload_n (pc := 76) (kx_dd d_Ru_leastBesides 46 rfl) rfl rfl ?_
                refine kx_iload (pc := 77) (kx_dd d_Ru_leastBesides 47 rfl) rfl ?_
                refine kx_ior (pc := 79) (kx_dd d_Ru_leastBesides 48 rfl) ?_
                refine kx_iload (pc := 80) (kx_dd d_Ru_leastBesides 49 rfl) rfl ?_
                refine kx_iconst (pc := 82) (v := 1) (kx_dd d_Ru_leastBesides 50 rfl) rfl ?_
                refine kx_isub (pc := 83) (kx_dd d_Ru_leastBesides 51 rfl) ?_
                rw [nI_pred, nI_or]
                refine kx_iload (pc := 84) (kx_dd d_Ru_leastBesides 52 rfl) rfl ?_
                refine kx_iconst (pc := 86) (v := 1) (kx_dd d_Ru_leastBesides 53 rfl) rfl ?_
                refine kx_isub (pc := 87) (kx_dd d_Ru_leastBesides 54 rfl) ?_
                rw [nI_pred]
                refine kx_invS (pc := 88) (as := [_, _, _, _, _]) (kx_dd d_Ru_leastBesides 55 rfl) ⟨lk_Ru_75, wt_Ru_leastBesides⟩ w_Ru_leastBesides rfl rfl (Nat.le_of_ble_eq_true rfl) (ih (by omega) (m ||| 2 ^ B) S1 (Nat.or_lt_two_pow hm (by omega)) (by omega)) (Nat.le_refl _) ⟨Nat.le_refl _, Nat.le_refl _⟩ (fun v h' hq => ?_)
                obtain ⟨o2, rfl, lp2, he⟩ := hq
                rw [he]
                clear he
                refine kx_istore_e (pc := 91) (lv' := [_, _, _, _, _, _, _, _, _]) (kx_dd d_Ru_leastBesides 56 rfl) (Nat.le_of_ble_eq_true rfl) rfl ?_
                refine kx_iload (pc := 93) (kx_dd d_Ru_leastBesides 57 rfl) rfl ?_
                refine kx_iconst (pc := 95) (v := -1) (kx_dd d_Ru_leastBesides 58 rfl) rfl ?_
                refine kx_icmp_ne (pc := 96) (tgt := 103) (kx_dd d_Ru_leastBesides 59 rfl) rfl (fun c96 => ?_) (fun c96 => ?_)
                · refine kx_iload (pc := 103) (kx_dd d_Ru_leastBesides 62 rfl) rfl ?_
                  refine kx_iload (pc := 105) (kx_dd d_Ru_leastBesides 63 rfl) rfl ?_
                  refine kx_ior (pc := 107) (kx_dd d_Ru_leastBesides 64 rfl) ?_
                  refine kx_iret (pc := 108) rfl (kx_dd d_Ru_leastBesides 65 rfl) (Nat.le_refl _) (Nat.le_refl _) ?_
                  rw [hon1] at c61
                  subst c61
                  have st3 := (lea_step (o2 := o2) hB1 lp1 (fun _ _ => lp2)).2.2 rfl c68
                  cases o2 with
                  | none => exact absurd rfl c96
                  | some t =>
                    refine ⟨_, ?_, st3.1, rfl⟩
                    rw [show oI (some t) = nI t from rfl, nI_or]
                    rfl
                · refine kx_iconst (pc := 99) (v := -1) (kx_dd d_Ru_leastBesides 60 rfl) rfl ?_
                  refine kx_goto (pc := 100) (tgt := 108) (kx_dd d_Ru_leastBesides 61 rfl) rfl ?_
                  refine kx_iret (pc := 108) rfl (kx_dd d_Ru_leastBesides 65 rfl) (Nat.le_refl _) (Nat.le_refl _) ?_
                  rw [hon1] at c61
                  subst c61
                  have st3 := (lea_step (o2 := o2) hB1 lp1 (fun _ _ => lp2)).2.2 rfl c68
                  cases o2 with
                  | none => exact ⟨none, rfl, st3.1, rfl⟩
                  | some t => exact absurd ((oI_n (o := some t) (fun j e => by cases e; have := st3.2 t rfl; omega)).mp c96) (by simp)
              · refine kx_iload (pc := 71) (kx_dd d_Ru_leastBesides 42 rfl) rfl ?_
                refine kx_iret (pc := 73) rfl (kx_dd d_Ru_leastBesides 43 rfl) (Nat.le_refl _) (Nat.le_refl _) ?_
                rw [hon1] at c61
                rw [nI_and, nI_z (Nat.lt_of_le_of_lt Nat.and_le_left (by omega))] at c68
                subst c61
                exact ⟨none, rfl, (lea_step (o2 := none) hB1 lp1 (fun e => absurd e c68)).2.1 rfl c68, rfl⟩
          · refine kx_iconst (pc := 34) (v := -1) (kx_dd d_Ru_leastBesides 18 rfl) rfl ?_
            refine kx_iret (pc := 35) rfl (kx_dd d_Ru_leastBesides 19 rfl) (Nat.le_refl _) (Nat.le_refl _) ?_
            rw [bP_0, Classical.not_not] at c31
            exact ⟨none, rfl, ⟨fun _ => hop_ok (by omega) c31, fun m q => by simp at q⟩, rfl⟩
    · refine kx_iconst (pc := 9) (v := 0) (kx_dd d_Ru_leastBesides 5 rfl) rfl ?_
      refine kx_iret (pc := 10) rfl (kx_dd d_Ru_leastBesides 6 rfl) (Nat.le_refl _) (Nat.le_refl _) ?_
      rw [bP_0, Classical.not_not] at c6
      exact ⟨some 0, by rw [show oI (some 0) = nI 0 from rfl, nI_0], lea_0 c6, rfl⟩
def lackP (r : RU) (w had : Nat) (o : Option Nat) : Prop := (o = none → ∀ s, s < 2 ^ ruK r → s &&& had = 0 → ¬ shoP r w (had ||| s)) ∧ ∀ m, o = some m → m < 2 ^ ruK r ∧ m &&& had = 0 ∧ shoP r w (had ||| m) ∧ ∀ s, s < 2 ^ ruK r → s &&& had = 0 → shoP r w (had ||| s) → bc m < bc s ∨ (bc m = bc s ∧ m ≤ s)
theorem lackP_u {r : RU} {w had : Nat} {o o' : Option Nat} (h : lackP r w had o) (h' : lackP r w had o') : o = o' := by
  cases o with
  | none =>
    cases o' with
    | none => rfl
    | some m => have := h'.2 m rfl; exact absurd this.2.2.1 (h.1 rfl m this.1 this.2.1)
  | some m =>
    have a := h.2 m rfl
    cases o' with
    | none => exact absurd a.2.2.1 (h'.1 rfl m a.1 a.2.1)
    | some m' =>
      have b := h'.2 m' rfl
      have c1 := a.2.2.2 m' b.1 b.2.1 b.2.2.1
      have c2 := b.2.2.2 m a.1 a.2.1 a.2.2.1
      have : m = m' := by omega
      rw [this]
theorem sumB_le {s B : Nat} (h : s < 2 ^ B) : ∀ f, sumB s f ≤ B ∧ sumB s f ≤ f
  | 0 => ⟨Nat.zero_le _, Nat.le_refl _⟩
  | f + 1 => by
    have ih := sumB_le h f
    have hb := bitN_le s f
    unfold sumB
    rcases Nat.lt_or_ge f B with q | q
    · omega
    · have : bitN s f = 0 := by
        rw [bitN_t, Nat.testBit_lt_two_pow (Nat.lt_of_lt_of_le h (Nat.pow_le_pow_right (by decide) q))]
        rfl
      omega
theorem bc_lt {s B : Nat} (h : s < 2 ^ B) : bc s ≤ B := by
  unfold bc
  rw [bcF_sum]
  exact (sumB_le h 64).1
theorem x_Ru_lack_loop {l : Launch} {g : kx_G} {d : Nat} {h : kx_Mem} (a : Nat) (hr : IsRu h a) (r : RU) (ho : RUok r) (hp : RUc r a h) (w m : Nat) (hw : w < 2 ^ 60) (hm : m < 2 ^ 16) : ∀ n S w5, S + n = ruK r + 1 → (∀ s, s < 2 ^ ruK r → s &&& m = 0 → shoP r w (m ||| s) → S ≤ bc s) → kx_X (l, g, m_Ru_lackingKinds, d + ruK r + 5, 0, 0, (fun v h' => ∃ o, v = some (.int (oI o)) ∧ lackP r w m o ∧ h' = h)) 0 0 3 [some (.ref a), some (.long (lN w)), none, some (.int (nI m)), some (.int (nI S)), w5] [] h := by
  have o16 := ho.1
  have o10 := ho.2.2.1
  have oa := hr.2.2.2.2.2.2.2.2.2.2.2.2.2.2.2.2.2
  intro n
  induction n with
  | zero =>
    intro S w5 hS hno
    have e0 : S = ruK r + 1 := by omega
    subst e0
    refine kx_iload (pc := 3) (kx_dd d_Ru_lackingKinds 2 rfl) rfl ?_
    refine kx_aload_n (pc := 5) (kx_dd d_Ru_lackingKinds 3 rfl) rfl rfl ?_
    refine kx_getI (pc := 6) fl_Ru_40 (by rw [hr.1]) rfl (kx_dd d_Ru_lackingKinds 4 rfl) ?_
    refine kx_icmp_gt (pc := 9) (tgt := 41) (kx_dd d_Ru_lackingKinds 5 rfl) rfl (fun c9 => ?_) (fun c9 => ?_)
    · refine kx_iconst (pc := 41) (v := -1) (kx_dd d_Ru_lackingKinds 21 rfl) rfl ?_
      refine kx_iret (pc := 42) rfl (kx_dd d_Ru_lackingKinds 22 rfl) (Nat.le_refl _) (Nat.le_refl _) ?_
      refine ⟨none, rfl, ⟨fun _ s s1 s2 s3 => ?_, fun m q => by simp at q⟩, rfl⟩
      have := hno s s1 s2 s3
      have := bc_lt s1
      omega
    · exact absurd (by rw [hp.2.2.1]; exact nI_lt (by omega) (by omega)) c9
  | succ n ih =>
    intro S w5 hS hno
    refine kx_iload (pc := 3) (kx_dd d_Ru_lackingKinds 2 rfl) rfl ?_
    refine kx_aload_n (pc := 5) (kx_dd d_Ru_lackingKinds 3 rfl) rfl rfl ?_
    refine kx_getI (pc := 6) fl_Ru_40 (by rw [hr.1]) rfl (kx_dd d_Ru_lackingKinds 4 rfl) ?_
    refine kx_icmp_gt (pc := 9) (tgt := 41) (kx_dd d_Ru_lackingKinds 5 rfl) rfl (fun c9 => ?_) (fun c9 => ?_)
    · exact absurd c9 (by rw [hp.2.2.1]; exact nI_nlt (by omega) (by omega))
    · refine kx_aload_n (pc := 12) (kx_dd d_Ru_lackingKinds 6 rfl) rfl rfl ?_
      refine kx_lload_n (pc := 13) (kx_dd d_Ru_lackingKinds 7 rfl) rfl rfl ?_
      refine kx_iload_n (pc := 14) (kx_dd d_Ru_lackingKinds 8 rfl) rfl rfl ?_
      refine kx_aload_n (pc := 15) (kx_dd d_Ru_lackingKinds 9 rfl) rfl rfl ?_
      refine kx_getI (pc := 16) fl_Ru_40 (by rw [hr.1]) rfl (kx_dd d_Ru_lackingKinds 10 rfl) ?_
      refine kx_iload (pc := 19) (kx_dd d_Ru_lackingKinds 11 rfl) rfl ?_
      rw [hp.2.2.1]
      refine kx_invS (pc := 21) (as := [_, _, _, _, _]) (kx_dd d_Ru_lackingKinds 12 rfl) ⟨lk_Ru_75, wt_Ru_leastBesides⟩ w_Ru_leastBesides rfl rfl (Nat.le_of_ble_eq_true rfl) (x_Ru_least (d := d) a hr r ho hp w hw (ruK r) o16 m S hm (by omega)) (Nat.le_refl _) ⟨Nat.le_refl _, Nat.le_refl _⟩ (fun v h' hq => ?_)
      obtain ⟨o, rfl, lp, he⟩ := hq
      rw [he]
      clear he
      refine kx_istore_e (pc := 24) (lv' := [_, _, _, _, _, _]) (kx_dd d_Ru_lackingKinds 13 rfl) (Nat.le_of_ble_eq_true rfl) rfl ?_
      refine kx_iload (pc := 26) (kx_dd d_Ru_lackingKinds 14 rfl) rfl ?_
      refine kx_iconst (pc := 28) (v := -1) (kx_dd d_Ru_lackingKinds 15 rfl) rfl ?_
      refine kx_icmp_eq (pc := 29) (tgt := 35) (kx_dd d_Ru_lackingKinds 16 rfl) rfl (fun c29 => ?_) (fun c29 => ?_)
      · refine kx_iinc_e (pc := 35) (v := nI (S + 1)) (lv' := [_, _, _, _, _, _]) (kx_dd d_Ru_lackingKinds 19 rfl) rfl (Nat.le_of_ble_eq_true rfl) (nI_1 S) rfl ?_
        refine kx_goto (pc := 38) (tgt := 3) (kx_dd d_Ru_lackingKinds 20 rfl) rfl ?_
        have e1 : o = none := by
          cases o with
          | none => rfl
          | some j => exact absurd c29 (by have := (lp.2 j rfl).1.1; exact fun z => absurd ((oI_n (o := some j) (fun i e => by cases e; have : 2 ^ ruK r ≤ 2 ^ 16 := Nat.pow_le_pow_right (by decide) o16; omega)).mp z) (by simp))
        subst e1
        refine ih (S + 1) _ (by omega) (fun s s1 s2 s3 => ?_)
        have z := hno s s1 s2 s3
        have := lp.1 rfl s
        have : ¬ bc s ≤ S := fun e => this ⟨s1, s2, e, s3⟩
        omega
      · refine kx_iload (pc := 32) (kx_dd d_Ru_lackingKinds 17 rfl) rfl ?_
        refine kx_iret (pc := 34) rfl (kx_dd d_Ru_lackingKinds 18 rfl) (Nat.le_refl _) (Nat.le_refl _) ?_
        obtain ⟨m1, e1⟩ : ∃ m1, o = some m1 := by
          cases o with
          | none => exact absurd rfl c29
          | some m1 => exact ⟨m1, rfl⟩
        subst e1
        obtain ⟨⟨a1, a2, a3, a4⟩, a5⟩ := lp.2 m1 rfl
        refine ⟨some m1, rfl, ⟨fun q => by simp at q, fun m2 q => ?_⟩, rfl⟩
        cases q
        refine ⟨a1, a2, a4, fun s s1 s2 s3 => ?_⟩
        have z := hno s s1 s2 s3
        by_cases e : bc s ≤ S
        · right
          have := hno m1 a1 a2 a4
          exact ⟨by omega, a5 s ⟨s1, s2, e, s3⟩⟩
        · left; omega
theorem x_Ru_lackingKinds {l : Launch} {g : kx_G} {d : Nat} {h : kx_Mem} (a : Nat) (hr : IsRu h a) (r : RU) (ho : RUok r) (hp : RUc r a h) (w m : Nat) (hw : w < 2 ^ 60) (hm : m < 2 ^ 16) : kx_Sp l g m_Ru_lackingKinds [.ref a, .long (lN w), .int (nI m)] h (d + ruK r + 5) 0 0 (fun v h' => ∃ o, v = some (.int (oI o)) ∧ lackP r w m o ∧ h' = h) := by
  refine kx_enter_e (lv := [_, _, _, _, _, _]) (by decide +kernel) (Nat.le_of_ble_eq_true rfl) rfl ?_
  refine kx_iconst (pc := 0) (v := 0) (kx_dd d_Ru_lackingKinds 0 rfl) rfl ?_
  refine kx_istore_e (pc := 1) (lv' := [_, _, _, _, _, _]) (kx_dd d_Ru_lackingKinds 1 rfl) (Nat.le_of_ble_eq_true rfl) rfl ?_
  exact x_Ru_lack_loop a hr r ho hp w m hw hm (ruK r + 1) 0 _ (by omega) (fun s _ _ _ => Nat.zero_le _)
def clrB (m k : Nat) : Nat := m &&& (2 ^ k ^^^ 4294967295)
theorem nI_clr {m k : Nat} (hk : k < 31) : nI m &&& ((1 : Int32) <<< (nI k &&& 31) ^^^ -1) = nI (clrB m k) := by
  rw [nI_pow hk, show (-1 : Int32) = nI 4294967295 by decide, nI_xor, nI_and]
  rfl
theorem clr_0 {m k : Nat} (hm : m < 2 ^ 32) (hb : bitN m k = 0) : clrB m k = m := by
  apply Nat.eq_of_testBit_eq
  intro i
  unfold clrB
  rw [show (4294967295 : Nat) = 2 ^ 32 - 1 from rfl, Nat.testBit_and, Nat.testBit_xor, Nat.testBit_two_pow, Nat.testBit_two_pow_sub_one]
  cases h : m.testBit i with
  | false => rfl
  | true =>
    have h1 := tb_lt hm h
    have h2 : ¬ k = i := by
      intro e
      subst e
      rw [bitN_t, h] at hb
      cases hb
    simp [h1, h2]
theorem clr_le {m k : Nat} : clrB m k ≤ m := Nat.and_le_left
noncomputable def wkF (r : RU) (w m : Nat) : Option Nat := fnd (fun k => @decide (¬ shoP r w (clrB m k)) (Classical.propDecidable _)) (ruK r)
theorem x_Ru_weak_loop {l : Launch} {g : kx_G} {d : Nat} {h : kx_Mem} (a : Nat) (hr : IsRu h a) (r : RU) (ho : RUok r) (hp : RUc r a h) (w m : Nat) (hw : w < 2 ^ 60) (hm : m < 2 ^ 16) : ∀ n k, k + n = (ruK r) → (∀ j, j < k → ¬ @decide (¬ shoP r w (clrB m j)) (Classical.propDecidable _) = true) → kx_X (l, g, m_Ru_weakestKind, d + 3, 0, 0, (fun v h' => v = some (.int (oI (wkF r w m))) ∧ h' = h)) 0 0 3 [some (.ref a), some (.long (lN w)), none, some (.int (nI m)), some (.int (nI k))] [] (h) := by
  intro n
  induction n with
  | zero =>
    intro k hk hno
    have hk0 : k = (ruK r) := by omega
    subst hk0
    have o16 := ho.1
    have o10 := ho.2.2.1
    have oa := hr.2.2.2.2.2.2.2.2.2.2.2.2.2.2.2.2.2
    refine kx_iload (pc := 3) (kx_dd d_Ru_weakestKind 2 rfl) rfl ?_
    refine kx_aload_n (pc := 5) (kx_dd d_Ru_weakestKind 3 rfl) rfl rfl ?_
    refine kx_getI (pc := 6) fl_Ru_40 (by rw [hr.1]) rfl (kx_dd d_Ru_weakestKind 4 rfl) ?_
    refine kx_icmp_ge (pc := 9) (tgt := 37) (kx_dd d_Ru_weakestKind 5 rfl) rfl (fun c9 => ?_) (fun c9 => ?_)
    · refine kx_iconst (pc := 37) (v := -1) (kx_dd d_Ru_weakestKind 21 rfl) rfl ?_
      refine kx_iret (pc := 38) rfl (kx_dd d_Ru_weakestKind 22 rfl) (Nat.le_refl _) (Nat.le_refl _) ?_
      exact ⟨by unfold wkF; rw [fnd_none hno]; rfl, rfl⟩
    · exact absurd (by rw [hp.2.2.1]; exact Int32.le_refl _) c9
  | succ n ih =>
    intro k hk hno
    have o16 := ho.1
    have o10 := ho.2.2.1
    have oa := hr.2.2.2.2.2.2.2.2.2.2.2.2.2.2.2.2.2
    refine kx_iload (pc := 3) (kx_dd d_Ru_weakestKind 2 rfl) rfl ?_
    refine kx_aload_n (pc := 5) (kx_dd d_Ru_weakestKind 3 rfl) rfl rfl ?_
    refine kx_getI (pc := 6) fl_Ru_40 (by rw [hr.1]) rfl (kx_dd d_Ru_weakestKind 4 rfl) ?_
    refine kx_icmp_ge (pc := 9) (tgt := 37) (kx_dd d_Ru_weakestKind 5 rfl) rfl (fun c9 => ?_) (fun c9 => ?_)
    · exact absurd c9 (by rw [hp.2.2.1]; exact nI_ge (by omega) (by omega))
    · refine kx_aload_n (pc := 12) (kx_dd d_Ru_weakestKind 6 rfl) rfl rfl ?_
      refine kx_lload_n (pc := 13) (kx_dd d_Ru_weakestKind 7 rfl) rfl rfl ?_
      refine kx_iload_n (pc := 14) (kx_dd d_Ru_weakestKind 8 rfl) rfl rfl ?_
      refine kx_iconst (pc := 15) (v := 1) (kx_dd d_Ru_weakestKind 9 rfl) rfl ?_
      refine kx_iload (pc := 16) (kx_dd d_Ru_weakestKind 10 rfl) rfl ?_
      refine kx_ishl (pc := 18) (kx_dd d_Ru_weakestKind 11 rfl) ?_
      refine kx_iconst (pc := 19) (v := -1) (kx_dd d_Ru_weakestKind 12 rfl) rfl ?_
      refine kx_ixor (pc := 20) (kx_dd d_Ru_weakestKind 13 rfl) ?_
      refine kx_iand (pc := 21) (kx_dd d_Ru_weakestKind 14 rfl) ?_
      rw [nI_clr (by omega)]
      refine kx_invV (pc := 22) (a := a) (as := [_, _]) (kx_dd d_Ru_weakestKind 15 rfl) ⟨lk_Ru_79, wi_Ru_isShown, we_Ru_isShown⟩ w_Ru_isShown (by rw [hr.1]) rfl rfl rfl rfl (Nat.le_of_ble_eq_true rfl) (x_Ru_isShown (d := d) a hr r ho hp w (clrB m k) hw (by have := clr_le (m := m) (k := k); omega)) (Nat.le_refl _) ⟨Nat.le_refl _, Nat.le_refl _⟩ (fun v h' hq => ?_)
      obtain ⟨rfl, he⟩ := hq
      rw [he]
      clear he
      refine kx_if_ne (pc := 25) (tgt := 31) (kx_dd d_Ru_weakestKind 16 rfl) rfl (fun c25 => ?_) (fun c25 => ?_)
      · refine kx_iinc_e (pc := 31) (v := nI (k + 1)) (lv' := [_, _, _, _, _]) (kx_dd d_Ru_weakestKind 19 rfl) rfl (Nat.le_of_ble_eq_true rfl) (nI_1 k) rfl ?_
        refine kx_goto (pc := 34) (tgt := 3) (kx_dd d_Ru_weakestKind 20 rfl) rfl ?_
        rw [bP_0, Classical.not_not] at c25
        exact ih (k + 1) (by omega) (fun j hj => by
          rcases Nat.lt_succ_iff_lt_or_eq.mp hj with z | rfl
          · exact hno j z
          · simpa using c25)
      · refine kx_iload (pc := 28) (kx_dd d_Ru_weakestKind 17 rfl) rfl ?_
        refine kx_iret (pc := 30) rfl (kx_dd d_Ru_weakestKind 18 rfl) (Nat.le_refl _) (Nat.le_refl _) ?_
        rw [bP_0] at c25
        exact ⟨by unfold wkF; rw [fnd_some (show k < _ by omega) (by simpa using c25) hno]; rfl, rfl⟩
theorem x_Ru_weakestKind {l : Launch} {g : kx_G} {d : Nat} {h : kx_Mem} (a : Nat) (hr : IsRu h a) (r : RU) (ho : RUok r) (hp : RUc r a h) (w m : Nat) (hw : w < 2 ^ 60) (hm : m < 2 ^ 16) : kx_Sp l g m_Ru_weakestKind [.ref a, .long (lN w), .int (nI m)] h (d + 3) 0 0 (fun v h' => v = some (.int (oI (wkF r w m))) ∧ h' = h) := by
  refine kx_enter_e (lv := [_, _, _, _, _]) (by decide +kernel) (Nat.le_of_ble_eq_true rfl) rfl ?_
  refine kx_iconst (pc := 0) (v := 0) (kx_dd d_Ru_weakestKind 0 rfl) rfl ?_
  refine kx_istore_e (pc := 1) (lv' := [_, _, _, _, _]) (kx_dd d_Ru_weakestKind 1 rfl) (Nat.le_of_ble_eq_true rfl) rfl ?_
  exact x_Ru_weak_loop a hr r ho hp w m hw hm (ruK r) 0 (by omega) (fun j hj => absurd hj (Nat.not_lt_zero j))
def detR (r : RU) (w : Int32) : Int32 :=
  if 0 ≤ w ∧ w < 11 then ruS r w.toNatClampNeg else if 20 ≤ w ∧ w < 24 then nI (ruO r (w.toNatClampNeg - 20)) else if 30 ≤ w ∧ w < nI (30 + ruK r) then nI (ruWT r (w.toNatClampNeg - 30)) else if w = 11 then nI (ruK r) else if w = 12 then nI (ruM r).length else if w = 13 then nI (ruE r).length else -9
theorem i_ge {w : Int32} {n : Nat} (hn : n < 2 ^ 31) (h : nI n ≤ w) : ∃ q : Nat, q < 2 ^ 31 ∧ w = nI q ∧ n ≤ q := by
  have h0 : ¬ w < 0 := by
    have := nI_pos' hn
    rw [Int32.not_lt]
    exact Int32.le_trans this h
  obtain ⟨q, hq, rfl⟩ := nI_of h0
  exact ⟨q, hq, rfl, (nI_leI hn hq).mp h⟩
theorem x_Ru_detail {l : Launch} {g : kx_G} {d : Nat} {h : kx_Mem} (a : Nat) (hr : IsRu h a) (r : RU) (ho : RUok r) (hp : RUc r a h) (w : Int32) : kx_Sp l g m_Ru_detail [.ref a, .int w] h (d) 0 0 (fun v h' => v = some (.int (detR r w)) ∧ h' = h) := by
  have o16 := ho.1
  have o10 := ho.2.2.1
  have oa := hr.2.2.2.2.2.2.2.2.2.2.2.2.2.2.2.2.2
  refine kx_enter_e (lv := [_, _]) (by decide +kernel) (Nat.le_of_ble_eq_true rfl) rfl ?_
  refine kx_iload_n (pc := 0) (kx_dd d_Ru_detail 0 rfl) rfl rfl ?_
  refine kx_if_lt (pc := 1) (tgt := 17) (kx_dd d_Ru_detail 1 rfl) rfl (fun c1 => ?_) (fun c1 => ?_)
  · refine kx_iload_n (pc := 17) (kx_dd d_Ru_detail 10 rfl) rfl rfl ?_
    refine kx_bipush (pc := 18) (v := 20) (kx_dd d_Ru_detail 11 rfl) rfl ?_
    refine kx_icmp_lt (pc := 20) (tgt := 39) (kx_dd d_Ru_detail 12 rfl) rfl (fun c20 => ?_) (fun c20 => ?_)
    · refine kx_iload_n (pc := 39) (kx_dd d_Ru_detail 23 rfl) rfl rfl ?_
      refine kx_bipush (pc := 40) (v := 30) (kx_dd d_Ru_detail 24 rfl) rfl ?_
      refine kx_icmp_lt (pc := 42) (tgt := 66) (kx_dd d_Ru_detail 25 rfl) rfl (fun c42 => ?_) (fun c42 => ?_)
      · refine kx_iload_n (pc := 66) (kx_dd d_Ru_detail 39 rfl) rfl rfl ?_
        by_cases e67_11 : w = 11
        · refine kx_tableIn (pc := 67) (tgt := 92) (kx_dd d_Ru_detail 40 rfl) (by rw [e67_11] <;> decide) (by rw [e67_11] <;> decide) (by rw [e67_11] <;> rfl) rfl ?_
          refine kx_aload_n (pc := 92) (kx_dd d_Ru_detail 41 rfl) rfl rfl ?_
          refine kx_getI (pc := 93) fl_Ru_40 (by rw [hr.1]) rfl (kx_dd d_Ru_detail 42 rfl) ?_
          refine kx_iret (pc := 96) rfl (kx_dd d_Ru_detail 43 rfl) (Nat.le_refl _) (Nat.le_refl _) ?_
          refine ⟨?_, rfl⟩
          unfold detR
          rw [if_neg (fun z => absurd z.1 (Int32.not_le.mpr c1)), if_neg (fun z => absurd z.1 (Int32.not_le.mpr c20)), if_neg (fun z => absurd z.1 (Int32.not_le.mpr c42))]
          rw [if_pos e67_11, hp.2.2.1]
        · skip
          by_cases e67_12 : w = 12
          · refine kx_tableIn (pc := 67) (tgt := 97) (kx_dd d_Ru_detail 40 rfl) (by rw [e67_12] <;> decide) (by rw [e67_12] <;> decide) (by rw [e67_12] <;> rfl) rfl ?_
            refine kx_aload_n (pc := 97) (kx_dd d_Ru_detail 44 rfl) rfl rfl ?_
            refine kx_getI (pc := 98) fl_Ru_47 (by rw [hr.1]) rfl (kx_dd d_Ru_detail 45 rfl) ?_
            refine kx_iret (pc := 101) rfl (kx_dd d_Ru_detail 46 rfl) (Nat.le_refl _) (Nat.le_refl _) ?_
            refine ⟨?_, rfl⟩
            unfold detR
            rw [if_neg (fun z => absurd z.1 (Int32.not_le.mpr c1)), if_neg (fun z => absurd z.1 (Int32.not_le.mpr c20)), if_neg (fun z => absurd z.1 (Int32.not_le.mpr c42))]
            rw [if_neg e67_11, if_pos e67_12, hp.2.2.2.2.2.2.1]
          · skip
            by_cases e67_13 : w = 13
            · refine kx_tableIn (pc := 67) (tgt := 102) (kx_dd d_Ru_detail 40 rfl) (by rw [e67_13] <;> decide) (by rw [e67_13] <;> decide) (by rw [e67_13] <;> rfl) rfl ?_
              refine kx_aload_n (pc := 102) (kx_dd d_Ru_detail 47 rfl) rfl rfl ?_
              refine kx_getI (pc := 103) fl_Ru_50 (by rw [hr.1]) rfl (kx_dd d_Ru_detail 48 rfl) ?_
              refine kx_iret (pc := 106) rfl (kx_dd d_Ru_detail 49 rfl) (Nat.le_refl _) (Nat.le_refl _) ?_
              refine ⟨?_, rfl⟩
              unfold detR
              rw [if_neg (fun z => absurd z.1 (Int32.not_le.mpr c1)), if_neg (fun z => absurd z.1 (Int32.not_le.mpr c20)), if_neg (fun z => absurd z.1 (Int32.not_le.mpr c42))]
              rw [if_neg e67_11, if_neg e67_12, if_pos e67_13, hp.2.2.2.2.2.2.2.1]
            · skip
              refine kx_tableOut (pc := 67) (tgt := 107) (kx_dd d_Ru_detail 40 rfl) (by have y0 := lv_neT (a := 11) e67_11 (by decide); have y1 := lv_neT (a := 12) e67_12 (by decide); have y2 := lv_neT (a := 13) e67_13 (by decide); omega) rfl ?_
              refine kx_bipush (pc := 107) (v := -9) (kx_dd d_Ru_detail 50 rfl) rfl ?_
              refine kx_iret (pc := 109) rfl (kx_dd d_Ru_detail 51 rfl) (Nat.le_refl _) (Nat.le_refl _) ?_
              refine ⟨?_, rfl⟩
              unfold detR
              rw [if_neg (fun z => absurd z.1 (Int32.not_le.mpr c1)), if_neg (fun z => absurd z.1 (Int32.not_le.mpr c20)), if_neg (fun z => absurd z.1 (Int32.not_le.mpr c42))]
              rw [if_neg e67_11, if_neg e67_12, if_neg e67_13]
      · refine kx_iload_n (pc := 45) (kx_dd d_Ru_detail 26 rfl) rfl rfl ?_
        refine kx_bipush (pc := 46) (v := 30) (kx_dd d_Ru_detail 27 rfl) rfl ?_
        refine kx_aload_n (pc := 48) (kx_dd d_Ru_detail 28 rfl) rfl rfl ?_
        refine kx_getI (pc := 49) fl_Ru_40 (by rw [hr.1]) rfl (kx_dd d_Ru_detail 29 rfl) ?_
        refine kx_iadd (pc := 52) (kx_dd d_Ru_detail 30 rfl) ?_
        rw [hp.2.2.1, show (30 : Int32) = nI 30 from rfl, nI_add]
        refine kx_icmp_ge (pc := 53) (tgt := 66) (kx_dd d_Ru_detail 31 rfl) rfl (fun c53 => ?_) (fun c53 => ?_)
        · refine kx_iload_n (pc := 66) (kx_dd d_Ru_detail 39 rfl) rfl rfl ?_
          by_cases e67_11 : w = 11
          · refine kx_tableIn (pc := 67) (tgt := 92) (kx_dd d_Ru_detail 40 rfl) (by rw [e67_11] <;> decide) (by rw [e67_11] <;> decide) (by rw [e67_11] <;> rfl) rfl ?_
            refine kx_aload_n (pc := 92) (kx_dd d_Ru_detail 41 rfl) rfl rfl ?_
            refine kx_getI (pc := 93) fl_Ru_40 (by rw [hr.1]) rfl (kx_dd d_Ru_detail 42 rfl) ?_
            refine kx_iret (pc := 96) rfl (kx_dd d_Ru_detail 43 rfl) (Nat.le_refl _) (Nat.le_refl _) ?_
            refine ⟨?_, rfl⟩
            unfold detR
            rw [if_neg (fun z => absurd z.1 (Int32.not_le.mpr c1)), if_neg (fun z => absurd z.1 (Int32.not_le.mpr c20)), if_neg (fun z => absurd z.2 (Int32.not_lt.mpr c53))]
            rw [if_pos e67_11, hp.2.2.1]
          · skip
            by_cases e67_12 : w = 12
            · refine kx_tableIn (pc := 67) (tgt := 97) (kx_dd d_Ru_detail 40 rfl) (by rw [e67_12] <;> decide) (by rw [e67_12] <;> decide) (by rw [e67_12] <;> rfl) rfl ?_
              refine kx_aload_n (pc := 97) (kx_dd d_Ru_detail 44 rfl) rfl rfl ?_
              refine kx_getI (pc := 98) fl_Ru_47 (by rw [hr.1]) rfl (kx_dd d_Ru_detail 45 rfl) ?_
              refine kx_iret (pc := 101) rfl (kx_dd d_Ru_detail 46 rfl) (Nat.le_refl _) (Nat.le_refl _) ?_
              refine ⟨?_, rfl⟩
              unfold detR
              rw [if_neg (fun z => absurd z.1 (Int32.not_le.mpr c1)), if_neg (fun z => absurd z.1 (Int32.not_le.mpr c20)), if_neg (fun z => absurd z.2 (Int32.not_lt.mpr c53))]
              rw [if_neg e67_11, if_pos e67_12, hp.2.2.2.2.2.2.1]
            · skip
              by_cases e67_13 : w = 13
              · refine kx_tableIn (pc := 67) (tgt := 102) (kx_dd d_Ru_detail 40 rfl) (by rw [e67_13] <;> decide) (by rw [e67_13] <;> decide) (by rw [e67_13] <;> rfl) rfl ?_
                refine kx_aload_n (pc := 102) (kx_dd d_Ru_detail 47 rfl) rfl rfl ?_
                refine kx_getI (pc := 103) fl_Ru_50 (by rw [hr.1]) rfl (kx_dd d_Ru_detail 48 rfl) ?_
                refine kx_iret (pc := 106) rfl (kx_dd d_Ru_detail 49 rfl) (Nat.le_refl _) (Nat.le_refl _) ?_
                refine ⟨?_, rfl⟩
                unfold detR
                rw [if_neg (fun z => absurd z.1 (Int32.not_le.mpr c1)), if_neg (fun z => absurd z.1 (Int32.not_le.mpr c20)), if_neg (fun z => absurd z.2 (Int32.not_lt.mpr c53))]
                rw [if_neg e67_11, if_neg e67_12, if_pos e67_13, hp.2.2.2.2.2.2.2.1]
              · skip
                refine kx_tableOut (pc := 67) (tgt := 107) (kx_dd d_Ru_detail 40 rfl) (by have y0 := lv_neT (a := 11) e67_11 (by decide); have y1 := lv_neT (a := 12) e67_12 (by decide); have y2 := lv_neT (a := 13) e67_13 (by decide); omega) rfl ?_
                refine kx_bipush (pc := 107) (v := -9) (kx_dd d_Ru_detail 50 rfl) rfl ?_
                refine kx_iret (pc := 109) rfl (kx_dd d_Ru_detail 51 rfl) (Nat.le_refl _) (Nat.le_refl _) ?_
                refine ⟨?_, rfl⟩
                unfold detR
                rw [if_neg (fun z => absurd z.1 (Int32.not_le.mpr c1)), if_neg (fun z => absurd z.1 (Int32.not_le.mpr c20)), if_neg (fun z => absurd z.2 (Int32.not_lt.mpr c53))]
                rw [if_neg e67_11, if_neg e67_12, if_neg e67_13]
        · obtain ⟨q, hq, rfl, hq1⟩ := i_ge (n := 30) (by decide) (Int32.not_lt.mp c42)
          have hq2 : q < 30 + ruK r := by rcases Nat.lt_or_ge q (30 + ruK r) with z | z; exact z; exact absurd (nI_le z hq) c53
          refine kx_aload_n (pc := 56) (kx_dd d_Ru_detail 32 rfl) rfl rfl ?_
          refine kx_getR (pc := 57) (b := (a + 4)) fl_Ru_22 (by rw [hr.1]) rfl (hr.2.2.2.2.2.2.2.2.2.2.2.2.1) (kx_dd d_Ru_detail 33 rfl) ?_
          refine kx_iload_n (pc := 60) (kx_dd d_Ru_detail 34 rfl) rfl rfl ?_
          refine kx_bipush (pc := 61) (v := 30) (kx_dd d_Ru_detail 35 rfl) rfl ?_
          refine kx_isub (pc := 63) (kx_dd d_Ru_detail 36 rfl) ?_
          refine kx_ialdn (pc := 64) (q - 30) (hr.2.2.2.2.1) (pk_sub (b := 30) hq1) (by omega) (by decide) (kx_dd d_Ru_detail 37 rfl) ?_
          refine kx_iret (pc := 65) rfl (kx_dd d_Ru_detail 38 rfl) (Nat.le_refl _) (Nat.le_refl _) ?_
          refine ⟨?_, rfl⟩
          unfold detR
          rw [if_neg (fun z => absurd z.1 (Int32.not_le.mpr c1)), if_neg (fun z => absurd z.1 (Int32.not_le.mpr c20)), if_pos ⟨Int32.not_lt.mp c42, Int32.not_le.mp c53⟩, nI_clamp hq, (hp.2.2.2.1 (q - 30) (by omega)).2]
    · refine kx_iload_n (pc := 23) (kx_dd d_Ru_detail 13 rfl) rfl rfl ?_
      refine kx_bipush (pc := 24) (v := 24) (kx_dd d_Ru_detail 14 rfl) rfl ?_
      refine kx_icmp_ge (pc := 26) (tgt := 39) (kx_dd d_Ru_detail 15 rfl) rfl (fun c26 => ?_) (fun c26 => ?_)
      · refine kx_iload_n (pc := 39) (kx_dd d_Ru_detail 23 rfl) rfl rfl ?_
        refine kx_bipush (pc := 40) (v := 30) (kx_dd d_Ru_detail 24 rfl) rfl ?_
        refine kx_icmp_lt (pc := 42) (tgt := 66) (kx_dd d_Ru_detail 25 rfl) rfl (fun c42 => ?_) (fun c42 => ?_)
        · refine kx_iload_n (pc := 66) (kx_dd d_Ru_detail 39 rfl) rfl rfl ?_
          by_cases e67_11 : w = 11
          · refine kx_tableIn (pc := 67) (tgt := 92) (kx_dd d_Ru_detail 40 rfl) (by rw [e67_11] <;> decide) (by rw [e67_11] <;> decide) (by rw [e67_11] <;> rfl) rfl ?_
            refine kx_aload_n (pc := 92) (kx_dd d_Ru_detail 41 rfl) rfl rfl ?_
            refine kx_getI (pc := 93) fl_Ru_40 (by rw [hr.1]) rfl (kx_dd d_Ru_detail 42 rfl) ?_
            refine kx_iret (pc := 96) rfl (kx_dd d_Ru_detail 43 rfl) (Nat.le_refl _) (Nat.le_refl _) ?_
            refine ⟨?_, rfl⟩
            unfold detR
            rw [if_neg (fun z => absurd z.1 (Int32.not_le.mpr c1)), if_neg (fun z => absurd z.2 (Int32.not_lt.mpr c26)), if_neg (fun z => absurd z.1 (Int32.not_le.mpr c42))]
            rw [if_pos e67_11, hp.2.2.1]
          · skip
            by_cases e67_12 : w = 12
            · refine kx_tableIn (pc := 67) (tgt := 97) (kx_dd d_Ru_detail 40 rfl) (by rw [e67_12] <;> decide) (by rw [e67_12] <;> decide) (by rw [e67_12] <;> rfl) rfl ?_
              refine kx_aload_n (pc := 97) (kx_dd d_Ru_detail 44 rfl) rfl rfl ?_
              refine kx_getI (pc := 98) fl_Ru_47 (by rw [hr.1]) rfl (kx_dd d_Ru_detail 45 rfl) ?_
              refine kx_iret (pc := 101) rfl (kx_dd d_Ru_detail 46 rfl) (Nat.le_refl _) (Nat.le_refl _) ?_
              refine ⟨?_, rfl⟩
              unfold detR
              rw [if_neg (fun z => absurd z.1 (Int32.not_le.mpr c1)), if_neg (fun z => absurd z.2 (Int32.not_lt.mpr c26)), if_neg (fun z => absurd z.1 (Int32.not_le.mpr c42))]
              rw [if_neg e67_11, if_pos e67_12, hp.2.2.2.2.2.2.1]
            · skip
              by_cases e67_13 : w = 13
              · refine kx_tableIn (pc := 67) (tgt := 102) (kx_dd d_Ru_detail 40 rfl) (by rw [e67_13] <;> decide) (by rw [e67_13] <;> decide) (by rw [e67_13] <;> rfl) rfl ?_
                refine kx_aload_n (pc := 102) (kx_dd d_Ru_detail 47 rfl) rfl rfl ?_
                refine kx_getI (pc := 103) fl_Ru_50 (by rw [hr.1]) rfl (kx_dd d_Ru_detail 48 rfl) ?_
                refine kx_iret (pc := 106) rfl (kx_dd d_Ru_detail 49 rfl) (Nat.le_refl _) (Nat.le_refl _) ?_
                refine ⟨?_, rfl⟩
                unfold detR
                rw [if_neg (fun z => absurd z.1 (Int32.not_le.mpr c1)), if_neg (fun z => absurd z.2 (Int32.not_lt.mpr c26)), if_neg (fun z => absurd z.1 (Int32.not_le.mpr c42))]
                rw [if_neg e67_11, if_neg e67_12, if_pos e67_13, hp.2.2.2.2.2.2.2.1]
              · skip
                refine kx_tableOut (pc := 67) (tgt := 107) (kx_dd d_Ru_detail 40 rfl) (by have y0 := lv_neT (a := 11) e67_11 (by decide); have y1 := lv_neT (a := 12) e67_12 (by decide); have y2 := lv_neT (a := 13) e67_13 (by decide); omega) rfl ?_
                refine kx_bipush (pc := 107) (v := -9) (kx_dd d_Ru_detail 50 rfl) rfl ?_
                refine kx_iret (pc := 109) rfl (kx_dd d_Ru_detail 51 rfl) (Nat.le_refl _) (Nat.le_refl _) ?_
                refine ⟨?_, rfl⟩
                unfold detR
                rw [if_neg (fun z => absurd z.1 (Int32.not_le.mpr c1)), if_neg (fun z => absurd z.2 (Int32.not_lt.mpr c26)), if_neg (fun z => absurd z.1 (Int32.not_le.mpr c42))]
                rw [if_neg e67_11, if_neg e67_12, if_neg e67_13]
        · refine kx_iload_n (pc := 45) (kx_dd d_Ru_detail 26 rfl) rfl rfl ?_
          refine kx_bipush (pc := 46) (v := 30) (kx_dd d_Ru_detail 27 rfl) rfl ?_
          refine kx_aload_n (pc := 48) (kx_dd d_Ru_detail 28 rfl) rfl rfl ?_
          refine kx_getI (pc := 49) fl_Ru_40 (by rw [hr.1]) rfl (kx_dd d_Ru_detail 29 rfl) ?_
          refine kx_iadd (pc := 52) (kx_dd d_Ru_detail 30 rfl) ?_
          rw [hp.2.2.1, show (30 : Int32) = nI 30 from rfl, nI_add]
          refine kx_icmp_ge (pc := 53) (tgt := 66) (kx_dd d_Ru_detail 31 rfl) rfl (fun c53 => ?_) (fun c53 => ?_)
          · refine kx_iload_n (pc := 66) (kx_dd d_Ru_detail 39 rfl) rfl rfl ?_
            by_cases e67_11 : w = 11
            · refine kx_tableIn (pc := 67) (tgt := 92) (kx_dd d_Ru_detail 40 rfl) (by rw [e67_11] <;> decide) (by rw [e67_11] <;> decide) (by rw [e67_11] <;> rfl) rfl ?_
              refine kx_aload_n (pc := 92) (kx_dd d_Ru_detail 41 rfl) rfl rfl ?_
              refine kx_getI (pc := 93) fl_Ru_40 (by rw [hr.1]) rfl (kx_dd d_Ru_detail 42 rfl) ?_
              refine kx_iret (pc := 96) rfl (kx_dd d_Ru_detail 43 rfl) (Nat.le_refl _) (Nat.le_refl _) ?_
              refine ⟨?_, rfl⟩
              unfold detR
              rw [if_neg (fun z => absurd z.1 (Int32.not_le.mpr c1)), if_neg (fun z => absurd z.2 (Int32.not_lt.mpr c26)), if_neg (fun z => absurd z.2 (Int32.not_lt.mpr c53))]
              rw [if_pos e67_11, hp.2.2.1]
            · skip
              by_cases e67_12 : w = 12
              · refine kx_tableIn (pc := 67) (tgt := 97) (kx_dd d_Ru_detail 40 rfl) (by rw [e67_12] <;> decide) (by rw [e67_12] <;> decide) (by rw [e67_12] <;> rfl) rfl ?_
                refine kx_aload_n (pc := 97) (kx_dd d_Ru_detail 44 rfl) rfl rfl ?_
                refine kx_getI (pc := 98) fl_Ru_47 (by rw [hr.1]) rfl (kx_dd d_Ru_detail 45 rfl) ?_
                refine kx_iret (pc := 101) rfl (kx_dd d_Ru_detail 46 rfl) (Nat.le_refl _) (Nat.le_refl _) ?_
                refine ⟨?_, rfl⟩
                unfold detR
                rw [if_neg (fun z => absurd z.1 (Int32.not_le.mpr c1)), if_neg (fun z => absurd z.2 (Int32.not_lt.mpr c26)), if_neg (fun z => absurd z.2 (Int32.not_lt.mpr c53))]
                rw [if_neg e67_11, if_pos e67_12, hp.2.2.2.2.2.2.1]
              · skip
                by_cases e67_13 : w = 13
                · refine kx_tableIn (pc := 67) (tgt := 102) (kx_dd d_Ru_detail 40 rfl) (by rw [e67_13] <;> decide) (by rw [e67_13] <;> decide) (by rw [e67_13] <;> rfl) rfl ?_
                  refine kx_aload_n (pc := 102) (kx_dd d_Ru_detail 47 rfl) rfl rfl ?_
                  refine kx_getI (pc := 103) fl_Ru_50 (by rw [hr.1]) rfl (kx_dd d_Ru_detail 48 rfl) ?_
                  refine kx_iret (pc := 106) rfl (kx_dd d_Ru_detail 49 rfl) (Nat.le_refl _) (Nat.le_refl _) ?_
                  refine ⟨?_, rfl⟩
                  unfold detR
                  rw [if_neg (fun z => absurd z.1 (Int32.not_le.mpr c1)), if_neg (fun z => absurd z.2 (Int32.not_lt.mpr c26)), if_neg (fun z => absurd z.2 (Int32.not_lt.mpr c53))]
                  rw [if_neg e67_11, if_neg e67_12, if_pos e67_13, hp.2.2.2.2.2.2.2.1]
                · skip
                  refine kx_tableOut (pc := 67) (tgt := 107) (kx_dd d_Ru_detail 40 rfl) (by have y0 := lv_neT (a := 11) e67_11 (by decide); have y1 := lv_neT (a := 12) e67_12 (by decide); have y2 := lv_neT (a := 13) e67_13 (by decide); omega) rfl ?_
                  refine kx_bipush (pc := 107) (v := -9) (kx_dd d_Ru_detail 50 rfl) rfl ?_
                  refine kx_iret (pc := 109) rfl (kx_dd d_Ru_detail 51 rfl) (Nat.le_refl _) (Nat.le_refl _) ?_
                  refine ⟨?_, rfl⟩
                  unfold detR
                  rw [if_neg (fun z => absurd z.1 (Int32.not_le.mpr c1)), if_neg (fun z => absurd z.2 (Int32.not_lt.mpr c26)), if_neg (fun z => absurd z.2 (Int32.not_lt.mpr c53))]
                  rw [if_neg e67_11, if_neg e67_12, if_neg e67_13]
          · obtain ⟨q, hq, rfl, hq1⟩ := i_ge (n := 30) (by decide) (Int32.not_lt.mp c42)
            have hq2 : q < 30 + ruK r := by rcases Nat.lt_or_ge q (30 + ruK r) with z | z; exact z; exact absurd (nI_le z hq) c53
            refine kx_aload_n (pc := 56) (kx_dd d_Ru_detail 32 rfl) rfl rfl ?_
            refine kx_getR (pc := 57) (b := (a + 4)) fl_Ru_22 (by rw [hr.1]) rfl (hr.2.2.2.2.2.2.2.2.2.2.2.2.1) (kx_dd d_Ru_detail 33 rfl) ?_
            refine kx_iload_n (pc := 60) (kx_dd d_Ru_detail 34 rfl) rfl rfl ?_
            refine kx_bipush (pc := 61) (v := 30) (kx_dd d_Ru_detail 35 rfl) rfl ?_
            refine kx_isub (pc := 63) (kx_dd d_Ru_detail 36 rfl) ?_
            refine kx_ialdn (pc := 64) (q - 30) (hr.2.2.2.2.1) (pk_sub (b := 30) hq1) (by omega) (by decide) (kx_dd d_Ru_detail 37 rfl) ?_
            refine kx_iret (pc := 65) rfl (kx_dd d_Ru_detail 38 rfl) (Nat.le_refl _) (Nat.le_refl _) ?_
            refine ⟨?_, rfl⟩
            unfold detR
            rw [if_neg (fun z => absurd z.1 (Int32.not_le.mpr c1)), if_neg (fun z => absurd z.2 (Int32.not_lt.mpr c26)), if_pos ⟨Int32.not_lt.mp c42, Int32.not_le.mp c53⟩, nI_clamp hq, (hp.2.2.2.1 (q - 30) (by omega)).2]
      · obtain ⟨q, hq, rfl, hq1⟩ := i_ge (n := 20) (by decide) (Int32.not_lt.mp c20)
        have hq2 : q < 24 := by rcases Nat.lt_or_ge q 24 with z | z; exact z; exact absurd (nI_le (a := 24) z hq) c26
        refine kx_aload_n (pc := 29) (kx_dd d_Ru_detail 16 rfl) rfl rfl ?_
        refine kx_getR (pc := 30) (b := (a + 2)) fl_Ru_15 (by rw [hr.1]) rfl (hr.2.2.2.2.2.2.2.2.2.2.1) (kx_dd d_Ru_detail 17 rfl) ?_
        refine kx_iload_n (pc := 33) (kx_dd d_Ru_detail 18 rfl) rfl rfl ?_
        refine kx_bipush (pc := 34) (v := 20) (kx_dd d_Ru_detail 19 rfl) rfl ?_
        refine kx_isub (pc := 36) (kx_dd d_Ru_detail 20 rfl) ?_
        refine kx_ialdn (pc := 37) (q - 20) (hr.2.2.1) (pk_sub (b := 20) hq1) (by omega) (by decide) (kx_dd d_Ru_detail 21 rfl) ?_
        refine kx_iret (pc := 38) rfl (kx_dd d_Ru_detail 22 rfl) (Nat.le_refl _) (Nat.le_refl _) ?_
        refine ⟨?_, rfl⟩
        unfold detR
        rw [if_neg (fun z => absurd z.1 (Int32.not_le.mpr c1)), if_pos ⟨Int32.not_lt.mp c20, Int32.not_le.mp c26⟩, nI_clamp hq, hp.2.1 (q - 20) (by omega)]
  · refine kx_iload_n (pc := 4) (kx_dd d_Ru_detail 2 rfl) rfl rfl ?_
    refine kx_bipush (pc := 5) (v := 11) (kx_dd d_Ru_detail 3 rfl) rfl ?_
    refine kx_icmp_ge (pc := 7) (tgt := 17) (kx_dd d_Ru_detail 4 rfl) rfl (fun c7 => ?_) (fun c7 => ?_)
    · refine kx_iload_n (pc := 17) (kx_dd d_Ru_detail 10 rfl) rfl rfl ?_
      refine kx_bipush (pc := 18) (v := 20) (kx_dd d_Ru_detail 11 rfl) rfl ?_
      refine kx_icmp_lt (pc := 20) (tgt := 39) (kx_dd d_Ru_detail 12 rfl) rfl (fun c20 => ?_) (fun c20 => ?_)
      · refine kx_iload_n (pc := 39) (kx_dd d_Ru_detail 23 rfl) rfl rfl ?_
        refine kx_bipush (pc := 40) (v := 30) (kx_dd d_Ru_detail 24 rfl) rfl ?_
        refine kx_icmp_lt (pc := 42) (tgt := 66) (kx_dd d_Ru_detail 25 rfl) rfl (fun c42 => ?_) (fun c42 => ?_)
        · refine kx_iload_n (pc := 66) (kx_dd d_Ru_detail 39 rfl) rfl rfl ?_
          by_cases e67_11 : w = 11
          · refine kx_tableIn (pc := 67) (tgt := 92) (kx_dd d_Ru_detail 40 rfl) (by rw [e67_11] <;> decide) (by rw [e67_11] <;> decide) (by rw [e67_11] <;> rfl) rfl ?_
            refine kx_aload_n (pc := 92) (kx_dd d_Ru_detail 41 rfl) rfl rfl ?_
            refine kx_getI (pc := 93) fl_Ru_40 (by rw [hr.1]) rfl (kx_dd d_Ru_detail 42 rfl) ?_
            refine kx_iret (pc := 96) rfl (kx_dd d_Ru_detail 43 rfl) (Nat.le_refl _) (Nat.le_refl _) ?_
            refine ⟨?_, rfl⟩
            unfold detR
            rw [if_neg (fun z => absurd z.2 (Int32.not_lt.mpr c7)), if_neg (fun z => absurd z.1 (Int32.not_le.mpr c20)), if_neg (fun z => absurd z.1 (Int32.not_le.mpr c42))]
            rw [if_pos e67_11, hp.2.2.1]
          · skip
            by_cases e67_12 : w = 12
            · refine kx_tableIn (pc := 67) (tgt := 97) (kx_dd d_Ru_detail 40 rfl) (by rw [e67_12] <;> decide) (by rw [e67_12] <;> decide) (by rw [e67_12] <;> rfl) rfl ?_
              refine kx_aload_n (pc := 97) (kx_dd d_Ru_detail 44 rfl) rfl rfl ?_
              refine kx_getI (pc := 98) fl_Ru_47 (by rw [hr.1]) rfl (kx_dd d_Ru_detail 45 rfl) ?_
              refine kx_iret (pc := 101) rfl (kx_dd d_Ru_detail 46 rfl) (Nat.le_refl _) (Nat.le_refl _) ?_
              refine ⟨?_, rfl⟩
              unfold detR
              rw [if_neg (fun z => absurd z.2 (Int32.not_lt.mpr c7)), if_neg (fun z => absurd z.1 (Int32.not_le.mpr c20)), if_neg (fun z => absurd z.1 (Int32.not_le.mpr c42))]
              rw [if_neg e67_11, if_pos e67_12, hp.2.2.2.2.2.2.1]
            · skip
              by_cases e67_13 : w = 13
              · refine kx_tableIn (pc := 67) (tgt := 102) (kx_dd d_Ru_detail 40 rfl) (by rw [e67_13] <;> decide) (by rw [e67_13] <;> decide) (by rw [e67_13] <;> rfl) rfl ?_
                refine kx_aload_n (pc := 102) (kx_dd d_Ru_detail 47 rfl) rfl rfl ?_
                refine kx_getI (pc := 103) fl_Ru_50 (by rw [hr.1]) rfl (kx_dd d_Ru_detail 48 rfl) ?_
                refine kx_iret (pc := 106) rfl (kx_dd d_Ru_detail 49 rfl) (Nat.le_refl _) (Nat.le_refl _) ?_
                refine ⟨?_, rfl⟩
                unfold detR
                rw [if_neg (fun z => absurd z.2 (Int32.not_lt.mpr c7)), if_neg (fun z => absurd z.1 (Int32.not_le.mpr c20)), if_neg (fun z => absurd z.1 (Int32.not_le.mpr c42))]
                rw [if_neg e67_11, if_neg e67_12, if_pos e67_13, hp.2.2.2.2.2.2.2.1]
              · skip
                refine kx_tableOut (pc := 67) (tgt := 107) (kx_dd d_Ru_detail 40 rfl) (by have y0 := lv_neT (a := 11) e67_11 (by decide); have y1 := lv_neT (a := 12) e67_12 (by decide); have y2 := lv_neT (a := 13) e67_13 (by decide); omega) rfl ?_
                refine kx_bipush (pc := 107) (v := -9) (kx_dd d_Ru_detail 50 rfl) rfl ?_
                refine kx_iret (pc := 109) rfl (kx_dd d_Ru_detail 51 rfl) (Nat.le_refl _) (Nat.le_refl _) ?_
                refine ⟨?_, rfl⟩
                unfold detR
                rw [if_neg (fun z => absurd z.2 (Int32.not_lt.mpr c7)), if_neg (fun z => absurd z.1 (Int32.not_le.mpr c20)), if_neg (fun z => absurd z.1 (Int32.not_le.mpr c42))]
                rw [if_neg e67_11, if_neg e67_12, if_neg e67_13]
        · refine kx_iload_n (pc := 45) (kx_dd d_Ru_detail 26 rfl) rfl rfl ?_
          refine kx_bipush (pc := 46) (v := 30) (kx_dd d_Ru_detail 27 rfl) rfl ?_
          refine kx_aload_n (pc := 48) (kx_dd d_Ru_detail 28 rfl) rfl rfl ?_
          refine kx_getI (pc := 49) fl_Ru_40 (by rw [hr.1]) rfl (kx_dd d_Ru_detail 29 rfl) ?_
          refine kx_iadd (pc := 52) (kx_dd d_Ru_detail 30 rfl) ?_
          rw [hp.2.2.1, show (30 : Int32) = nI 30 from rfl, nI_add]
          refine kx_icmp_ge (pc := 53) (tgt := 66) (kx_dd d_Ru_detail 31 rfl) rfl (fun c53 => ?_) (fun c53 => ?_)
          · refine kx_iload_n (pc := 66) (kx_dd d_Ru_detail 39 rfl) rfl rfl ?_
            by_cases e67_11 : w = 11
            · refine kx_tableIn (pc := 67) (tgt := 92) (kx_dd d_Ru_detail 40 rfl) (by rw [e67_11] <;> decide) (by rw [e67_11] <;> decide) (by rw [e67_11] <;> rfl) rfl ?_
              refine kx_aload_n (pc := 92) (kx_dd d_Ru_detail 41 rfl) rfl rfl ?_
              refine kx_getI (pc := 93) fl_Ru_40 (by rw [hr.1]) rfl (kx_dd d_Ru_detail 42 rfl) ?_
              refine kx_iret (pc := 96) rfl (kx_dd d_Ru_detail 43 rfl) (Nat.le_refl _) (Nat.le_refl _) ?_
              refine ⟨?_, rfl⟩
              unfold detR
              rw [if_neg (fun z => absurd z.2 (Int32.not_lt.mpr c7)), if_neg (fun z => absurd z.1 (Int32.not_le.mpr c20)), if_neg (fun z => absurd z.2 (Int32.not_lt.mpr c53))]
              rw [if_pos e67_11, hp.2.2.1]
            · skip
              by_cases e67_12 : w = 12
              · refine kx_tableIn (pc := 67) (tgt := 97) (kx_dd d_Ru_detail 40 rfl) (by rw [e67_12] <;> decide) (by rw [e67_12] <;> decide) (by rw [e67_12] <;> rfl) rfl ?_
                refine kx_aload_n (pc := 97) (kx_dd d_Ru_detail 44 rfl) rfl rfl ?_
                refine kx_getI (pc := 98) fl_Ru_47 (by rw [hr.1]) rfl (kx_dd d_Ru_detail 45 rfl) ?_
                refine kx_iret (pc := 101) rfl (kx_dd d_Ru_detail 46 rfl) (Nat.le_refl _) (Nat.le_refl _) ?_
                refine ⟨?_, rfl⟩
                unfold detR
                rw [if_neg (fun z => absurd z.2 (Int32.not_lt.mpr c7)), if_neg (fun z => absurd z.1 (Int32.not_le.mpr c20)), if_neg (fun z => absurd z.2 (Int32.not_lt.mpr c53))]
                rw [if_neg e67_11, if_pos e67_12, hp.2.2.2.2.2.2.1]
              · skip
                by_cases e67_13 : w = 13
                · refine kx_tableIn (pc := 67) (tgt := 102) (kx_dd d_Ru_detail 40 rfl) (by rw [e67_13] <;> decide) (by rw [e67_13] <;> decide) (by rw [e67_13] <;> rfl) rfl ?_
                  refine kx_aload_n (pc := 102) (kx_dd d_Ru_detail 47 rfl) rfl rfl ?_
                  refine kx_getI (pc := 103) fl_Ru_50 (by rw [hr.1]) rfl (kx_dd d_Ru_detail 48 rfl) ?_
                  refine kx_iret (pc := 106) rfl (kx_dd d_Ru_detail 49 rfl) (Nat.le_refl _) (Nat.le_refl _) ?_
                  refine ⟨?_, rfl⟩
                  unfold detR
                  rw [if_neg (fun z => absurd z.2 (Int32.not_lt.mpr c7)), if_neg (fun z => absurd z.1 (Int32.not_le.mpr c20)), if_neg (fun z => absurd z.2 (Int32.not_lt.mpr c53))]
                  rw [if_neg e67_11, if_neg e67_12, if_pos e67_13, hp.2.2.2.2.2.2.2.1]
                · skip
                  refine kx_tableOut (pc := 67) (tgt := 107) (kx_dd d_Ru_detail 40 rfl) (by have y0 := lv_neT (a := 11) e67_11 (by decide); have y1 := lv_neT (a := 12) e67_12 (by decide); have y2 := lv_neT (a := 13) e67_13 (by decide); omega) rfl ?_
                  refine kx_bipush (pc := 107) (v := -9) (kx_dd d_Ru_detail 50 rfl) rfl ?_
                  refine kx_iret (pc := 109) rfl (kx_dd d_Ru_detail 51 rfl) (Nat.le_refl _) (Nat.le_refl _) ?_
                  refine ⟨?_, rfl⟩
                  unfold detR
                  rw [if_neg (fun z => absurd z.2 (Int32.not_lt.mpr c7)), if_neg (fun z => absurd z.1 (Int32.not_le.mpr c20)), if_neg (fun z => absurd z.2 (Int32.not_lt.mpr c53))]
                  rw [if_neg e67_11, if_neg e67_12, if_neg e67_13]
          · obtain ⟨q, hq, rfl, hq1⟩ := i_ge (n := 30) (by decide) (Int32.not_lt.mp c42)
            have hq2 : q < 30 + ruK r := by rcases Nat.lt_or_ge q (30 + ruK r) with z | z; exact z; exact absurd (nI_le z hq) c53
            refine kx_aload_n (pc := 56) (kx_dd d_Ru_detail 32 rfl) rfl rfl ?_
            refine kx_getR (pc := 57) (b := (a + 4)) fl_Ru_22 (by rw [hr.1]) rfl (hr.2.2.2.2.2.2.2.2.2.2.2.2.1) (kx_dd d_Ru_detail 33 rfl) ?_
            refine kx_iload_n (pc := 60) (kx_dd d_Ru_detail 34 rfl) rfl rfl ?_
            refine kx_bipush (pc := 61) (v := 30) (kx_dd d_Ru_detail 35 rfl) rfl ?_
            refine kx_isub (pc := 63) (kx_dd d_Ru_detail 36 rfl) ?_
            refine kx_ialdn (pc := 64) (q - 30) (hr.2.2.2.2.1) (pk_sub (b := 30) hq1) (by omega) (by decide) (kx_dd d_Ru_detail 37 rfl) ?_
            refine kx_iret (pc := 65) rfl (kx_dd d_Ru_detail 38 rfl) (Nat.le_refl _) (Nat.le_refl _) ?_
            refine ⟨?_, rfl⟩
            unfold detR
            rw [if_neg (fun z => absurd z.2 (Int32.not_lt.mpr c7)), if_neg (fun z => absurd z.1 (Int32.not_le.mpr c20)), if_pos ⟨Int32.not_lt.mp c42, Int32.not_le.mp c53⟩, nI_clamp hq, (hp.2.2.2.1 (q - 30) (by omega)).2]
      · refine kx_iload_n (pc := 23) (kx_dd d_Ru_detail 13 rfl) rfl rfl ?_
        refine kx_bipush (pc := 24) (v := 24) (kx_dd d_Ru_detail 14 rfl) rfl ?_
        refine kx_icmp_ge (pc := 26) (tgt := 39) (kx_dd d_Ru_detail 15 rfl) rfl (fun c26 => ?_) (fun c26 => ?_)
        · refine kx_iload_n (pc := 39) (kx_dd d_Ru_detail 23 rfl) rfl rfl ?_
          refine kx_bipush (pc := 40) (v := 30) (kx_dd d_Ru_detail 24 rfl) rfl ?_
          refine kx_icmp_lt (pc := 42) (tgt := 66) (kx_dd d_Ru_detail 25 rfl) rfl (fun c42 => ?_) (fun c42 => ?_)
          · refine kx_iload_n (pc := 66) (kx_dd d_Ru_detail 39 rfl) rfl rfl ?_
            by_cases e67_11 : w = 11
            · refine kx_tableIn (pc := 67) (tgt := 92) (kx_dd d_Ru_detail 40 rfl) (by rw [e67_11] <;> decide) (by rw [e67_11] <;> decide) (by rw [e67_11] <;> rfl) rfl ?_
              refine kx_aload_n (pc := 92) (kx_dd d_Ru_detail 41 rfl) rfl rfl ?_
              refine kx_getI (pc := 93) fl_Ru_40 (by rw [hr.1]) rfl (kx_dd d_Ru_detail 42 rfl) ?_
              refine kx_iret (pc := 96) rfl (kx_dd d_Ru_detail 43 rfl) (Nat.le_refl _) (Nat.le_refl _) ?_
              refine ⟨?_, rfl⟩
              unfold detR
              rw [if_neg (fun z => absurd z.2 (Int32.not_lt.mpr c7)), if_neg (fun z => absurd z.2 (Int32.not_lt.mpr c26)), if_neg (fun z => absurd z.1 (Int32.not_le.mpr c42))]
              rw [if_pos e67_11, hp.2.2.1]
            · skip
              by_cases e67_12 : w = 12
              · refine kx_tableIn (pc := 67) (tgt := 97) (kx_dd d_Ru_detail 40 rfl) (by rw [e67_12] <;> decide) (by rw [e67_12] <;> decide) (by rw [e67_12] <;> rfl) rfl ?_
                refine kx_aload_n (pc := 97) (kx_dd d_Ru_detail 44 rfl) rfl rfl ?_
                refine kx_getI (pc := 98) fl_Ru_47 (by rw [hr.1]) rfl (kx_dd d_Ru_detail 45 rfl) ?_
                refine kx_iret (pc := 101) rfl (kx_dd d_Ru_detail 46 rfl) (Nat.le_refl _) (Nat.le_refl _) ?_
                refine ⟨?_, rfl⟩
                unfold detR
                rw [if_neg (fun z => absurd z.2 (Int32.not_lt.mpr c7)), if_neg (fun z => absurd z.2 (Int32.not_lt.mpr c26)), if_neg (fun z => absurd z.1 (Int32.not_le.mpr c42))]
                rw [if_neg e67_11, if_pos e67_12, hp.2.2.2.2.2.2.1]
              · skip
                by_cases e67_13 : w = 13
                · refine kx_tableIn (pc := 67) (tgt := 102) (kx_dd d_Ru_detail 40 rfl) (by rw [e67_13] <;> decide) (by rw [e67_13] <;> decide) (by rw [e67_13] <;> rfl) rfl ?_
                  refine kx_aload_n (pc := 102) (kx_dd d_Ru_detail 47 rfl) rfl rfl ?_
                  refine kx_getI (pc := 103) fl_Ru_50 (by rw [hr.1]) rfl (kx_dd d_Ru_detail 48 rfl) ?_
                  refine kx_iret (pc := 106) rfl (kx_dd d_Ru_detail 49 rfl) (Nat.le_refl _) (Nat.le_refl _) ?_
                  refine ⟨?_, rfl⟩
                  unfold detR
                  rw [if_neg (fun z => absurd z.2 (Int32.not_lt.mpr c7)), if_neg (fun z => absurd z.2 (Int32.not_lt.mpr c26)), if_neg (fun z => absurd z.1 (Int32.not_le.mpr c42))]
                  rw [if_neg e67_11, if_neg e67_12, if_pos e67_13, hp.2.2.2.2.2.2.2.1]
                · skip
                  refine kx_tableOut (pc := 67) (tgt := 107) (kx_dd d_Ru_detail 40 rfl) (by have y0 := lv_neT (a := 11) e67_11 (by decide); have y1 := lv_neT (a := 12) e67_12 (by decide); have y2 := lv_neT (a := 13) e67_13 (by decide); omega) rfl ?_
                  refine kx_bipush (pc := 107) (v := -9) (kx_dd d_Ru_detail 50 rfl) rfl ?_
                  refine kx_iret (pc := 109) rfl (kx_dd d_Ru_detail 51 rfl) (Nat.le_refl _) (Nat.le_refl _) ?_
                  refine ⟨?_, rfl⟩
                  unfold detR
                  rw [if_neg (fun z => absurd z.2 (Int32.not_lt.mpr c7)), if_neg (fun z => absurd z.2 (Int32.not_lt.mpr c26)), if_neg (fun z => absurd z.1 (Int32.not_le.mpr c42))]
                  rw [if_neg e67_11, if_neg e67_12, if_neg e67_13]
          · refine kx_iload_n (pc := 45) (kx_dd d_Ru_detail 26 rfl) rfl rfl ?_
            refine kx_bipush (pc := 46) (v := 30) (kx_dd d_Ru_detail 27 rfl) rfl ?_
            refine kx_aload_n (pc := 48) (kx_dd d_Ru_detail 28 rfl) rfl rfl ?_
            refine kx_getI (pc := 49) fl_Ru_40 (by rw [hr.1]) rfl (kx_dd d_Ru_detail 29 rfl) ?_
            refine kx_iadd (pc := 52) (kx_dd d_Ru_detail 30 rfl) ?_
            rw [hp.2.2.1, show (30 : Int32) = nI 30 from rfl, nI_add]
            refine kx_icmp_ge (pc := 53) (tgt := 66) (kx_dd d_Ru_detail 31 rfl) rfl (fun c53 => ?_) (fun c53 => ?_)
            · refine kx_iload_n (pc := 66) (kx_dd d_Ru_detail 39 rfl) rfl rfl ?_
              by_cases e67_11 : w = 11
              · refine kx_tableIn (pc := 67) (tgt := 92) (kx_dd d_Ru_detail 40 rfl) (by rw [e67_11] <;> decide) (by rw [e67_11] <;> decide) (by rw [e67_11] <;> rfl) rfl ?_
                refine kx_aload_n (pc := 92) (kx_dd d_Ru_detail 41 rfl) rfl rfl ?_
                refine kx_getI (pc := 93) fl_Ru_40 (by rw [hr.1]) rfl (kx_dd d_Ru_detail 42 rfl) ?_
                refine kx_iret (pc := 96) rfl (kx_dd d_Ru_detail 43 rfl) (Nat.le_refl _) (Nat.le_refl _) ?_
                refine ⟨?_, rfl⟩
                unfold detR
                rw [if_neg (fun z => absurd z.2 (Int32.not_lt.mpr c7)), if_neg (fun z => absurd z.2 (Int32.not_lt.mpr c26)), if_neg (fun z => absurd z.2 (Int32.not_lt.mpr c53))]
                rw [if_pos e67_11, hp.2.2.1]
              · skip
                by_cases e67_12 : w = 12
                · refine kx_tableIn (pc := 67) (tgt := 97) (kx_dd d_Ru_detail 40 rfl) (by rw [e67_12] <;> decide) (by rw [e67_12] <;> decide) (by rw [e67_12] <;> rfl) rfl ?_
                  refine kx_aload_n (pc := 97) (kx_dd d_Ru_detail 44 rfl) rfl rfl ?_
                  refine kx_getI (pc := 98) fl_Ru_47 (by rw [hr.1]) rfl (kx_dd d_Ru_detail 45 rfl) ?_
                  refine kx_iret (pc := 101) rfl (kx_dd d_Ru_detail 46 rfl) (Nat.le_refl _) (Nat.le_refl _) ?_
                  refine ⟨?_, rfl⟩
                  unfold detR
                  rw [if_neg (fun z => absurd z.2 (Int32.not_lt.mpr c7)), if_neg (fun z => absurd z.2 (Int32.not_lt.mpr c26)), if_neg (fun z => absurd z.2 (Int32.not_lt.mpr c53))]
                  rw [if_neg e67_11, if_pos e67_12, hp.2.2.2.2.2.2.1]
                · skip
                  by_cases e67_13 : w = 13
                  · refine kx_tableIn (pc := 67) (tgt := 102) (kx_dd d_Ru_detail 40 rfl) (by rw [e67_13] <;> decide) (by rw [e67_13] <;> decide) (by rw [e67_13] <;> rfl) rfl ?_
                    refine kx_aload_n (pc := 102) (kx_dd d_Ru_detail 47 rfl) rfl rfl ?_
                    refine kx_getI (pc := 103) fl_Ru_50 (by rw [hr.1]) rfl (kx_dd d_Ru_detail 48 rfl) ?_
                    refine kx_iret (pc := 106) rfl (kx_dd d_Ru_detail 49 rfl) (Nat.le_refl _) (Nat.le_refl _) ?_
                    refine ⟨?_, rfl⟩
                    unfold detR
                    rw [if_neg (fun z => absurd z.2 (Int32.not_lt.mpr c7)), if_neg (fun z => absurd z.2 (Int32.not_lt.mpr c26)), if_neg (fun z => absurd z.2 (Int32.not_lt.mpr c53))]
                    rw [if_neg e67_11, if_neg e67_12, if_pos e67_13, hp.2.2.2.2.2.2.2.1]
                  · skip
                    refine kx_tableOut (pc := 67) (tgt := 107) (kx_dd d_Ru_detail 40 rfl) (by have y0 := lv_neT (a := 11) e67_11 (by decide); have y1 := lv_neT (a := 12) e67_12 (by decide); have y2 := lv_neT (a := 13) e67_13 (by decide); omega) rfl ?_
                    refine kx_bipush (pc := 107) (v := -9) (kx_dd d_Ru_detail 50 rfl) rfl ?_
                    refine kx_iret (pc := 109) rfl (kx_dd d_Ru_detail 51 rfl) (Nat.le_refl _) (Nat.le_refl _) ?_
                    refine ⟨?_, rfl⟩
                    unfold detR
                    rw [if_neg (fun z => absurd z.2 (Int32.not_lt.mpr c7)), if_neg (fun z => absurd z.2 (Int32.not_lt.mpr c26)), if_neg (fun z => absurd z.2 (Int32.not_lt.mpr c53))]
                    rw [if_neg e67_11, if_neg e67_12, if_neg e67_13]
            · obtain ⟨q, hq, rfl, hq1⟩ := i_ge (n := 30) (by decide) (Int32.not_lt.mp c42)
              have hq2 : q < 30 + ruK r := by rcases Nat.lt_or_ge q (30 + ruK r) with z | z; exact z; exact absurd (nI_le z hq) c53
              refine kx_aload_n (pc := 56) (kx_dd d_Ru_detail 32 rfl) rfl rfl ?_
              refine kx_getR (pc := 57) (b := (a + 4)) fl_Ru_22 (by rw [hr.1]) rfl (hr.2.2.2.2.2.2.2.2.2.2.2.2.1) (kx_dd d_Ru_detail 33 rfl) ?_
              refine kx_iload_n (pc := 60) (kx_dd d_Ru_detail 34 rfl) rfl rfl ?_
              refine kx_bipush (pc := 61) (v := 30) (kx_dd d_Ru_detail 35 rfl) rfl ?_
              refine kx_isub (pc := 63) (kx_dd d_Ru_detail 36 rfl) ?_
              refine kx_ialdn (pc := 64) (q - 30) (hr.2.2.2.2.1) (pk_sub (b := 30) hq1) (by omega) (by decide) (kx_dd d_Ru_detail 37 rfl) ?_
              refine kx_iret (pc := 65) rfl (kx_dd d_Ru_detail 38 rfl) (Nat.le_refl _) (Nat.le_refl _) ?_
              refine ⟨?_, rfl⟩
              unfold detR
              rw [if_neg (fun z => absurd z.2 (Int32.not_lt.mpr c7)), if_neg (fun z => absurd z.2 (Int32.not_lt.mpr c26)), if_pos ⟨Int32.not_lt.mp c42, Int32.not_le.mp c53⟩, nI_clamp hq, (hp.2.2.2.1 (q - 30) (by omega)).2]
        · obtain ⟨q, hq, rfl, hq1⟩ := i_ge (n := 20) (by decide) (Int32.not_lt.mp c20)
          have hq2 : q < 24 := by rcases Nat.lt_or_ge q 24 with z | z; exact z; exact absurd (nI_le (a := 24) z hq) c26
          refine kx_aload_n (pc := 29) (kx_dd d_Ru_detail 16 rfl) rfl rfl ?_
          refine kx_getR (pc := 30) (b := (a + 2)) fl_Ru_15 (by rw [hr.1]) rfl (hr.2.2.2.2.2.2.2.2.2.2.1) (kx_dd d_Ru_detail 17 rfl) ?_
          refine kx_iload_n (pc := 33) (kx_dd d_Ru_detail 18 rfl) rfl rfl ?_
          refine kx_bipush (pc := 34) (v := 20) (kx_dd d_Ru_detail 19 rfl) rfl ?_
          refine kx_isub (pc := 36) (kx_dd d_Ru_detail 20 rfl) ?_
          refine kx_ialdn (pc := 37) (q - 20) (hr.2.2.1) (pk_sub (b := 20) hq1) (by omega) (by decide) (kx_dd d_Ru_detail 21 rfl) ?_
          refine kx_iret (pc := 38) rfl (kx_dd d_Ru_detail 22 rfl) (Nat.le_refl _) (Nat.le_refl _) ?_
          refine ⟨?_, rfl⟩
          unfold detR
          rw [if_neg (fun z => absurd z.2 (Int32.not_lt.mpr c7)), if_pos ⟨Int32.not_lt.mp c20, Int32.not_le.mp c26⟩, nI_clamp hq, hp.2.1 (q - 20) (by omega)]
    · obtain ⟨q, hq, rfl⟩ := nI_of c1
      have hq2 : q < 11 := by rcases Nat.lt_or_ge q 11 with z | z; exact z; exact absurd (nI_le (a := 11) z hq) c7
      refine kx_aload_n (pc := 10) (kx_dd d_Ru_detail 5 rfl) rfl rfl ?_
      refine kx_getR (pc := 11) (b := (a + 1)) fl_Ru_11 (by rw [hr.1]) rfl (hr.2.2.2.2.2.2.2.2.2.1) (kx_dd d_Ru_detail 6 rfl) ?_
      refine kx_iload_n (pc := 14) (kx_dd d_Ru_detail 7 rfl) rfl rfl ?_
      refine kx_ialdn (pc := 15) q (hr.2.1) rfl (by omega) (by decide) (kx_dd d_Ru_detail 8 rfl) ?_
      refine kx_iret (pc := 16) rfl (kx_dd d_Ru_detail 9 rfl) (Nat.le_refl _) (Nat.le_refl _) ?_
      refine ⟨?_, rfl⟩
      unfold detR
      rw [if_pos ⟨Int32.not_lt.mp c1, Int32.not_le.mp c7⟩, nI_clamp hq, hp.1 q (by omega)]
